/-! the model's search -/
def keepS (u v : Ob) : Prop := (∀ j, j ≠ 16 → v.1 j = u.1 j) ∧ (∀ j, j ≠ 13 → j ≠ 14 → j ≠ 15 → j ≠ 17 → j ≠ 18 → j ≠ 19 → v.2.1 j = u.2.1 j) ∧ (∀ j, 81 ≤ j → v.2.1 13 j = u.2.1 13 j) ∧ (∀ j, 162 ≤ j → v.2.1 14 j = u.2.1 14 j) ∧ ∀ j, 1782 ≤ j → v.2.1 15 j = u.2.1 15 j
theorem keepS.rf {u : Ob} : keepS u u := ⟨fun _ _ => rfl, fun _ _ _ _ _ _ _ => rfl, fun _ _ => rfl, fun _ _ => rfl, fun _ _ => rfl⟩
theorem keepS.trans {u v w : Ob} (h : keepS u v) (g : keepS v w) : keepS u w :=
  ⟨fun j a => (g.1 j a).trans (h.1 j a), fun j a b c d e f => (g.2.1 j a b c d e f).trans (h.2.1 j a b c d e f), fun j a => (g.2.2.1 j a).trans (h.2.2.1 j a), fun j a => (g.2.2.2.1 j a).trans (h.2.2.2.1 j a), fun j a => (g.2.2.2.2 j a).trans (h.2.2.2.2 j a)⟩
theorem keepP.S {u v : Ob} {p : Nat} (h : keepP u v p) (hp : p ≤ 80) : keepS u v := by
  obtain ⟨h1, h2, h3, h4, h5, h6⟩ := h
  refine ⟨fun j _ => by rw [h1], fun j a b c _ _ _ => h3 j a b c, fun j a => h4 j (by omega), fun j a => h5 j (by omega) (by omega), fun j a => h6 j (by omega)⟩
theorem keepS.P {u v : Ob} (h : keepS u v) {p st : Nat} {ws : Nat → List Nat} (hp : 81 ≤ p) (hm : mdP u p st ws) : mdP v p st ws := by
  refine ⟨?_, fun k hk => ⟨?_, fun i hi => ?_⟩⟩
  · rw [h.2.2.1 p hp]
    exact hm.1
  · rw [h.2.2.2.1 _ (by omega)]
    exact (hm.2 k hk).1
  · rw [h.2.2.2.2 _ (by omega)]
    exact (hm.2 k hk).2 i hi
theorem keepS.m {u v : Ob} (h : keepS u v) {N c : Nat} {bg : Nat → Bool} {ar : Nat → Nat → Nat} (hm : dmR u N c bg ar) : dmR v N c bg ar :=
  hm.cg (h.1 0 (by decide)) (h.1 2 (by decide)) (h.2.1 1 (by decide) (by decide) (by decide) (by decide) (by decide) (by decide)) (fun q hq => h.2.1 (3 + q) (by omega) (by omega) (by omega) (by omega) (by omega) (by omega))
theorem keepS.R {u v : Ob} (h : keepS u v) {N c : Nat} {bg : Nat → Bool} {ar : Nat → Nat → Nat} {tp : List Nat} {sN : Nat} {wN : Nat → List Nat} {sA : Nat} {wA : Nat → List Nat} {hd : Nat → Bool} {ln sz : Nat → Nat} {it : Nat → Nat → Int32} (hm : MR u N c bg ar tp sN wN sA wA hd ln sz it) : MR v N c bg ar tp sN wN sA wA hd ln sz it :=
  ⟨h.m hm.1, hm.2.1.cg (h.1 9 (by decide)) (h.2.1 8 (by decide) (by decide) (by decide) (by decide) (by decide) (by decide)), h.P (by decide) hm.2.2.1, h.P (by decide) hm.2.2.2.1, hm.2.2.2.2.cg (h.2.1 22 (by decide) (by decide) (by decide) (by decide) (by decide) (by decide)) (h.2.1 23 (by decide) (by decide) (by decide) (by decide) (by decide) (by decide)) (h.2.1 24 (by decide) (by decide) (by decide) (by decide) (by decide) (by decide))⟩
def dS (u : Ob) (F : Nat → Ent) (n : Nat) : Prop := u.1 16 = nI n ∧ n ≤ 80 ∧ ∀ k, k < n → mdP u k (F k).1 (F k).2.1 ∧ u.2.1 17 k = nI (F k).2.2.2.2 ∧ u.2.1 18 k = (F k).2.2.1 ∧ u.2.1 19 k = (F k).2.2.2.1 ∧ eK F k
theorem eK_len {F : Nat → Ent} {k : Nat} (h : eK F k) : ∀ l, l < 2 → ((F k).2.1 l).length ≤ 11 := fun l hl => by
  have := (h.2.1 l hl).2
  omega
theorem dS.P {u v : Ob} {F : Nat → Ent} {n : Nat} (h : dS u F n) (hk : keepP u v 80) : dS v F n := by
  refine ⟨by rw [hk.1]; exact h.1, h.2.1, fun k hkn => ?_⟩
  have hn := h.2.1
  obtain ⟨a1, a2, a3, a4, a5⟩ := h.2.2 k hkn
  refine ⟨hk.p a1 (by omega) (eK_len a5), ?_, ?_, ?_, a5⟩
  · rw [hk.2.2.1 17 (by decide) (by decide) (by decide)]
    exact a2
  · rw [hk.2.2.1 18 (by decide) (by decide) (by decide)]
    exact a3
  · rw [hk.2.2.1 19 (by decide) (by decide) (by decide)]
    exact a4
theorem lkW_eq (bg : Nat → Bool) (ar : Nat → Nat → Nat) (k a : Nat) (F : Nat → Ent) : lkW bg ar k a F = va_up (F k).2.1 (ar a 2) (ahead (bg (ar a 2)) (ar a 1) (ar a 3) ((F k).2.1 (ar a 2))) := by
  funext l
  by_cases z : l = ar a 2
  · rw [z, va_up_self]
    simp [lkW]
  · rw [va_up_ne _ _ z]
    have z2 : ¬ ar a 2 = l := fun y => z y.symm
    simp [lkW, z2]
theorem m_ahead {u : Ob} {N c : Nat} {bg : Nat → Bool} {ar : Nat → Nat → Nat} {F : Nat → Ent} {n : Nat} (hm : dmR u N c bg ar) (hk : mK N c ar) (hs : dS u F n) {k a : Nat} (hkn : k < n) (ha : a < c) {post : Ob → Prop} (h : ∀ v, keepP u v 80 → mdP v 80 (ar a 0) (lkW bg ar k a F) → post v) : wp_X8_ahead u (nI k) (nI a) post := by
  have hn := hs.2.1
  have hc := hk.2.2.1
  obtain ⟨a1, a2, a3, a4, a5⟩ := hs.2.2 k hkn
  obtain ⟨g0, g1, g2, g3, g4⟩ := hk.2.2.2 a ha
  have ca : (nI a).toNatClampNeg = a := nI_clamp (by omega)
  have ia : vp_in (nI a) 20 := vp_in_nI (by omega) (by omega)
  have j2 : vp_in (nI (ar a 2)) 2 := vp_in_nI g2 (by omega)
  unfold wp_X8_ahead
  refine s_copy (p := k) (q := 80) (by omega) (by omega) (by omega) a1 (eK_len a5) (fun u1 k1 p1 => ⟨ia, i80, fun u4 e4 => ?_⟩)
  have o1 := k1.m hm
  rw [ca, c80, show u1.2.1 3 a = nI (ar a 0) from o1.2.2.2 a 0 ha (by omega)] at e4
  have k4 : keepP u u4 80 := by
    rw [e4]
    exact k1.trans (keepP.st u1 80 _)
  have p4 : mdP u4 80 (ar a 0) (F k).2.1 := by
    rw [e4]
    exact p1.st (ar a 0)
  have o4 := k4.m hm
  have q1 : u4.2.1 4 a = nI (ar a 1) := o4.2.2.2 a 1 ha (by omega)
  have q2 : u4.2.1 5 a = nI (ar a 2) := o4.2.2.2 a 2 ha (by omega)
  have q3 : u4.2.1 6 a = nI (ar a 3) := o4.2.2.2 a 3 ha (by omega)
  have wl := p4.2 (ar a 2) g2
  have ok := a5.2.1 (ar a 2) g2
  have e160 : (160 : Int32) + nI (ar a 2) = nI (160 + ar a 2) := nI_add 160 _
  have s160 : u4.2.1 14 (160 + ar a 2) = nI ((F k).2.1 (ar a 2)).length := wl.1
  have j160 : vp_in (nI (160 + ar a 2)) 166 := vp_in_nI (by omega) (by omega)
  simp only [jn]
  rw [ca, q1, q2, q3, e160, nI_clamp (by omega), nI_clamp (by omega), s160, o4.2.2.1 _ g2]
  refine ⟨ia, ia, j160, ia, ?_⟩
  rw [lkW_eq] at h
  have fin : ∀ (v : Ob) (w : List Nat), ahead (bg (ar a 2)) (ar a 1) (ar a 3) ((F k).2.1 (ar a 2)) = w → keepW u4 v 80 (ar a 2) → mdW v 80 (ar a 2) w → post v := by
    intro v w hw kv wv
    refine h v (k4.trans (kv.P g2)) ?_
    rw [hw]
    exact p4.word g2 (eK_len a5) kv wv
  refine pk_ne (ar a 1) 2 (fun y2 => ⟨ia, ?_⟩) (fun y2 => ⟨j2, ?_⟩)
  · refine pk_ne (ar a 1) 1 (fun y1 => ?_) (fun y1 => ⟨j2, ?_⟩)
    · exact fin u4 _ (by rw [ahead, if_neg y1, if_neg y2]) keepW.rf wl
    · refine bI_if (fun z => ?_) (fun z => ?_)
      · have hah : ahead (bg (ar a 2)) (ar a 1) (ar a 3) ((F k).2.1 (ar a 2)) = if 0 < ((F k).2.1 (ar a 2)).length ∧ ((F k).2.1 (ar a 2)).getD (((F k).2.1 (ar a 2)).length - 1) 0 = ar a 3 then del ((F k).2.1 (ar a 2)) (((F k).2.1 (ar a 2)).length - 1) else (F k).2.1 (ar a 2) := by rw [ahead, if_pos y1, z, if_neg (by decide)]
        refine pk_le ((F k).2.1 (ar a 2)).length 0 (fun y3 => ?_) (fun y3 => ?_)
        · refine ⟨fun _ => fin u4 _ (by rw [hah, if_neg (by omega)]) keepW.rf wl, fun y => absurd (show (-1 : Int32) < 0 by decide) y⟩
        · have e5 : nI ((F k).2.1 (ar a 2)).length - 1 = nI (((F k).2.1 (ar a 2)).length - 1) := pk_sub (b := 1) (by omega)
          rw [e5]
          refine s_spot 80 (ar a 2) (((F k).2.1 (ar a 2)).length - 1) ⟨vp_in_nI (by omega) (by omega), ?_⟩
          rw [nI_clamp (by omega), wl.2 _ (by omega)]
          have hlk := lok_get ok.1 (show ((F k).2.1 (ar a 2)).length - 1 < ((F k).2.1 (ar a 2)).length by omega)
          refine pk_ne (((F k).2.1 (ar a 2)).getD (((F k).2.1 (ar a 2)).length - 1) 0) (ar a 3) (fun y4 => ?_) (fun y4 => ?_)
          · exact ⟨fun _ => fin u4 _ (by rw [hah, if_neg (by omega)]) keepW.rf wl, fun y => absurd (show (-1 : Int32) < 0 by decide) y⟩
          · refine ⟨fun y => absurd y (nI_pos (by omega)), fun _ => ?_⟩
            exact s_takeOut (p := 80) (by decide) g2 wl (by omega) (by omega) (fun v kv wv => fin v _ (by rw [hah, if_pos ⟨y3, y4⟩]) kv wv)
      · have hah : ahead (bg (ar a 2)) (ar a 1) (ar a 3) ((F k).2.1 (ar a 2)) = if fx ((F k).2.1 (ar a 2)) (ar a 3) < ((F k).2.1 (ar a 2)).length then del ((F k).2.1 (ar a 2)) (fx ((F k).2.1 (ar a 2)) (ar a 3)) else (F k).2.1 (ar a 2) := by rw [ahead, if_pos y1, z, if_pos rfl]
        refine s_firstOf (p := 80) (by decide) g2 g3 wl ok.1 (by omega) (fun hf => ?_) (fun hf => ?_)
        · refine ⟨fun y => absurd y (nI_pos (by omega)), fun _ => ?_⟩
          exact s_takeOut (p := 80) (by decide) g2 wl (by omega) hf (fun v kv wv => fin v _ (by rw [hah, if_pos hf]) kv wv)
        · exact ⟨fun _ => fin u4 _ (by rw [hah, if_neg (by omega)]) keepW.rf wl, fun y => absurd (show (-1 : Int32) < 0 by decide) y⟩
  · refine bI_if (fun z => ?_) (fun z => ?_)
    · exact s_putIn (p := 80) (i := 0) (by decide) g2 wl ok.2 (Nat.zero_le _) (fun v kv wv => fin v _ (by rw [ahead, if_neg (by omega), if_pos y2, z, if_neg (by decide)]) kv wv)
    · refine s_inOrder (p := 80) (by decide) g2 g3 wl ok.1 (by omega) ?_
      exact s_putIn (p := 80) (by decide) g2 wl ok.2 (pio_le _ _) (fun v kv wv => fin v _ (by rw [ahead, if_neg (by omega), if_pos y2, z, if_pos rfl]; rfl) kv wv)
theorem m_isNew {u : Ob} {F : Nat → Ent} {n st : Nat} {ws : Nat → List Nat} (hs : dS u F n) (h80 : mdP u 80 st ws) (hst : st < 8) (hw : ∀ l, l < 2 → lok (ws l) ∧ (ws l).length ≤ 11) {post : Int32 → Prop} (h : post (bI (decide (fbl (bel F st ws) n = n)))) : wp_X8_isNew u post := by
  have hn := hs.2.1
  unfold wp_X8_isNew
  rw [hs.1]
  refine lq2_m (fun m x y => ∃ (k : Nat) (b : Bool), k + m = n ∧ x = nI k ∧ y = bI b ∧ (b = true → ∀ j, j < k → bel F st ws j = false) ∧ (b = false → fbl (bel F st ws) n < n)) ?_ n 0 1 ⟨0, true, by omega, rfl, rfl, fun _ j hj => absurd hj (Nat.not_lt_zero j), fun z => absurd z (by decide)⟩
  rintro LL m x y ⟨k, b, hkm, rfl, rfl, hb1, hb0⟩ ih
  have fin : (b = true → k = n) → zb (bI b) ∧ post (bI b) := by
    intro hx
    refine ⟨zb_bI b, ?_⟩
    cases b with
    | true =>
      have e := fbl_none (p := bel F st ws) (n := n) (fun j hj => hb1 rfl j (by rw [hx rfl]; exact hj))
      rw [decide_eq_true e] at h
      exact h
    | false =>
      have e := hb0 rfl
      rw [decide_eq_false (by omega)] at h
      exact h
  refine pk_le n k (fun hc => fin (fun _ => by omega)) (fun hc => ?_)
  refine bI_if (fun z => fin (fun z2 => by rw [z] at z2; cases z2)) (fun z => ?_)
  obtain ⟨a1, a2, a3, a4, a5⟩ := hs.2.2 k hc
  refine s_isBelow (q := 80) (by omega) (by decide) (by have := a5.1; omega) (by omega) a1 h80 (fun l hl => ⟨(a5.2.1 l hl).1, eK_len a5 l hl⟩) hw ?_
  simp only [jn]
  refine bI_if2 (fun g => ?_) (fun g => ?_)
  · refine ih (m - 1) _ _ (by omega) ⟨k + 1, false, by omega, nI_1 k, rfl, fun y => absurd y (by decide), fun _ => ?_⟩
    rw [fbl_eq (k := k) (hb1 z) hc g]
    exact hc
  · refine ih (m - 1) _ _ (by omega) ⟨k + 1, true, by omega, nI_1 k, rfl, fun _ j hj => ?_, fun y => absurd y (by decide)⟩
    rcases Nat.lt_or_ge j k with q | q
    · exact hb1 z j q
    · have e : j = k := by omega
      rw [e]
      exact g
theorem m_find {u : Ob} {F : Nat → Ent} {n : Nat} (hs : dS u F n) (hn : n < 80) (e : Ent) (he : eK (va_up F n e) n) (h80 : mdP u 80 e.1 e.2.1) {post : Ob → Prop} (h : ∀ v, dS v (va_up F n e) (n + 1) → keepS u v → post v) : wp_X8_find u (nI e.2.2.2.2) e.2.2.1 e.2.2.2.1 post := by
  unfold wp_X8_find
  rw [hs.1]
  have he2 := he
  unfold eK at he2
  rw [va_up_self] at he2
  refine s_copy (p := 80) (q := n) (by decide) (by omega) (by omega) h80 (fun l hl => by have := (he2.2.1 l hl).2; omega) (fun u1 k1 p1 => ?_)
  have cn : (nI n).toNatClampNeg = n := nI_clamp (by omega)
  have i0 : vp_in (nI n) 80 := vp_in_nI hn (by omega)
  have f1 : u1.1 16 = nI n := by rw [k1.1]; exact hs.1
  rw [f1, cn]
  refine ⟨i0, fun u3 e3 => ?_⟩
  have f3 : u3.1 16 = nI n := by rw [e3]; exact f1
  rw [f3, cn]
  refine ⟨i0, fun u5 e5 => ?_⟩
  have f5 : u5.1 16 = nI n := by rw [e5]; exact f3
  rw [f5, cn]
  refine ⟨i0, fun u7 e7 u8 e8 => ?_⟩
  have f7 : u7.1 16 = nI n := by rw [e7]; exact f5
  have kk : ∀ q, q ≠ 17 → q ≠ 18 → q ≠ 19 → u8.2.1 q = u1.2.1 q := by
    intro q q1 q2 q3
    rw [e8]
    show u7.2.1 q = _
    rw [e7, ob_ao _ _ q3, e5, ob_ao _ _ q2, e3, ob_ao _ _ q1]
  have a17 : u8.2.1 17 = upd (u1.2.1 17) n (nI e.2.2.2.2) := by
    rw [e8]
    show u7.2.1 17 = _
    rw [e7, ob_ao _ _ (by decide), e5, ob_ao _ _ (by decide), e3, ob_as]
  have a18 : u8.2.1 18 = upd (u1.2.1 18) n e.2.2.1 := by
    rw [e8]
    show u7.2.1 18 = _
    rw [e7, ob_ao _ _ (by decide), e5, ob_as, e3, ob_ao _ _ (by decide)]
  have a19 : u8.2.1 19 = upd (u1.2.1 19) n e.2.2.2.1 := by
    rw [e8]
    show u7.2.1 19 = _
    rw [e7, ob_as, e5, ob_ao _ _ (by decide), e3, ob_ao _ _ (by decide)]
  have pk : ∀ {p st : Nat} {ws : Nat → List Nat}, mdP u1 p st ws → mdP u8 p st ws := fun z => z.cg (kk 13 (by decide) (by decide) (by decide)) (kk 14 (by decide) (by decide) (by decide)) (kk 15 (by decide) (by decide) (by decide))
  refine h u8 ⟨?_, by omega, fun k hkn => ?_⟩ ((k1.S (by omega)).trans ⟨fun j hj => ?_, fun j b1 b2 b3 b4 b5 b6 => kk j b4 b5 b6, fun j _ => by rw [kk 13 (by decide) (by decide) (by decide)], fun j _ => by rw [kk 14 (by decide) (by decide) (by decide)], fun j _ => by rw [kk 15 (by decide) (by decide) (by decide)]⟩)
  · rw [e8, ob_is, f7]
    exact nI_1 n
  · by_cases z : k = n
    · subst z
      refine ⟨?_, ?_, ?_, ?_, he⟩
      · rw [va_up_self]
        exact pk p1
      · rw [va_up_self, a17, up_s]
      · rw [va_up_self, a18, up_s]
      · rw [va_up_self, a19, up_s]
    · obtain ⟨b1, b2, b3, b4, b5⟩ := hs.2.2 k (by omega)
      refine ⟨?_, ?_, ?_, ?_, ?_⟩
      · rw [va_up_ne _ _ z]
        exact pk (k1.p b1 z (eK_len b5))
      · rw [va_up_ne _ _ z, a17, up_o _ _ z, k1.2.2.1 17 (by decide) (by decide) (by decide)]
        exact b2
      · rw [va_up_ne _ _ z, a18, up_o _ _ z, k1.2.2.1 18 (by decide) (by decide) (by decide)]
        exact b3
      · rw [va_up_ne _ _ z, a19, up_o _ _ z, k1.2.2.1 19 (by decide) (by decide) (by decide)]
        exact b4
      · unfold eK at b5 ⊢
        rw [va_up_ne _ _ z]
        refine ⟨b5.1, b5.2.1, b5.2.2.1, b5.2.2.2.1, fun y => ?_⟩
        obtain ⟨j, hj, z2, z3⟩ := b5.2.2.2.2 y
        refine ⟨j, hj, z2, ?_⟩
        rw [va_up_ne _ _ (show j ≠ n by omega)]
        exact z3
  · rw [e8, ob_io _ _ hj, e7, e5, e3]
    rfl
theorem m_search {u : Ob} {N c : Nat} {bg : Nat → Bool} {ar : Nat → Nat → Nat} {sA : Nat} {wA : Nat → List Nat} (hm : dmR u N c bg ar) (hk : mK N c ar) (h81 : mdP u 81 sA wA) (hp : plK N sA wA) {post : Int32 → Ob → Prop}
    (h : ∀ v, keepS u v → ((srch bg ar c sA wA).2.2 = false → dS v (srch bg ar c sA wA).1 (srch bg ar c sA wA).2.1) → post (bI (!(srch bg ar c sA wA).2.2)) v) : wp_X8_search u post := by
  have hc := hk.2.2.1
  have hN := hk.2.1
  have hst := hp.1
  unfold wp_X8_search
  intro u1 e1
  have k1 : keepS u u1 := by
    rw [e1]
    exact ⟨fun j hj => ob_io _ _ hj, fun j _ _ _ _ _ _ => rfl, fun _ _ => rfl, fun _ _ => rfl, fun _ _ => rfl⟩
  have p1 := k1.P (by decide) h81
  refine s_copy (p := 81) (q := 80) (by decide) (by decide) (by decide) p1 (plK_len hp) (fun u2 k2 p2 => ?_)
  have s2 : dS u2 (fun _ => (0, nilW0, 0, 0, 0)) 0 := by
    refine ⟨?_, by omega, fun k hk => absurd hk (Nat.not_lt_zero k)⟩
    rw [k2.1, e1, ob_is]
    rfl
  have k0 : eK (va_up (fun _ => ((0, nilW0, 0, 0, 0) : Ent)) 0 (sA, wA, -2, -2, 0)) 0 := by
    unfold eK
    rw [va_up_self]
    exact ⟨by show sA < 8; omega, hp.2, Nat.le_refl _, fun _ => rfl, fun z => absurd z (Nat.lt_irrefl 0)⟩
  refine m_find s2 (by omega) (sA, wA, -2, -2, 0) k0 p2 (fun u3 s3 k3 => ?_)
  have t3 : keepS u u3 := (k1.trans (k2.S (by decide))).trans k3
  refine lq2_m (fun m x v => ∃ (k : Nat) (F : Nat → Ent) (n : Nat), k + m = 80 ∧ x = nI k ∧ dS v F n ∧ keepS u v ∧ srch bg ar c sA wA = srOut bg ar c m F n) ?_ 80 0 u3 ⟨0, _, 1, rfl, rfl, s3, t3, rfl⟩
  rintro LL m x v ⟨k, F, n, hkm, rfl, hs, kv, hsr⟩ ih
  have hn := hs.2.1
  rw [hs.1]
  refine pk_le n k (fun hc1 => ?_) (fun hc1 => ?_)
  · have e : srch bg ar c sA wA = (F, n, false) := by
      rw [hsr]
      cases m with
      | zero => rfl
      | succ m =>
        have ek : 80 - (m + 1) = k := by omega
        rw [srOut, ek, if_neg (by omega)]
    have h := h v kv (fun _ => by rw [e]; exact hs)
    rw [e] at h
    exact h
  have em : m = (m - 1) + 1 := by omega
  have ek : 80 - ((m - 1) + 1) = k := by omega
  rw [em, srOut, ek, if_pos hc1] at hsr
  refine lq2_m (fun m2 x2 v2 => ∃ (a : Nat) (F2 : Nat → Ent) (n2 : Nat), a + m2 = c ∧ x2 = nI a ∧ dS v2 F2 n2 ∧ keepS u v2 ∧ k < n2 ∧ srIn bg ar c k c F n = srIn bg ar c k m2 F2 n2) ?_ c 0 v ⟨0, F, n, by omega, rfl, hs, kv, hc1, rfl⟩
  rintro LL2 m2 x2 v2 ⟨a, F2, n2, ham, rfl, hs2, kv2, hk2, he2⟩ ih2
  have hn2 := hs2.2.1
  have o2 := kv2.m hm
  rw [o2.2.1]
  refine pk_le c a (fun hd => ?_) (fun hd => ?_)
  · have e : m2 = 0 := by omega
    rw [e] at he2
    refine ih (m - 1) _ _ (by omega) ⟨k + 1, F2, n2, by omega, nI_1 k, hs2, kv2, ?_⟩
    rw [hsr, he2]
    rfl
  have em2 : m2 = (m2 - 1) + 1 := by omega
  have ea : c - ((m2 - 1) + 1) = a := by omega
  rw [em2, srIn, ea] at he2
  obtain ⟨g0, g1, g2, g3, g4⟩ := hk.2.2.2 a hd
  obtain ⟨a1, a2, a3, a4, a5⟩ := hs2.2.2 k hk2
  have hF := a5.1
  rw [nI_clamp (by omega), nI_clamp (by omega), show v2.2.1 7 a = nI (ar a 4) from o2.2.2.2 a 4 hd (by omega), a1.1]
  refine ⟨vp_in_nI (by omega) (by omega), vp_in_nI (by omega) (by omega), ?_⟩
  refine pk_ne (ar a 4) (F2 k).1 (fun q => ?_) (fun q => ?_)
  · rw [if_neg q] at he2
    exact ih2 (m2 - 1) _ _ (by omega) ⟨a + 1, F2, n2, by omega, nI_1 a, hs2, kv2, hk2, he2⟩
  rw [if_pos q] at he2
  refine m_ahead o2 hk hs2 hk2 hd (fun v3 k3 p3 => ?_)
  have hs3 := hs2.P k3
  have kv3 : keepS u v3 := kv2.trans (k3.S (by decide))
  have okw := lkW_ok (bg := bg) hk hd a5
  refine m_isNew hs3 p3 (by omega) okw ?_
  have l0 : v3.2.1 14 160 = nI (lkW bg ar k a F2 0).length := (p3.2 0 (by omega)).1
  have l1 : v3.2.1 14 161 = nI (lkW bg ar k a F2 1).length := (p3.2 1 (by omega)).1
  have b0 := okw 0 (by omega)
  have b1 := okw 1 (by omega)
  refine bI_if (fun z => ?_) (fun z => ?_)
  · have z2 : ¬ fbl (bel F2 (ar a 0) (lkW bg ar k a F2)) n2 = n2 := of_decide_eq_false z
    have z3 := fbl_le (bel F2 (ar a 0) (lkW bg ar k a F2)) n2
    have lk : look bg ar k a F2 n2 = (F2, n2, false) := by rw [look, if_pos (by omega)]
    rw [lk, if_neg (by simp)] at he2
    exact ih2 (m2 - 1) _ _ (by omega) ⟨a + 1, F2, n2, by omega, nI_1 a, hs3, kv3, hk2, he2⟩
  have z2 : fbl (bel F2 (ar a 0) (lkW bg ar k a F2)) n2 = n2 := of_decide_eq_true z
  have spent : (80 ≤ n2 ∨ 10 < (lkW bg ar k a F2 0).length ∨ 10 < (lkW bg ar k a F2 1).length) → post 0 v3 := by
    intro hx
    have lk : look bg ar k a F2 n2 = (F2, n2, true) := by rw [look, if_neg (by omega), if_pos hx]
    rw [lk, if_pos rfl] at he2
    have e : srch bg ar c sA wA = (F2, n2, true) := by rw [hsr, he2]; rfl
    have h := h v3 kv3 (fun y => by rw [e] at y; cases y)
    rw [e] at h
    exact h
  have c160 : (160 : Int32).toNatClampNeg = 160 := rfl
  have c161 : (161 : Int32).toNatClampNeg = 161 := rfl
  rw [c160, c161, l0, l1, hs3.1]
  refine ⟨vp_in_nI (n := 160) (N := 166) (by omega) (by omega), ?_⟩
  refine pk_lt 10 _ (fun y => spent (Or.inr (Or.inl y))) (fun y => ?_)
  refine ⟨vp_in_nI (n := 161) (N := 166) (by omega) (by omega), ?_⟩
  refine pk_lt 10 _ (fun y2 => spent (Or.inr (Or.inr y2))) (fun y2 => ?_)
  refine pk_ne n2 80 (fun y3 => ⟨vp_in_nI (by omega) (by omega), ?_⟩) (fun y3 => spent (Or.inl (by omega)))
  have lk : look bg ar k a F2 n2 = (va_up F2 n2 (ar a 0, lkW bg ar k a F2, nI a, nI k, (F2 k).2.2.2.2 + 1), n2 + 1, false) := by rw [look, if_neg (by omega), if_neg (by omega)]
  rw [lk, if_neg (by simp)] at he2
  rw [(hs3.2.2 k hk2).2.1, nI_1]
  refine m_find hs3 (by omega) (ar a 0, lkW bg ar k a F2, nI a, nI k, (F2 k).2.2.2.2 + 1) (eK_new hk hd a5 hk2 (fun l hl => ?_)) p3 (fun v4 s4 k4 => ?_)
  · rcases (show l = 0 ∨ l = 1 by omega) with rfl | rfl
    · exact y
    · exact y2
  · exact ih2 (m2 - 1) _ _ (by omega) ⟨a + 1, _, n2 + 1, by omega, nI_1 a, s4, kv3.trans k4, by omega, he2⟩
theorem m_isLeast {u : Ob} {F : Nat → Ent} {n : Nat} (hs : dS u F n) {k : Nat} (hk : k < n) {post : Int32 → Prop} (h : post (bI (lea F n k))) : wp_X8_isLeast u (nI k) post := by
  have hn := hs.2.1
  obtain ⟨c1, c2, c3, c4, c5⟩ := hs.2.2 k hk
  unfold wp_X8_isLeast
  rw [hs.1]
  refine lq2_m (fun m x y => ∃ (j : Nat) (b : Bool), j + m = n ∧ x = nI j ∧ y = bI b ∧ (b = true → ∀ i, i < j → (decide (i ≠ k) && bel F (F k).1 (F k).2.1 i) = false) ∧ (b = false → lea F n k = false)) ?_ n 0 1 ⟨0, true, by omega, rfl, rfl, fun _ j hj => absurd hj (Nat.not_lt_zero j), fun z => absurd z (by decide)⟩
  rintro LL m x y ⟨j, b, hjm, rfl, rfl, hb1, hb0⟩ ih
  have fin : (b = true → j = n) → zb (bI b) ∧ post (bI b) := by
    intro hx
    refine ⟨zb_bI b, ?_⟩
    cases b with
    | true =>
      have e : lea F n k = true := by
        unfold lea
        rw [fbl_none (fun i hi => hb1 rfl i (by rw [hx rfl]; exact hi))]
        simp
      rw [e] at h
      exact h
    | false =>
      rw [hb0 rfl] at h
      exact h
  refine pk_le n j (fun hc => fin (fun _ => by omega)) (fun hc => ?_)
  refine bI_if (fun z => fin (fun z2 => by rw [z] at z2; cases z2)) (fun z => ?_)
  simp only [jn]
  have go1 : (decide (j ≠ k) && bel F (F k).1 (F k).2.1 j) = false → LL (nI j + 1) 1 := by
    intro hf
    refine ih (m - 1) _ _ (by omega) ⟨j + 1, true, by omega, nI_1 j, rfl, fun _ i hi => ?_, fun y => absurd y (by decide)⟩
    rcases Nat.lt_or_ge i j with q | q
    · exact hb1 z i q
    · have e : i = j := by omega
      rw [e]
      exact hf
  refine pk_eq j k (fun q => go1 (by simp [q])) (fun q => ?_)
  obtain ⟨a1, a2, a3, a4, a5⟩ := hs.2.2 j hc
  refine s_isBelow (by omega) (by omega) (by have := a5.1; omega) (by have := c5.1; omega) a1 c1 (fun l hl => ⟨(a5.2.1 l hl).1, eK_len a5 l hl⟩) (fun l hl => ⟨(c5.2.1 l hl).1, eK_len c5 l hl⟩) ?_
  refine bI_if2 (fun g => ?_) (fun g => go1 ?_)
  · refine ih (m - 1) _ _ (by omega) ⟨j + 1, false, by omega, nI_1 j, rfl, fun y => absurd y (by decide), fun _ => ?_⟩
    unfold lea
    rw [fbl_eq (k := j) (hb1 z) hc (by
      have g2 : bel F (F k).1 (F k).2.1 j = true := g
      simp [g2, q])]
    simp
    omega
  · have g2 : bel F (F k).1 (F k).2.1 j = false := g
    simp [g2]
theorem m_nearest {u : Ob} {F : Nat → Ent} {n N sN : Nat} {wN : Nat → List Nat} (hs : dS u F n) (h82 : mdP u 82 sN wN) (hp : plK N sN wN) (hN : N ≤ 8) {post : Int32 → Prop} (h1 : fbl (bel F sN wN) n < n → post (nI (fbl (bel F sN wN) n))) (h0 : fbl (bel F sN wN) n = n → post (-1)) : wp_X8_nearest u post := by
  have hn := hs.2.1
  have hst := hp.1
  unfold wp_X8_nearest
  rw [hs.1]
  refine lq1_m (fun m v => ∃ k, k + m = n ∧ v = nI k ∧ ∀ j, j < k → bel F sN wN j = false) ?_ n 0 ⟨0, by omega, rfl, fun j hj => absurd hj (Nat.not_lt_zero j)⟩
  rintro LL m v ⟨k, hkm, rfl, hno⟩ ih
  refine pk_le n k (fun hc => h0 (fbl_none (fun j hj => hno j (by omega)))) (fun hc => ?_)
  obtain ⟨a1, a2, a3, a4, a5⟩ := hs.2.2 k hc
  refine s_isBelow (q := 82) (by omega) (by decide) (by have := a5.1; omega) (by omega) a1 h82 (fun l hl => ⟨(a5.2.1 l hl).1, eK_len a5 l hl⟩) (fun l hl => ⟨(hp.2 l hl).1, plK_len hp l hl⟩) ?_
  refine bI_if (fun g => ?_) (fun g => ?_)
  · refine ih (m - 1) _ (by omega) ⟨k + 1, by omega, nI_1 k, fun j hj => ?_⟩
    rcases Nat.lt_or_ge j k with q | q
    · exact hno j q
    · have e : j = k := by omega
      rw [e]
      exact g
  · have e := fbl_eq hno hc g
    rw [← e]
    exact h1 (by omega)
