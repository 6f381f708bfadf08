/-! the model's state -/
def dmR (u : Ob) (N c : Nat) (bg : Nat → Bool) (ar : Nat → Nat → Nat) : Prop := u.1 0 = nI N ∧ u.1 2 = nI c ∧ (∀ k, k < 2 → u.2.1 1 k = bI (bg k)) ∧ ∀ i q, i < c → q < 5 → u.2.1 (3 + q) i = nI (ar i q)
def dtR (u : Ob) (tp : List Nat) : Prop := u.1 9 = nI tp.length ∧ ∀ i, i < tp.length → u.2.1 8 i = nI (tp.getD i 0)
def dsR (u : Ob) (hd : Nat → Bool) (ln sz : Nat → Nat) (it : Nat → Nat → Int32) : Prop := ∀ s, s < 2 → u.2.1 22 s = (if hd s then nI (ln s) else -1) ∧ u.2.1 23 s = nI (sz s) ∧ ∀ i, i < 60 → u.2.1 24 (60 * s + i) = it s i
theorem dmR.cg {u v : Ob} {N c : Nat} {bg : Nat → Bool} {ar : Nat → Nat → Nat} (h : dmR u N c bg ar) (h0 : v.1 0 = u.1 0) (h2 : v.1 2 = u.1 2) (h1 : v.2.1 1 = u.2.1 1) (h3 : ∀ q, q < 5 → v.2.1 (3 + q) = u.2.1 (3 + q)) : dmR v N c bg ar := by
  refine ⟨h0.trans h.1, h2.trans h.2.1, fun k hk => ?_, fun i q hi hq => ?_⟩
  · rw [h1]
    exact h.2.2.1 k hk
  · rw [h3 q hq]
    exact h.2.2.2 i q hi hq
theorem dtR.cg {u v : Ob} {tp : List Nat} (h : dtR u tp) (h9 : v.1 9 = u.1 9) (h8 : v.2.1 8 = u.2.1 8) : dtR v tp := by
  refine ⟨h9.trans h.1, fun i hi => ?_⟩
  rw [h8]
  exact h.2 i hi
theorem dsR.cg {u v : Ob} {hd : Nat → Bool} {ln sz : Nat → Nat} {it : Nat → Nat → Int32} (h : dsR u hd ln sz it) (h2 : v.2.1 22 = u.2.1 22) (h3 : v.2.1 23 = u.2.1 23) (h4 : v.2.1 24 = u.2.1 24) : dsR v hd ln sz it := by
  intro s hs
  rw [h2, h3, h4]
  exact h s hs
theorem mdP.cg {u v : Ob} {p st : Nat} {ws : Nat → List Nat} (h : mdP u p st ws) (h1 : v.2.1 13 = u.2.1 13) (h2 : v.2.1 14 = u.2.1 14) (h3 : v.2.1 15 = u.2.1 15) : mdP v p st ws := by
  refine ⟨?_, fun k hk => ⟨?_, fun i hi => ?_⟩⟩
  · rw [h1]
    exact h.1
  · rw [h2]
    exact (h.2 k hk).1
  · rw [h3]
    exact (h.2 k hk).2 i hi
theorem keepP.m {u v : Ob} {p : Nat} (h : keepP u v p) {N c : Nat} {bg : Nat → Bool} {ar : Nat → Nat → Nat} (hm : dmR u N c bg ar) : dmR v N c bg ar := by
  obtain ⟨h1, h2, h3, -⟩ := h
  exact hm.cg (by rw [h1]) (by rw [h1]) (h3 1 (by decide) (by decide) (by decide)) (fun q hq => h3 (3 + q) (by omega) (by omega) (by omega))
theorem keepP.t {u v : Ob} {p : Nat} (h : keepP u v p) {tp : List Nat} (hm : dtR u tp) : dtR v tp := by
  obtain ⟨h1, h2, h3, -⟩ := h
  exact hm.cg (by rw [h1]) (h3 8 (by decide) (by decide) (by decide))
theorem keepP.s {u v : Ob} {p : Nat} (h : keepP u v p) {hd : Nat → Bool} {ln sz : Nat → Nat} {it : Nat → Nat → Int32} (hm : dsR u hd ln sz it) : dsR v hd ln sz it := by
  obtain ⟨h1, h2, h3, -⟩ := h
  exact hm.cg (h3 22 (by decide) (by decide) (by decide)) (h3 23 (by decide) (by decide) (by decide)) (h3 24 (by decide) (by decide) (by decide))
theorem keepP.p {u v : Ob} {p : Nat} (h : keepP u v p) {q st : Nat} {ws : Nat → List Nat} (hm : mdP u q st ws) (hne : q ≠ p) (hl : ∀ k, k < 2 → (ws k).length ≤ 11) : mdP v q st ws := by
  refine ⟨?_, fun k hk => (hm.2 k hk).keepP h hk hne (hl k hk)⟩
  rw [h.2.2.2.1 q hne]
  exact hm.1
/-- all of the model -/
def MR (u : Ob) (N c : Nat) (bg : Nat → Bool) (ar : Nat → Nat → Nat) (tp : List Nat) (sN : Nat) (wN : Nat → List Nat) (sA : Nat) (wA : Nat → List Nat) (hd : Nat → Bool) (ln sz : Nat → Nat) (it : Nat → Nat → Int32) : Prop :=
  dmR u N c bg ar ∧ dtR u tp ∧ mdP u 82 sN wN ∧ mdP u 81 sA wA ∧ dsR u hd ln sz it
theorem plK_len {N st : Nat} {ws : Nat → List Nat} (h : plK N st ws) : ∀ k, k < 2 → (ws k).length ≤ 11 := fun k hk => by
  have := (h.2 k hk).2
  omega
theorem MR.now {u v : Ob} {N c : Nat} {bg : Nat → Bool} {ar : Nat → Nat → Nat} {tp : List Nat} {sN : Nat} {wN : Nat → List Nat} {sA : Nat} {wA : Nat → List Nat} {hd : Nat → Bool} {ln sz : Nat → Nat} {it : Nat → Nat → Int32} (h : MR u N c bg ar tp sN wN sA wA hd ln sz it) (hA : ∀ k, k < 2 → (wA k).length ≤ 11) (hk : keepP u v 82) {s2 : Nat} {w2 : Nat → List Nat} (hp : mdP v 82 s2 w2) : MR v N c bg ar tp s2 w2 sA wA hd ln sz it :=
  ⟨hk.m h.1, hk.t h.2.1, hp, hk.p h.2.2.2.1 (by decide) hA, hk.s h.2.2.2.2⟩
theorem MR.aim {u v : Ob} {N c : Nat} {bg : Nat → Bool} {ar : Nat → Nat → Nat} {tp : List Nat} {sN : Nat} {wN : Nat → List Nat} {sA : Nat} {wA : Nat → List Nat} {hd : Nat → Bool} {ln sz : Nat → Nat} {it : Nat → Nat → Int32} (h : MR u N c bg ar tp sN wN sA wA hd ln sz it) (hN : ∀ k, k < 2 → (wN k).length ≤ 11) (hk : keepP u v 81) {s2 : Nat} {w2 : Nat → List Nat} (hp : mdP v 81 s2 w2) : MR v N c bg ar tp sN wN s2 w2 hd ln sz it :=
  ⟨hk.m h.1, hk.t h.2.1, hk.p h.2.2.1 (by decide) hN, hp, hk.s h.2.2.2.2⟩
theorem nil_len : ∀ k, k < 2 → (nilW0 k).length ≤ 11 := fun _ _ => Nat.zero_le _
theorem nilW_eq : nilW = nilW0 := rfl
theorem m_states {u : Ob} {N c : Nat} {bg : Nat → Bool} {ar : Nat → Nat → Nat} {tp : List Nat} {sN : Nat} {wN : Nat → List Nat} {sA : Nat} {wA : Nat → List Nat} {hd : Nat → Bool} {ln sz : Nat → Nat} {it : Nat → Nat → Int32} (h : MR u N c bg ar tp sN wN sA wA hd ln sz it) (hN : ∀ k, k < 2 → (wN k).length ≤ 11) {x : Int32} {post : Int32 → Ob → Prop}
    (h1 : ixr x 1 8 = true → ∀ v, MR v x.toNatClampNeg 0 bg ar tp 0 nilW0 0 nilW0 hd ln sz it → post (nI N) v) (h0 : ixr x 1 8 = false → post (-1) u) : wp_X8_states u x post := by
  unfold wp_X8_states
  refine m_in (a := 1) (b := 8) (by decide) (by decide) ?_
  refine bI_if2 (fun e => ?_) (fun e => h0 e)
  obtain ⟨j, ha, hb, hx⟩ := ixr_t (by decide) e
  intro u3 e3 u4 e4
  have r4 : MR u4 x.toNatClampNeg 0 bg ar tp sN wN sA wA hd ln sz it := by
    obtain ⟨a1, a2, a3, a4, a5⟩ := h
    have k : u4.2 = u.2 := by rw [e4, e3]; rfl
    refine ⟨⟨?_, ?_, ?_, fun i q hi => absurd hi (Nat.not_lt_zero i)⟩, a2.cg ?_ (by rw [k]), a3.cg (by rw [k]) (by rw [k]) (by rw [k]), a4.cg (by rw [k]) (by rw [k]) (by rw [k]), a5.cg (by rw [k]) (by rw [k]) (by rw [k])⟩
    · rw [e4, ob_io _ _ (by decide), e3, ob_is, hx, nI_clamp (by omega)]
    · rw [e4, ob_is]
      rfl
    · rw [k]
      exact a1.2.2.1
    · rw [e4, ob_io _ _ (by decide), e3, ob_io _ _ (by decide)]
  refine s_empty (p := 81) (st := 0) (by decide) (fun v5 k5 p5 => ?_)
  have r5 := r4.aim hN k5 p5
  refine s_empty (p := 82) (st := 0) (by decide) (fun v6 k6 p6 => ?_)
  rw [h.1.1]
  exact h1 e v6 (r5.now nil_len k6 p6)
theorem m_bag {u : Ob} {N c : Nat} {bg : Nat → Bool} {ar : Nat → Nat → Nat} {tp : List Nat} {sN : Nat} {wN : Nat → List Nat} {sA : Nat} {wA : Nat → List Nat} {hd : Nat → Bool} {ln sz : Nat → Nat} {it : Nat → Nat → Int32} (h : MR u N c bg ar tp sN wN sA wA hd ln sz it) (hN : ∀ k, k < 2 → (wN k).length ≤ 11) {x : Int32} {b : Bool} {post : Int32 → Ob → Prop}
    (h1 : ix x 2 = true → ∀ v, MR v N c (va_up bg x.toNatClampNeg b) ar tp 0 nilW0 0 nilW0 hd ln sz it → post (bI (bg x.toNatClampNeg)) v) (h0 : ix x 2 = false → post (-1) u) : wp_X8_bag u x (bI b) post := by
  unfold wp_X8_bag
  refine m_in (a := 0) (b := 1) (by decide) (by decide) ?_
  rw [ixr_0]
  refine bI_if2 (fun e => ?_) (fun e => h0 e)
  have h1 := h1 e
  obtain ⟨j, hj, rfl⟩ := ix_t (by decide) e
  rw [nI_clamp (by omega)] at h1 ⊢
  have i1 : vp_in (nI j) 2 := vp_in_nI hj (by omega)
  rw [h.1.2.2.1 j hj, nar_bI]
  refine ⟨i1, i1, fun u5 e5 => ?_⟩
  have r5 : MR u5 N c (va_up bg j b) ar tp sN wN sA wA hd ln sz it := by
    obtain ⟨a1, a2, a3, a4, a5⟩ := h
    have k : ∀ q, q ≠ 1 → u5.2.1 q = u.2.1 q := fun q hq => by rw [e5, ob_ao _ _ hq]
    have k1 : u5.1 = u.1 := by rw [e5]; rfl
    refine ⟨⟨by rw [k1]; exact a1.1, by rw [k1]; exact a1.2.1, fun l hl => ?_, fun i q hi hq => ?_⟩, a2.cg (by rw [k1]) (k 8 (by decide)), a3.cg (k 13 (by decide)) (k 14 (by decide)) (k 15 (by decide)), a4.cg (k 13 (by decide)) (k 14 (by decide)) (k 15 (by decide)), a5.cg (k 22 (by decide)) (k 23 (by decide)) (k 24 (by decide))⟩
    · rw [e5, ob_as]
      by_cases z : l = j
      · rw [z, up_s, va_up_self]
      · rw [up_o _ _ z, va_up_ne _ _ z]
        exact a1.2.2.1 l hl
    · rw [k (3 + q) (by omega)]
      exact a1.2.2.2 i q hi hq
  refine s_empty (p := 81) (st := 0) (by decide) (fun v6 k6 p6 => ?_)
  have r6 := r5.aim hN k6 p6
  refine s_empty (p := 82) (st := 0) (by decide) (fun v7 k7 p7 => ?_)
  have r7 := h1 v7 (r6.now nil_len k7 p7)
  refine bI_if (fun z => ?_) (fun z => ?_)
  · rw [z] at r7
    exact r7
  · rw [z] at r7
    exact r7
theorem m_isState {u : Ob} {N c : Nat} {bg : Nat → Bool} {ar : Nat → Nat → Nat} (h : dmR u N c bg ar) (hN : N ≤ 8) {x : Int32} {post : Int32 → Prop} (hp : post (bI (ix x N))) : wp_X8_isState u x post := by
  unfold wp_X8_isState
  rw [h.1]
  exact m_in0 (by omega) ⟨zb_bI _, hp⟩
theorem m_isArc {u : Ob} {N c : Nat} {bg : Nat → Bool} {ar : Nat → Nat → Nat} (h : dmR u N c bg ar) (hc : c ≤ 20) {x : Int32} {post : Int32 → Prop} (hp : post (bI (ix x c))) : wp_X8_isArc u x post := by
  unfold wp_X8_isArc
  rw [h.2.1]
  exact m_in0 (by omega) ⟨zb_bI _, hp⟩
theorem m_isGood {u : Ob} {N c : Nat} {bg : Nat → Bool} {ar : Nat → Nat → Nat} (hm : dmR u N c bg ar) (hN : N ≤ 8) {x1 x2 x3 x4 x5 : Int32} {post : Int32 → Prop} (h : post (bI (gdA N x1 x2 x3 x4 x5))) : wp_X8_isGood u x1 x2 x3 x4 x5 post := by
  unfold wp_X8_isGood
  simp only [jn]
  refine m_isState hm hN ?_
  refine bI_if (fun e1 => ?_) (fun e1 => ?_)
  · rw [gdA, e1] at h
    exact ⟨fun _ => h, fun z => absurd (by trivial) z⟩
  refine m_isState hm hN ?_
  refine bI_if (fun e5 => ?_) (fun e5 => ?_)
  · have e : gdA N x1 x2 x3 x4 x5 = false := by simp [gdA, e5]
    rw [e] at h
    exact ⟨fun _ => h, fun z => absurd (by trivial) z⟩
  refine m_in (a := 0) (b := 2) (by decide) (by decide) ?_
  rw [ixr_0]
  refine bI_if (fun e2 => ?_) (fun e2 => ?_)
  · have e : gdA N x1 x2 x3 x4 x5 = false := by simp [gdA, e2]
    rw [e] at h
    exact ⟨fun _ => h, fun z => absurd (by trivial) z⟩
  rw [gdA, e1, e2, e5] at h
  refine ⟨fun z => absurd z (by decide), fun _ => ⟨fun z => ?_, fun z => ?_⟩⟩
  · rw [decide_eq_true z] at h
    exact h
  · rw [decide_eq_false z] at h
    refine m_in (a := 0) (b := 1) (by decide) (by decide) ?_
    rw [ixr_0]
    refine bI_if (fun e3 => ?_) (fun e3 => ?_)
    · rw [e3] at h
      exact h
    refine m_in (a := 0) (b := 2) (by decide) (by decide) ?_
    rw [ixr_0]
    refine bI_if (fun e4 => ?_) (fun e4 => ?_)
    · rw [e3, e4] at h
      exact h
    · rw [e3, e4] at h
      exact h
theorem m_put {u : Ob} {N c : Nat} {bg : Nat → Bool} {ar : Nat → Nat → Nat} {tp : List Nat} {sN : Nat} {wN : Nat → List Nat} {sA : Nat} {wA : Nat → List Nat} {hd : Nat → Bool} {ln sz : Nat → Nat} {it : Nat → Nat → Int32} (h : MR u N c bg ar tp sN wN sA wA hd ln sz it) (hA : ∀ k, k < 2 → (wA k).length ≤ 11) (hN : N ≤ 8) (hc : c < 20) {x1 x2 x3 x4 x5 : Int32} (hg : gdA N x1 x2 x3 x4 x5 = true) {post : Ob → Prop}
    (h1 : ∀ v, MR v N (c + 1) bg (va_up ar c (arN x1 x2 x3 x4 x5)) tp 0 nilW0 sA wA hd ln sz it → v.2.1 12 = u.2.1 12 → post v) : wp_X8_put u x1 x2 x3 x4 x5 post := by
  obtain ⟨g1, g2, g3, g4, g5⟩ := gdA_t hN hg
  unfold wp_X8_put
  have ec : u.1 2 = nI c := h.1.2.1
  have cn : (nI c).toNatClampNeg = c := nI_clamp (by omega)
  have i0 : vp_in (nI c) 20 := vp_in_nI hc (by omega)
  rw [ec, cn]
  refine ⟨i0, fun u2 e2 => ?_⟩
  have f2 : u2.1 2 = nI c := by rw [e2]; exact ec
  rw [f2, cn]
  refine ⟨i0, fun u4 e4 => ?_⟩
  have f4 : u4.1 2 = nI c := by rw [e4]; exact f2
  rw [f4, cn]
  simp only [jn]
  have key : ∀ w6 w10 : Int32, w6 = nI (arN x1 x2 x3 x4 x5 2) → w10 = nI (arN x1 x2 x3 x4 x5 3) → ∀ u8 : Ob, u8 = fs_a u4 5 (upd (u4.2.1 5) c w6) → ∀ u12 : Ob, u12 = fs_a u8 6 (upd (u8.2.1 6) c w10) → ∀ u14 : Ob, u14 = fs_a u12 7 (upd (u12.2.1 7) c x5) → ∀ u15 : Ob, u15 = fs_i u14 2 ((u14.1 2) + 1) → wp_X8_empty u15 82 0 (fun v => post v) := by
    intro w6 w10 hw6 hw10 u8 e8 u12 e12 u14 e14 u15 e15
    have f1 : u14.1 = u.1 := by rw [e14, e12, e8, e4, e2]; rfl
    have k : ∀ q, q ≠ 3 → q ≠ 4 → q ≠ 5 → q ≠ 6 → q ≠ 7 → u15.2.1 q = u.2.1 q := by
      intro q q3 q4 q5 q6 q7
      rw [e15]
      show u14.2.1 q = _
      rw [e14, ob_ao _ _ q7, e12, ob_ao _ _ q6, e8, ob_ao _ _ q5, e4, ob_ao _ _ q4, e2, ob_ao _ _ q3]
    have a3 : u15.2.1 3 = upd (u.2.1 3) c x1 := by
      rw [e15]
      show u14.2.1 3 = _
      rw [e14, ob_ao _ _ (by decide), e12, ob_ao _ _ (by decide), e8, ob_ao _ _ (by decide), e4, ob_ao _ _ (by decide), e2, ob_as]
    have a4 : u15.2.1 4 = upd (u.2.1 4) c x2 := by
      rw [e15]
      show u14.2.1 4 = _
      rw [e14, ob_ao _ _ (by decide), e12, ob_ao _ _ (by decide), e8, ob_ao _ _ (by decide), e4, ob_as, e2, ob_ao _ _ (by decide)]
    have a5 : u15.2.1 5 = upd (u.2.1 5) c w6 := by
      rw [e15]
      show u14.2.1 5 = _
      rw [e14, ob_ao _ _ (by decide), e12, ob_ao _ _ (by decide), e8, ob_as, e4, ob_ao _ _ (by decide), e2, ob_ao _ _ (by decide)]
    have a6 : u15.2.1 6 = upd (u.2.1 6) c w10 := by
      rw [e15]
      show u14.2.1 6 = _
      rw [e14, ob_ao _ _ (by decide), e12, ob_as, e8, ob_ao _ _ (by decide), e4, ob_ao _ _ (by decide), e2, ob_ao _ _ (by decide)]
    have a7 : u15.2.1 7 = upd (u.2.1 7) c x5 := by
      rw [e15]
      show u14.2.1 7 = _
      rw [e14, ob_as, e12, ob_ao _ _ (by decide), e8, ob_ao _ _ (by decide), e4, ob_ao _ _ (by decide), e2, ob_ao _ _ (by decide)]
    obtain ⟨b1, b2, b3, b4, b5⟩ := h
    have r15 : MR u15 N (c + 1) bg (va_up ar c (arN x1 x2 x3 x4 x5)) tp sN wN sA wA hd ln sz it := by
      refine ⟨⟨?_, ?_, fun l hl => ?_, fun i q hi hq => ?_⟩, b2.cg ?_ (k 8 (by decide) (by decide) (by decide) (by decide) (by decide)), b3.cg (k 13 (by decide) (by decide) (by decide) (by decide) (by decide)) (k 14 (by decide) (by decide) (by decide) (by decide) (by decide)) (k 15 (by decide) (by decide) (by decide) (by decide) (by decide)), b4.cg (k 13 (by decide) (by decide) (by decide) (by decide) (by decide)) (k 14 (by decide) (by decide) (by decide) (by decide) (by decide)) (k 15 (by decide) (by decide) (by decide) (by decide) (by decide)), b5.cg (k 22 (by decide) (by decide) (by decide) (by decide) (by decide)) (k 23 (by decide) (by decide) (by decide) (by decide) (by decide)) (k 24 (by decide) (by decide) (by decide) (by decide) (by decide))⟩
      · rw [e15, ob_io _ _ (by decide), f1]
        exact b1.1
      · rw [e15, ob_is, f1, b1.2.1]
        exact nI_1 c
      · rw [k 1 (by decide) (by decide) (by decide) (by decide) (by decide)]
        exact b1.2.2.1 l hl
      · by_cases z : i = c
        · subst z
          rw [va_up_self]
          rcases (show q = 0 ∨ q = 1 ∨ q = 2 ∨ q = 3 ∨ q = 4 by omega) with rfl | rfl | rfl | rfl | rfl
          · show u15.2.1 3 i = _
            rw [a3, up_s]
            exact g1.1
          · show u15.2.1 4 i = _
            rw [a4, up_s]
            exact g2.1
          · show u15.2.1 5 i = _
            rw [a5, up_s]
            exact hw6
          · show u15.2.1 6 i = _
            rw [a6, up_s]
            exact hw10
          · show u15.2.1 7 i = _
            rw [a7, up_s]
            exact g5.1
        · rw [va_up_ne _ _ z]
          have old := b1.2.2.2 i q (by omega) hq
          rcases (show q = 0 ∨ q = 1 ∨ q = 2 ∨ q = 3 ∨ q = 4 by omega) with rfl | rfl | rfl | rfl | rfl
          · show u15.2.1 3 i = _
            rw [a3, up_o _ _ z]
            exact old
          · show u15.2.1 4 i = _
            rw [a4, up_o _ _ z]
            exact old
          · show u15.2.1 5 i = _
            rw [a5, up_o _ _ z]
            exact old
          · show u15.2.1 6 i = _
            rw [a6, up_o _ _ z]
            exact old
          · show u15.2.1 7 i = _
            rw [a7, up_o _ _ z]
            exact old
      · rw [e15, ob_io _ _ (by decide), f1]
    refine s_empty (p := 82) (st := 0) (by decide) (fun v16 k16 p16 => h1 v16 (r15.now hA k16 p16) ?_)
    rw [k16.2.2.1 12 (by decide) (by decide) (by decide)]
    exact k 12 (by decide) (by decide) (by decide) (by decide) (by decide)
  have g6 : ∀ w : Int32, ∀ u8 : Ob, u8 = fs_a u4 5 (upd (u4.2.1 5) c w) → u8.1 2 = nI c := fun w u8 e8 => by rw [e8]; exact f4
  have body : ∀ w6 w10 : Int32, w6 = nI (arN x1 x2 x3 x4 x5 2) → w10 = nI (arN x1 x2 x3 x4 x5 3) → ∀ u8 : Ob, u8 = fs_a u4 5 (upd (u4.2.1 5) c w6) → vp_in (u8.1 2) 20 ∧ ∀ u12 : Ob, u12 = fs_a u8 6 (upd (u8.2.1 6) (u8.1 2).toNatClampNeg w10) → vp_in (u12.1 2) 20 ∧ ∀ u14 : Ob, u14 = fs_a u12 7 (upd (u12.2.1 7) (u12.1 2).toNatClampNeg x5) → ∀ u15 : Ob, u15 = fs_i u14 2 ((u14.1 2) + 1) → wp_X8_empty u15 82 0 (fun v => post v) := by
    intro w6 w10 hw6 hw10 u8 e8
    have f8 := g6 w6 u8 e8
    rw [f8, cn]
    refine ⟨i0, fun u12 e12 => ?_⟩
    have f12 : u12.1 2 = nI c := by rw [e12]; exact f8
    rw [f12, cn]
    exact ⟨i0, fun u14 e14 u15 e15 => key w6 w10 hw6 hw10 u8 e8 u12 e12 u14 e14 u15 e15⟩
  refine ⟨fun z => ?_, fun z => ?_⟩
  · rw [if_neg z] at g3 g4
    exact ⟨i0, fun u8 e8 => ⟨fun _ => body _ _ g3.1 g4.1 u8 e8, fun y => absurd y z⟩⟩
  · rw [if_pos z] at g3 g4
    exact ⟨i0, fun u8 e8 => ⟨fun y => absurd z y, fun _ => body _ _ g3.1 g4.1 u8 e8⟩⟩
theorem m_arc {u : Ob} {N c : Nat} {bg : Nat → Bool} {ar : Nat → Nat → Nat} {tp : List Nat} {sN : Nat} {wN : Nat → List Nat} {sA : Nat} {wA : Nat → List Nat} {hd : Nat → Bool} {ln sz : Nat → Nat} {it : Nat → Nat → Int32} (h : MR u N c bg ar tp sN wN sA wA hd ln sz it) (hA : ∀ k, k < 2 → (wA k).length ≤ 11) (hk : mK N c ar) {x1 x2 x3 x4 x5 : Int32} {post : Int32 → Ob → Prop}
    (h2 : gdA N x1 x2 x3 x4 x5 = true → c < 20 → ∀ v, MR v N (c + 1) bg (va_up ar c (arN x1 x2 x3 x4 x5)) tp 0 nilW0 sA wA hd ln sz it → post (nI c) v) (h1 : gdA N x1 x2 x3 x4 x5 = true → c = 20 → post (-3) u) (h0 : gdA N x1 x2 x3 x4 x5 = false → post (-1) u) : wp_X8_arc u x1 x2 x3 x4 x5 post := by
  have hc := hk.2.2.1
  unfold wp_X8_arc
  refine m_isGood h.1 hk.2.1 ?_
  refine bI_if2 (fun e => ?_) (fun e => h0 e)
  rw [h.1.2.1]
  refine pk_ne c 20 (fun q => ?_) (fun q => h1 e q)
  refine m_put h hA hk.2.1 (by omega) e (fun v hv _ => ?_)
  rw [hv.1.2.1, nI_pred]
  exact h2 e (by omega) v hv
theorem m_unarc {u : Ob} {N c : Nat} {bg : Nat → Bool} {ar : Nat → Nat → Nat} {tp : List Nat} {sN : Nat} {wN : Nat → List Nat} {sA : Nat} {wA : Nat → List Nat} {hd : Nat → Bool} {ln sz : Nat → Nat} {it : Nat → Nat → Int32} (h : MR u N c bg ar tp sN wN sA wA hd ln sz it) (hA : ∀ k, k < 2 → (wA k).length ≤ 11) (hk : mK N c ar) {post : Int32 → Ob → Prop}
    (h1 : 0 < c → ∀ v, MR v N (c - 1) bg ar tp 0 nilW0 sA wA hd ln sz it → post (nI (c - 1)) v) (h0 : c = 0 → post (-2) u) : wp_X8_unarc u post := by
  have hc := hk.2.2.1
  unfold wp_X8_unarc
  rw [h.1.2.1]
  refine pk_ne c 0 (fun q => ?_) (fun q => h0 q)
  intro u2 e2
  have e5 : nI c - 1 = nI (c - 1) := pk_sub (b := 1) (by omega)
  rw [e5] at e2
  have r2 : MR u2 N (c - 1) bg ar tp sN wN sA wA hd ln sz it := by
    obtain ⟨b1, b2, b3, b4, b5⟩ := h
    have k : u2.2 = u.2 := by rw [e2]; rfl
    refine ⟨⟨?_, ?_, ?_, fun i q hi hq => ?_⟩, b2.cg ?_ (by rw [k]), b3.cg (by rw [k]) (by rw [k]) (by rw [k]), b4.cg (by rw [k]) (by rw [k]) (by rw [k]), b5.cg (by rw [k]) (by rw [k]) (by rw [k])⟩
    · rw [e2, ob_io _ _ (by decide)]
      exact b1.1
    · rw [e2, ob_is]
    · rw [k]
      exact b1.2.2.1
    · rw [k]
      exact b1.2.2.2 i q (by omega) hq
    · rw [e2, ob_io _ _ (by decide)]
  refine s_empty (p := 82) (st := 0) (by decide) (fun v3 k3 p3 => ?_)
  have r3 := r2.now hA k3 p3
  rw [r3.1.2.1]
  exact h1 (by omega) v3 r3
theorem m_told {u : Ob} {N c : Nat} {bg : Nat → Bool} {ar : Nat → Nat → Nat} (hm : dmR u N c bg ar) (hk : mK N c ar) {x1 x2 : Int32} {post : Int32 → Prop} (h : post (A_told c ar x1 x2)) : wp_X8_told u x1 x2 post := by
  have hc := hk.2.2.1
  unfold wp_X8_told
  unfold A_told at h
  refine m_isArc hm hc ?_
  refine bI_if (fun e1 => ?_) (fun e1 => ?_)
  · rw [e1] at h
    exact h
  refine m_in (a := 0) (b := 4) (by decide) (by decide) ?_
  rw [ixr_0]
  refine bI_if2 (fun e2 => ?_) (fun e2 => ?_)
  · rw [e1, e2] at h
    obtain ⟨i, hi, rfl⟩ := ix_t (by omega) e1
    obtain ⟨q, hq, rfl⟩ := ix_t (by omega) e2
    rw [nI_clamp (by omega), nI_clamp (by omega)] at h
    have i1 : vp_in (nI i) 20 := vp_in_nI (by omega) (by omega)
    rw [nI_clamp (by omega)]
    have o := hm.2.2.2 i q hi hq
    have h : post (nI (ar i q)) := h
    rw [← o] at h
    refine pk_ne q 0 (fun z0 => ?_) (fun z0 => ?_)
    · refine pk_ne q 1 (fun z1 => ?_) (fun z1 => ?_)
      · refine pk_ne q 2 (fun z2 => ?_) (fun z2 => ?_)
        · refine pk_ne q 3 (fun z3 => ?_) (fun z3 => ?_)
          · have e : q = 4 := by omega
            subst e
            exact ⟨i1, h⟩
          · subst z3
            exact ⟨i1, h⟩
        · subst z2
          exact ⟨i1, h⟩
      · subst z1
        exact ⟨i1, h⟩
    · subst z0
      exact ⟨i1, h⟩
  · rw [e1, e2] at h
    exact h
