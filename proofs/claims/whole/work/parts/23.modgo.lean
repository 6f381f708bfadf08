/-! the model: go, lose, now, reset, aim, want -/
theorem mdW.cg {u v : Ob} {p k : Nat} {w : List Nat} (h : mdW u p k w) (h2 : v.2.1 14 = u.2.1 14) (h3 : v.2.1 15 = u.2.1 15) : mdW v p k w := by
  refine ⟨?_, fun i hi => ?_⟩
  · rw [h2]
    exact h.1
  · rw [h3]
    exact h.2 i hi
/-- one word of a place is another: the place behind it -/
theorem mdP.word {u v : Ob} {p st l : Nat} {ws : Nat → List Nat} {w : List Nat} (h : mdP u p st ws) (hl : l < 2) (hlen : ∀ k, k < 2 → (ws k).length ≤ 11) (kw : keepW u v p l) (hw : mdW v p l w) : mdP v p st (va_up ws l w) := by
  refine ⟨?_, fun k hk => ?_⟩
  · rw [kw.2.2.1 13 (by decide) (by decide)]
    exact h.1
  · by_cases z : k = l
    · rw [z, va_up_self]
      exact hw
    · rw [va_up_ne _ _ z]
      exact (h.2 k hk).keep kw hl hk (fun y => z y.2) (hlen k hk)
theorem mdP.st {u : Ob} {p st : Nat} {ws : Nat → List Nat} (h : mdP u p st ws) (t : Nat) : mdP (fs_a u 13 (upd (u.2.1 13) p (nI t))) p t ws := by
  refine ⟨?_, fun k hk => (h.2 k hk).cg (ob_ao _ _ (by decide)) (ob_ao _ _ (by decide))⟩
  rw [ob_as, up_s]
theorem mdP_same {u : Ob} {p st l : Nat} {ws : Nat → List Nat} (h : mdP u p st ws) : mdP u p st (va_up ws l (ws l)) := by
  refine ⟨h.1, fun k hk => ?_⟩
  by_cases z : k = l
  · rw [z, va_up_self, ← z]
    exact h.2 k hk
  · rw [va_up_ne _ _ z]
    exact h.2 k hk
theorem c82 : (82 : Int32).toNatClampNeg = 82 := rfl
theorem c80 : (80 : Int32).toNatClampNeg = 80 := rfl
theorem i82 : vp_in 82 83 := vp_in_nI (n := 82) (N := 83) (by omega) (by omega)
theorem i80 : vp_in 80 83 := vp_in_nI (n := 80) (N := 83) (by omega) (by omega)
theorem m_go {u : Ob} {N c : Nat} {bg : Nat → Bool} {ar : Nat → Nat → Nat} {tp : List Nat} {sN : Nat} {wN : Nat → List Nat} {sA : Nat} {wA : Nat → List Nat} {hd : Nat → Bool} {ln sz : Nat → Nat} {it : Nat → Nat → Int32} (h : MR u N c bg ar tp sN wN sA wA hd ln sz it) (hA : ∀ k, k < 2 → (wA k).length ≤ 11) (hk : mK N c ar) (hp : plK N sN wN) {x : Int32} {post : Int32 → Ob → Prop}
    (h3 : goN c bg ar sN wN x = 3 → ∀ v, MR v N c bg ar tp (ar x.toNatClampNeg 4) (goW bg ar wN x.toNatClampNeg) sA wA hd ln sz it → post (nI (ar x.toNatClampNeg 4)) v) (h2 : goN c bg ar sN wN x = 2 → post (-3) u) (h1 : goN c bg ar sN wN x = 1 → post (-2) u) (h0 : goN c bg ar sN wN x = 0 → post (-1) u) : wp_X8_go u x post := by
  have hc := hk.2.2.1
  have hN := hk.2.1
  have hst := hp.1
  unfold wp_X8_go
  refine m_isArc h.1 hc ?_
  refine bI_if2 (fun e => ?_) (fun e => h0 (by rw [goN, e]; rfl))
  unfold goN at h3 h2 h1
  rw [if_pos e] at h3 h2 h1
  obtain ⟨i, hi, rfl⟩ := ix_t (by omega) e
  have ci : (nI i).toNatClampNeg = i := nI_clamp (by omega)
  rw [ci] at h3 h2 h1 ⊢
  obtain ⟨g0, g1, g2, g3, g4⟩ := hk.2.2.2 i hi
  have o0 : u.2.1 3 i = nI (ar i 0) := h.1.2.2.2 i 0 hi (by omega)
  have o1 : u.2.1 4 i = nI (ar i 1) := h.1.2.2.2 i 1 hi (by omega)
  have o2 : u.2.1 5 i = nI (ar i 2) := h.1.2.2.2 i 2 hi (by omega)
  have o3 : u.2.1 6 i = nI (ar i 3) := h.1.2.2.2 i 3 hi (by omega)
  have o4 : u.2.1 7 i = nI (ar i 4) := h.1.2.2.2 i 4 hi (by omega)
  have i1 : vp_in (nI i) 20 := vp_in_nI (by omega) (by omega)
  have hw := hp.2 (ar i 2) g2
  have wl := h.2.2.1.2 (ar i 2) g2
  have e164 : (164 : Int32) + nI (ar i 2) = nI (164 + ar i 2) := nI_add 164 _
  have s164 : u.2.1 14 (164 + ar i 2) = nI (wN (ar i 2)).length := wl.1
  have j164 : vp_in (nI (164 + ar i 2)) 166 := vp_in_nI (by omega) (by omega)
  have j2 : vp_in (nI (ar i 2)) 2 := vp_in_nI g2 (by omega)
  simp only [jn]
  rw [c82, o0, o1, o2, o3, h.2.2.1.1, e164, nI_clamp (by omega), nI_clamp (by omega), s164, h.1.2.2.1 _ g2]
  refine ⟨i1, i1, i1, i82, ?_⟩
  refine pk_eq (ar i 0) sN (fun q => ?_) (fun q => h1 (by rw [if_neg q]))
  rw [if_pos q] at h3 h2 h1
  refine ⟨i1, ?_⟩
  have rest : ∀ (v : List Nat) (u10 : Ob), behind (bg (ar i 2)) (ar i 1) (ar i 3) (wN (ar i 2)) = some v → v.length ≤ 10 → keepP u u10 82 → mdP u10 82 sN (va_up wN (ar i 2) v) → vp_in (nI i) 20 ∧ vp_in 82 83 ∧ ∀ u_13 : Ob, u_13 = fs_a u10 13 (upd (u10.2.1 13) 82 (u10.2.1 7 i)) → vp_in 82 83 ∧ post (u_13.2.1 13 82) u_13 := by
    intro v u10 hv hl10 k10 p10
    rw [hv] at h3
    refine ⟨i1, i82, fun u13 e13 => ⟨i82, ?_⟩⟩
    rw [k10.2.2.1 7 (by decide) (by decide) (by decide), o4] at e13
    have f : u13.2.1 13 82 = nI (ar i 4) := by rw [e13, ob_as, up_s]
    rw [f]
    have f3 : goW bg ar wN i = va_up wN (ar i 2) v := by unfold goW; rw [hv]
    rw [f3] at h3
    refine h3 (if_neg (by omega)) u13 (h.now hA (k10.trans ?_) ?_)
    · rw [e13]
      exact keepP.st u10 82 _
    · rw [e13]
      exact p10.st (ar i 4)
  have hlen := plK_len hp
  refine pk_ne (ar i 1) 2 (fun y2 => ⟨i1, ?_⟩) (fun y2 => ?_)
  · refine pk_ne (ar i 1) 1 (fun y1 => ?_) (fun y1 => ⟨j164, ?_⟩)
    · exact rest _ u (by rw [behind, if_neg y1, if_neg y2]) hw.2 keepP.rf (mdP_same h.2.2.1)
    · have hb : behind (bg (ar i 2)) (ar i 1) (ar i 3) (wN (ar i 2)) = some (wwith (bg (ar i 2)) (wN (ar i 2)) (ar i 3)) := by rw [behind, if_pos y1]
      have hbl := wwith_len (bg (ar i 2)) (wN (ar i 2)) (ar i 3)
      refine pk_ne (wN (ar i 2)).length 10 (fun y3 => ⟨j2, ?_⟩) (fun y3 => ?_)
      · have put : ∀ k : Nat, k ≤ (wN (ar i 2)).length → wwith (bg (ar i 2)) (wN (ar i 2)) (ar i 3) = ins (wN (ar i 2)) k (ar i 3) → wp_X8_putIn u 82 (nI (ar i 2)) (nI k) (nI (ar i 3)) (fun (u_23 : Ob) => vp_in (nI i) 20 ∧ vp_in 82 83 ∧ ∀ u_13 : Ob, u_13 = fs_a u_23 13 (upd (u_23.2.1 13) 82 (u_23.2.1 7 i)) → vp_in 82 83 ∧ post (u_13.2.1 13 82) u_13) := by
          intro k hkl he
          refine s_putIn (p := 82) (by decide) g2 wl hw.2 hkl (fun v kv wv => ?_)
          rw [← he] at wv
          exact rest _ v hb (by omega) (kv.P g2) (h.2.2.1.word g2 hlen kv wv)
        refine bI_if (fun z => ⟨j164, ?_⟩) (fun z => ?_)
        · exact put _ (Nat.le_refl _) (by rw [wwith, z]; rfl)
        · refine s_inOrder (p := 82) (by decide) g2 g3 wl hw.1 (by omega) ?_
          exact put _ (pio_le _ _) (by rw [wwith, z]; rfl)
      · rw [hb] at h2
        exact h2 (if_pos (by omega))
  · have hb : behind (bg (ar i 2)) (ar i 1) (ar i 3) (wN (ar i 2)) = if canTake (bg (ar i 2)) (wN (ar i 2)) (ar i 3) then some (del (wN (ar i 2)) (fx (wN (ar i 2)) (ar i 3))) else none := by rw [behind, if_neg (by omega), if_pos y2]
    refine s_firstOf (p := 82) (by decide) g2 g3 wl hw.1 (by omega) (fun hf => ?_) (fun hf => ?_)
    · refine ⟨fun z => absurd z (nI_pos (by omega)), fun _ => ?_⟩
      have go : canTake (bg (ar i 2)) (wN (ar i 2)) (ar i 3) = true → wp_X8_takeOut u 82 (nI (ar i 2)) (nI (fx (wN (ar i 2)) (ar i 3))) (fun (u_30 : Ob) => vp_in (nI i) 20 ∧ vp_in 82 83 ∧ ∀ u_13 : Ob, u_13 = fs_a u_30 13 (upd (u_30.2.1 13) 82 (u_30.2.1 7 i)) → vp_in 82 83 ∧ post (u_13.2.1 13 82) u_13) := by
        intro hct
        rw [hct, if_pos rfl] at hb
        refine s_takeOut (p := 82) (by decide) g2 wl (by omega) hf (fun v kv wv => ?_)
        have hdl := del_len hf
        exact rest _ v hb (by omega) (kv.P g2) (h.2.2.1.word g2 hlen kv wv)
      refine pk_le (fx (wN (ar i 2)) (ar i 3)) 0 (fun y3 => ?_) (fun y3 => ⟨j2, ?_⟩)
      · have y4 : fx (wN (ar i 2)) (ar i 3) = 0 := by omega
        exact go (by rw [canTake, y4, decide_eq_true (show 0 < (wN (ar i 2)).length by omega)]; simp)
      · refine bI_if2 (fun z => ?_) (fun z => ?_)
        · exact go (by simp [canTake, z, hf])
        · refine h1 ?_
          have hct : canTake (bg (ar i 2)) (wN (ar i 2)) (ar i 3) = false := by
            have y5 : ¬ fx (wN (ar i 2)) (ar i 3) = 0 := by omega
            simp [canTake, z, y5]
          rw [hb, hct]
          rfl
    · refine ⟨fun _ => h1 ?_, fun z => absurd (show (-1 : Int32) < 0 by decide) z⟩
      have hct : canTake (bg (ar i 2)) (wN (ar i 2)) (ar i 3) = false := by simp [canTake, hf]
      rw [hb, hct]
      rfl
theorem m_lose {u : Ob} {N c : Nat} {bg : Nat → Bool} {ar : Nat → Nat → Nat} {tp : List Nat} {sN : Nat} {wN : Nat → List Nat} {sA : Nat} {wA : Nat → List Nat} {hd : Nat → Bool} {ln sz : Nat → Nat} {it : Nat → Nat → Int32} (h : MR u N c bg ar tp sN wN sA wA hd ln sz it) (hA : ∀ k, k < 2 → (wA k).length ≤ 11) (hp : plK N sN wN) {x1 x2 : Int32} {post : Int32 → Ob → Prop}
    (h1 : loN wN x1 x2 = true → ∀ v, MR v N c bg ar tp sN (va_up wN x1.toNatClampNeg (del (wN x1.toNatClampNeg) x2.toNatClampNeg)) sA wA hd ln sz it → post (nI ((wN x1.toNatClampNeg).getD x2.toNatClampNeg 0)) v) (h0 : loN wN x1 x2 = false → post (-1) u) : wp_X8_lose u x1 x2 post := by
  unfold wp_X8_lose
  refine m_in (a := 0) (b := 1) (by decide) (by decide) ?_
  rw [ixr_0]
  refine bI_if (fun e => h0 (by rw [loN, e]; rfl)) (fun e => ?_)
  unfold loN at h1 h0
  rw [e] at h1 h0
  obtain ⟨k, hk, rfl⟩ := ix_t (by omega) e
  rw [nI_clamp (by omega)] at h1 h0
  have hw := hp.2 k hk
  have wl := h.2.2.1.2 k hk
  have e164 : (164 : Int32) + nI k = nI (164 + k) := nI_add 164 _
  have s164 : u.2.1 14 (164 + k) = nI (wN k).length := wl.1
  rw [e164, nI_clamp (by omega), s164]
  refine ⟨vp_in_nI (by omega) (by omega), ?_⟩
  refine m_in0 (by omega) ?_
  refine bI_if2 (fun e2 => ?_) (fun e2 => h0 (by rw [e2]; rfl))
  rw [e2] at h1
  obtain ⟨i, hi, rfl⟩ := ix_t (by omega) e2
  rw [nI_clamp (by omega)] at h1
  refine s_spot 82 k i ⟨vp_in_nI (by omega) (by omega), ?_⟩
  rw [nI_clamp (by omega), wl.2 i hi]
  refine s_takeOut (p := 82) (by decide) hk wl (by omega) hi (fun v kv wv => ?_)
  exact h1 rfl v (h.now hA (kv.P hk) (h.2.2.1.word hk (plK_len hp) kv wv))
theorem m_now {u : Ob} {N : Nat} {sN : Nat} {wN : Nat → List Nat} (h : mdP u 82 sN wN) (hp : plK N sN wN) {x1 x2 : Int32} {post : Int32 → Prop} (hq : post (A_now sN wN x1 x2)) : wp_X8_now u x1 x2 post := by
  unfold wp_X8_now
  unfold A_now at hq
  refine ⟨fun q => ?_, fun q => ?_⟩
  · rw [if_neg q] at hq
    refine m_in (a := 0) (b := 1) (by decide) (by decide) ?_
    rw [ixr_0]
    refine bI_if (fun e => ?_) (fun e => ?_)
    · rw [e] at hq
      exact hq
    · rw [if_pos e] at hq
      obtain ⟨k, hk, rfl⟩ := ix_t (by omega) e
      rw [nI_clamp (by omega)] at hq
      have hw := hp.2 k hk
      have wl := h.2 k hk
      have e164 : (164 : Int32) + nI k = nI (164 + k) := nI_add 164 _
      have s164 : u.2.1 14 (164 + k) = nI (wN k).length := wl.1
      have j164 : vp_in (nI (164 + k)) 166 := vp_in_nI (by omega) (by omega)
      rw [e164, nI_clamp (by omega), s164]
      refine ⟨j164, ?_⟩
      have e1 : (nI (wN k).length - 1).toInt = ((wN k).length : Int) - 1 := pk_sub_toInt (b := 1) (by omega) (by decide)
      have em : (-1 : Int32).toInt = -1 := rfl
      have yes : (-1 ≤ x2.toInt ∧ x2.toInt ≤ ((wN k).length : Int) - 1) → ((¬ x2 = (-1)) → wp_X8_spot 82 (nI k) x2 (fun (r_8 : Int32) => vp_in r_8 1826 ∧ post (u.2.1 15 r_8.toNatClampNeg))) ∧ ((x2 = (-1)) → vp_in (nI (164 + k)) 166 ∧ post (nI (wN k).length)) := by
        intro hr
        refine ⟨fun q2 => ?_, fun q2 => ?_⟩
        · rw [if_neg q2] at hq
          have q3 : x2.toInt ≠ -1 := fun z => q2 (Int32.toInt_inj.mp (by rw [em]; exact z))
          have e2 : ix x2 (wN k).length = true := decide_eq_true (by omega)
          rw [if_pos e2] at hq
          obtain ⟨i, hi, rfl⟩ := ix_t (by omega) e2
          rw [nI_clamp (by omega)] at hq
          refine s_spot 82 k i ⟨vp_in_nI (by omega) (by omega), ?_⟩
          rw [nI_clamp (by omega), wl.2 i hi]
          exact hq
        · rw [if_pos q2] at hq
          exact ⟨j164, hq⟩
      have no : ¬ (-1 ≤ x2.toInt ∧ x2.toInt ≤ ((wN k).length : Int) - 1) → post (-1) := by
        intro hr
        have q2 : ¬ x2 = -1 := fun z => hr (by rw [z, em]; omega)
        have e2 : ix x2 (wN k).length = false := decide_eq_false (by omega)
        rw [if_neg q2, e2] at hq
        exact hq
      unfold wp_X8_in
      rw [Int32.lt_iff_toInt_lt, Int32.lt_iff_toInt_lt, e1, em]
      refine ⟨fun z => ⟨fun y => absurd (by trivial) y, fun _ => no (by omega)⟩, fun z => ⟨fun z2 => ⟨fun y => absurd (by trivial) y, fun _ => no (by omega)⟩, fun z2 => ⟨fun _ => yes (by omega), fun y => absurd y (by decide)⟩⟩⟩
  · rw [if_pos q] at hq
    rw [c82, h.1]
    exact ⟨i82, hq⟩
theorem m_reset {u : Ob} {N c : Nat} {bg : Nat → Bool} {ar : Nat → Nat → Nat} {tp : List Nat} {sN : Nat} {wN : Nat → List Nat} {sA : Nat} {wA : Nat → List Nat} {hd : Nat → Bool} {ln sz : Nat → Nat} {it : Nat → Nat → Int32} (h : MR u N c bg ar tp sN wN sA wA hd ln sz it) (hA : ∀ k, k < 2 → (wA k).length ≤ 11) {post : Int32 → Ob → Prop} (h1 : ∀ v, MR v N c bg ar tp 0 nilW0 sA wA hd ln sz it → post 1 v) : wp_X8_reset u post := by
  unfold wp_X8_reset
  exact s_empty (p := 82) (st := 0) (by decide) (fun v k p => h1 v (h.now hA k p))
theorem m_aim {u : Ob} {N c : Nat} {bg : Nat → Bool} {ar : Nat → Nat → Nat} {tp : List Nat} {sN : Nat} {wN : Nat → List Nat} {sA : Nat} {wA : Nat → List Nat} {hd : Nat → Bool} {ln sz : Nat → Nat} {it : Nat → Nat → Int32} (h : MR u N c bg ar tp sN wN sA wA hd ln sz it) (hN8 : N ≤ 8) (hN : ∀ k, k < 2 → (wN k).length ≤ 11) {x : Int32} {post : Int32 → Ob → Prop}
    (h1 : ix x N = true → ∀ v, MR v N c bg ar tp sN wN x.toNatClampNeg nilW0 hd ln sz it → post 1 v) (h0 : ix x N = false → post (-1) u) : wp_X8_aim u x post := by
  unfold wp_X8_aim
  refine m_isState h.1 hN8 ?_
  refine bI_if2 (fun e => ?_) (fun e => h0 e)
  have h1 := h1 e
  obtain ⟨j, hj, rfl⟩ := ix_t (by omega) e
  rw [nI_clamp (by omega)] at h1
  exact s_empty (p := 81) (st := j) (by decide) (fun v k p => h1 v (h.aim hN k p))
theorem m_want {u : Ob} {N c : Nat} {bg : Nat → Bool} {ar : Nat → Nat → Nat} {tp : List Nat} {sN : Nat} {wN : Nat → List Nat} {sA : Nat} {wA : Nat → List Nat} {hd : Nat → Bool} {ln sz : Nat → Nat} {it : Nat → Nat → Int32} (h : MR u N c bg ar tp sN wN sA wA hd ln sz it) (hN : ∀ k, k < 2 → (wN k).length ≤ 11) (hp : plK N sA wA) {x1 x2 : Int32} {post : Int32 → Ob → Prop}
    (h2 : waN wA x1 x2 = 2 → ∀ v, MR v N c bg ar tp sN wN sA (waW bg wA x1 x2) hd ln sz it → post (nI ((wA x1.toNatClampNeg).length + 1)) v) (h1 : waN wA x1 x2 = 1 → post (-3) u) (h0 : waN wA x1 x2 = 0 → post (-1) u) : wp_X8_want u x1 x2 post := by
  unfold wp_X8_want
  refine m_in (a := 0) (b := 1) (by decide) (by decide) ?_
  rw [ixr_0]
  refine bI_if (fun e1 => h0 (by rw [waN, e1]; rfl)) (fun e1 => ?_)
  refine m_in (a := 0) (b := 2) (by decide) (by decide) ?_
  rw [ixr_0]
  refine bI_if2 (fun e2 => ?_) (fun e2 => h0 (by rw [waN, e1, e2]; rfl))
  unfold waN at h2 h1
  unfold waW at h2
  rw [e1, e2] at h2 h1
  obtain ⟨k, hk, rfl⟩ := ix_t (by omega) e1
  obtain ⟨a, ha, rfl⟩ := ix_t (by omega) e2
  rw [nI_clamp (by omega)] at h2 h1
  rw [nI_clamp (by omega)] at h2
  have hw := hp.2 k hk
  have wl := h.2.2.2.1.2 k hk
  have e162 : (162 : Int32) + nI k = nI (162 + k) := nI_add 162 _
  have s162 : u.2.1 14 (162 + k) = nI (wA k).length := wl.1
  have j162 : vp_in (nI (162 + k)) 166 := vp_in_nI (by omega) (by omega)
  simp only [jn]
  rw [e162, nI_clamp (by omega), s162, nI_clamp (by omega), h.1.2.2.1 k hk]
  refine ⟨j162, ?_⟩
  refine pk_ne (wA k).length 10 (fun q => ⟨vp_in_nI hk (by omega), ?_⟩) (fun q => h1 (by rw [if_pos (by decide), if_pos (by omega)]))
  have put : ∀ m : Nat, m ≤ (wA k).length → wwith (bg k) (wA k) a = ins (wA k) m a → wp_X8_putIn u 81 (nI k) (nI m) (nI a) (fun (u_10 : Ob) => vp_in (nI (162 + k)) 166 ∧ post (u_10.2.1 14 (162 + k)) u_10) := by
    intro m hm he
    refine s_putIn (p := 81) (by decide) hk wl hw.2 hm (fun v kv wv => ⟨j162, ?_⟩)
    rw [← he] at wv
    have f : v.2.1 14 (162 + k) = nI ((wA k).length + 1) := by
      have f2 := wv.1
      rw [wwith_len] at f2
      exact f2
    rw [f]
    exact h2 (by rw [if_pos (by decide), if_neg (by omega)]) v (h.aim hN (kv.P hk) (h.2.2.2.1.word hk (plK_len hp) kv wv))
  refine bI_if (fun z => ⟨j162, ?_⟩) (fun z => ?_)
  · exact put _ (Nat.le_refl _) (by rw [wwith, z]; rfl)
  · refine s_inOrder (p := 81) (by decide) hk ha wl hw.1 (by omega) ?_
    exact put _ (pio_le _ _) (by rw [wwith, z]; rfl)
