theorem clamp_ix {x : Int32} {n : Nat} (hn : n < 2 ^ 31) (h : ix x n = true) : x.toNatClampNeg < n ∧ x = nI x.toNatClampNeg := by
  obtain ⟨j, hj, rfl⟩ := ix_t hn h
  rw [nI_clamp (by omega)]
  exact ⟨hj, rfl⟩
/-- what 'go' asks: 0 no such arc, 1 not, 2 full, 3 done -/
def goN (c : Nat) (bg : Nat → Bool) (ar : Nat → Nat → Nat) (sN : Nat) (wN : Nat → List Nat) (x : Int32) : Nat :=
  if ix x c then
    (if ar x.toNatClampNeg 0 = sN then
      (match behind (bg (ar x.toNatClampNeg 2)) (ar x.toNatClampNeg 1) (ar x.toNatClampNeg 3) (wN (ar x.toNatClampNeg 2)) with
        | none => 1
        | some v => if 10 < v.length then 2 else 3)
     else 1)
  else 0
def goW (bg : Nat → Bool) (ar : Nat → Nat → Nat) (wN : Nat → List Nat) (i : Nat) : Nat → List Nat :=
  match behind (bg (ar i 2)) (ar i 1) (ar i 3) (wN (ar i 2)) with
    | none => wN
    | some v => va_up wN (ar i 2) v
theorem nI_enc_ne {w : List Nat} (hw : lok w) (hl : w.length ≤ 15) : ¬ nI (enc w) = -1 := by
  have h := enc_lt31 hw hl
  intro e
  have h2 := congrArg Int32.toInt e
  rw [nI_toInt (by omega)] at h2
  have h3 : (-1 : Int32).toInt = -1 := rfl
  omega
theorem c_go {uf um uh : Ob} {N c : Nat} {bg : Nat → Bool} {ar : Nat → Nat → Nat} {sN : Nat} {wN : Nat → List Nat} (hm : mR um N c bg ar) (hk : mK N c ar) (hh : plR uh sN wN) (hp : plK N sN wN) {x : Int32} {post : Int32 → Ob → Prop}
    (h3 : goN c bg ar sN wN x = 3 → ∀ v, plR v (ar x.toNatClampNeg 4) (goW bg ar wN x.toNatClampNeg) → post (nI (ar x.toNatClampNeg 4)) v) (h2 : goN c bg ar sN wN x = 2 → post (-3) uh) (h1 : goN c bg ar sN wN x = 1 → post (-2) uh) (h0 : goN c bg ar sN wN x = 0 → post (-1) uh) : wp_X7_go uf um uh x post := by
  have hc := hk.2.2.1
  have hN := hk.2.1
  have hst := hp.1
  unfold wp_X7_go
  rw [hm.2.1]
  refine c_among (by omega) ?_
  refine bI_if2 (fun e => ?_) (fun e => h0 (by rw [goN, e]; rfl))
  unfold goN at h3 h2 h1
  rw [if_pos e] at h3 h2 h1
  obtain ⟨i, hi, rfl⟩ := ix_t (by omega) e
  rw [nI_clamp (by omega)] at h3 h2 h1
  obtain ⟨g0, g1, g2, g3, g4⟩ := hk.2.2.2 i hi
  have hw := hp.2 (ar i 2) g2
  have i2 : vp_in (nI (ar i 2)) 2 := vp_in_nI g2 (by omega)
  refine s_part hm hk 0 hi (by omega) ?_
  rw [hh.1]
  refine pk_eq (ar i 0) sN (fun q => ?_) (fun q => h1 (by rw [if_neg q]))
  rw [if_pos q] at h3 h2 h1
  refine s_part hm hk 2 hi (by omega) ⟨i2, ?_⟩
  rw [nI_clamp (by omega), hh.2 _ g2]
  refine s_wordBehind hm hk hi hw.1 (by omega) (fun v hv => ?_) (fun hv => ?_)
  · rw [hv] at h3 h2 h1
    have l1 := behind_len hv
    have l2 := behind_lok hw.1 g3 hv
    refine ⟨fun _ => ?_, fun z => absurd z (nI_enc_ne l2 (by omega))⟩
    refine s_isLonger (k := 10) l2 (by omega) (by omega) (fun q2 => ?_) (fun q2 => ?_)
    · refine ⟨fun _ => ⟨i2, fun u12 e12 => ?_⟩, fun z => absurd (by trivial) z⟩
      refine s_part hm hk 4 hi (by omega) ?_
      intro u14 e14
      have f : u14.1 0 = nI (ar i 4) := by rw [e14, ob_is]
      rw [f]
      refine h3 (if_neg (by omega)) u14 ⟨f, fun l hl => ?_⟩
      have f2 : u14.2.1 1 = upd (uh.2.1 1) (ar i 2) (nI (enc v)) := by rw [e14]; show u12.2.1 1 = _; rw [e12, ob_as]
      rw [f2]
      have f3 : goW bg ar wN i = va_up wN (ar i 2) v := by unfold goW; rw [hv]
      rw [f3]
      by_cases z : l = ar i 2
      · rw [z, up_s, va_up_self]
      · rw [up_o _ _ z, va_up_ne _ _ z]
        exact hh.2 l hl
    · exact ⟨fun z => absurd z (by decide), fun _ => h2 (if_pos q2)⟩
  · rw [hv] at h1
    exact ⟨fun z => absurd (by trivial) z, fun _ => h1 rfl⟩
theorem plK_go {N c : Nat} {bg : Nat → Bool} {ar : Nat → Nat → Nat} {sN : Nat} {wN : Nat → List Nat} (hk : mK N c ar) (hp : plK N sN wN) {x : Int32} (h : goN c bg ar sN wN x = 3) : plK N (ar x.toNatClampNeg 4) (goW bg ar wN x.toNatClampNeg) := by
  have hc := hk.2.2.1
  unfold goN at h
  split at h
  · rename_i e
    obtain ⟨i, hi, rfl⟩ := ix_t (by omega) e
    rw [nI_clamp (by omega)] at h ⊢
    obtain ⟨g0, g1, g2, g3, g4⟩ := hk.2.2.2 i hi
    split at h
    · cases hb : behind (bg (ar i 2)) (ar i 1) (ar i 3) (wN (ar i 2)) with
      | none =>
        rw [hb] at h
        cases h
      | some v =>
        rw [hb] at h
        replace h : (if 10 < v.length then 2 else 3) = 3 := h
        refine ⟨g4, fun l hl => ?_⟩
        have f3 : goW bg ar wN i = va_up wN (ar i 2) v := by unfold goW; rw [hb]
        rw [f3]
        by_cases z : l = ar i 2
        · rw [z, va_up_self]
          refine ⟨behind_lok (hp.2 _ g2).1 g3 hb, ?_⟩
          rcases Nat.lt_or_ge 10 v.length with y | y
          · rw [if_pos y] at h
            cases h
          · exact y
        · rw [va_up_ne _ _ z]
          exact hp.2 l hl
    · cases h
  · cases h
def loN (wN : Nat → List Nat) (x1 x2 : Int32) : Bool := ix x1 2 && ix x2 (wN x1.toNatClampNeg).length
theorem c_lose {uf uh : Ob} {N sN : Nat} {wN : Nat → List Nat} (hh : plR uh sN wN) (hp : plK N sN wN) {x1 x2 : Int32} {post : Int32 → Ob → Prop}
    (h1 : loN wN x1 x2 = true → ∀ v, plR v sN (va_up wN x1.toNatClampNeg (del (wN x1.toNatClampNeg) x2.toNatClampNeg)) → post (nI ((wN x1.toNatClampNeg).getD x2.toNatClampNeg 0)) v) (h0 : loN wN x1 x2 = false → post (-1) uh) : wp_X7_lose uf uh x1 x2 post := by
  unfold wp_X7_lose
  refine c_among (n := 2) (by omega) ?_
  refine bI_if (fun e => h0 (by rw [loN, e]; rfl)) (fun e => ?_)
  unfold loN at h1 h0
  rw [e] at h1 h0
  obtain ⟨k, hk, rfl⟩ := ix_t (by omega) e
  rw [nI_clamp (by omega)] at h1 h0 ⊢
  have i2 : vp_in (nI k) 2 := vp_in_nI hk (by omega)
  have hw := hp.2 k hk
  rw [hh.2 k hk]
  refine ⟨i2, ?_⟩
  refine s_size hw.1 (by omega) ?_
  refine c_among (by omega) ?_
  refine bI_if2 (fun e2 => ?_) (fun e2 => h0 (by rw [e2]; rfl))
  rw [e2] at h1
  obtain ⟨i, hi, rfl⟩ := ix_t (by omega) e2
  rw [nI_clamp (by omega)] at h1
  refine ⟨i2, ?_⟩
  refine s_at hw.1 (by omega) hi ⟨i2, ?_⟩
  refine s_without hw.1 (by omega) hi ⟨i2, fun u12 e12 => ?_⟩
  refine h1 rfl u12 ⟨?_, fun l hl => ?_⟩
  · rw [e12]
    exact hh.1
  · rw [e12, ob_as]
    by_cases z : l = k
    · rw [z, up_s, va_up_self]
    · rw [up_o _ _ z, va_up_ne _ _ z]
      exact hh.2 l hl
theorem plK_lose {N sN : Nat} {wN : Nat → List Nat} (hp : plK N sN wN) {x1 x2 : Int32} (h : loN wN x1 x2 = true) : plK N sN (va_up wN x1.toNatClampNeg (del (wN x1.toNatClampNeg) x2.toNatClampNeg)) := by
  unfold loN at h
  simp only [Bool.and_eq_true] at h
  obtain ⟨k, hk, rfl⟩ := ix_t (by omega) h.1
  rw [nI_clamp (by omega)] at h ⊢
  have hw := hp.2 k hk
  obtain ⟨i, hi, rfl⟩ := ix_t (by omega) h.2
  rw [nI_clamp (by omega)]
  refine ⟨hp.1, fun l hl => ?_⟩
  by_cases z : l = k
  · rw [z, va_up_self]
    refine ⟨del_lok hw.1, ?_⟩
    rw [del_len hi]
    omega
  · rw [va_up_ne _ _ z]
    exact hp.2 l hl
def A_now (sN : Nat) (wN : Nat → List Nat) (x1 x2 : Int32) : Int32 :=
  if x2 = -2 then nI sN else if ix x1 2 then (if x2 = -1 then nI (wN x1.toNatClampNeg).length else if ix x2 (wN x1.toNatClampNeg).length then nI ((wN x1.toNatClampNeg).getD x2.toNatClampNeg 0) else -1) else -1
theorem c_now {uf uh : Ob} {N sN : Nat} {wN : Nat → List Nat} (hh : plR uh sN wN) (hp : plK N sN wN) {x1 x2 : Int32} {post : Int32 → Prop} (h : post (A_now sN wN x1 x2)) : wp_X7_now uf uh x1 x2 post := by
  unfold wp_X7_now
  unfold A_now at h
  refine ⟨fun q => ?_, fun q => ?_⟩
  · rw [if_neg q] at h
    refine c_among (n := 2) (by omega) ?_
    refine bI_if2 (fun e => ?_) (fun e => ?_)
    · rw [if_pos e] at h
      obtain ⟨k, hk, rfl⟩ := ix_t (by omega) e
      rw [nI_clamp (by omega)] at h ⊢
      have i2 : vp_in (nI k) 2 := vp_in_nI hk (by omega)
      have hw := hp.2 k hk
      rw [hh.2 k hk]
      refine ⟨i2, ?_⟩
      refine s_size hw.1 (by omega) ?_
      refine ⟨fun q2 => ?_, fun q2 => ?_⟩
      · rw [if_neg q2] at h
        refine c_among (by omega) ?_
        refine bI_if (fun e2 => ?_) (fun e2 => ?_)
        · rw [e2] at h
          exact h
        · rw [if_pos e2] at h
          obtain ⟨i, hi, rfl⟩ := ix_t (by omega) e2
          rw [nI_clamp (by omega)] at h
          exact ⟨i2, s_at hw.1 (by omega) hi h⟩
      · rw [if_pos q2] at h
        exact h
    · rw [e] at h
      exact h
  · rw [if_pos q] at h
    rw [hh.1]
    exact h
theorem c_reset {uf uh : Ob} {post : Int32 → Ob → Prop} (h : ∀ v, plR v 0 nilW0 → post 1 v) : wp_X7_reset uf uh post := by
  unfold wp_X7_reset
  exact s_clear 0 (fun v hv => h v hv)
theorem c_aim {uf um ug : Ob} {N c : Nat} {bg : Nat → Bool} {ar : Nat → Nat → Nat} (hm : mR um N c bg ar) (hk : mK N c ar) {x : Int32} {post : Int32 → Ob → Ob → Prop}
    (h1 : ix x N = true → ∀ vf vg, vf.1 7 = 0 → plR vg x.toNatClampNeg nilW0 → post 1 vf vg) (h0 : ix x N = false → post (-1) uf ug) : wp_X7_aim uf um ug x post := by
  have hN := hk.2.1
  unfold wp_X7_aim
  rw [hm.1]
  refine c_among (by omega) ?_
  refine bI_if2 (fun e => ?_) (fun e => h0 e)
  have h1 := h1 e
  obtain ⟨j, hj, rfl⟩ := ix_t (by omega) e
  rw [nI_clamp (by omega)] at h1
  refine s_clear j (fun vg hg vf ef => h1 vf vg ?_ hg)
  rw [ef, ob_is]
/-- what 'want' asks: 0 bad, 1 full, 2 done -/
def waN (wA : Nat → List Nat) (x1 x2 : Int32) : Nat := if ix x1 2 && ix x2 3 then (if 10 ≤ (wA x1.toNatClampNeg).length then 1 else 2) else 0
def waW (bg : Nat → Bool) (wA : Nat → List Nat) (x1 x2 : Int32) : Nat → List Nat := va_up wA x1.toNatClampNeg (wwith (bg x1.toNatClampNeg) (wA x1.toNatClampNeg) x2.toNatClampNeg)
theorem c_want {uf um ug : Ob} {N c : Nat} {bg : Nat → Bool} {ar : Nat → Nat → Nat} {sA : Nat} {wA : Nat → List Nat} (hm : mR um N c bg ar) (hg : plR ug sA wA) (hp : plK N sA wA) {x1 x2 : Int32} {post : Int32 → Ob → Ob → Prop}
    (h2 : waN wA x1 x2 = 2 → ∀ vf vg, vf.1 7 = 0 → plR vg sA (waW bg wA x1 x2) → post (nI ((wA x1.toNatClampNeg).length + 1)) vf vg) (h1 : waN wA x1 x2 = 1 → post (-3) uf ug) (h0 : waN wA x1 x2 = 0 → post (-1) uf ug) : wp_X7_want uf um ug x1 x2 post := by
  unfold wp_X7_want
  refine c_among (n := 2) (by omega) ?_
  refine bI_if (fun e1 => h0 (by rw [waN, e1]; rfl)) (fun e1 => ?_)
  refine c_among (n := 3) (by omega) ?_
  refine bI_if2 (fun e2 => ?_) (fun e2 => h0 (by rw [waN, e1, e2]; rfl))
  unfold waN at h2 h1
  unfold waW at h2
  rw [e1, e2] at h2 h1
  obtain ⟨k, hk, rfl⟩ := ix_t (by omega) e1
  obtain ⟨a, ha, rfl⟩ := ix_t (by omega) e2
  rw [nI_clamp (by omega)] at h2 h1 ⊢
  rw [nI_clamp (by omega)] at h2
  have i2 : vp_in (nI k) 2 := vp_in_nI hk (by omega)
  have hw := hp.2 k hk
  rw [hg.2 k hk]
  refine ⟨i2, ?_⟩
  refine s_size hw.1 (by omega) ?_
  refine pk_lt (wA k).length 10 (fun q => ?_) (fun q => h1 (if_pos q))
  refine ⟨i2, ?_⟩
  refine s_wordWith hm hk ha hw.1 (by omega) ⟨i2, fun ug11 e11 uf12 e12 => ?_⟩
  rw [nI_1]
  refine h2 (by rw [if_pos (by decide), if_neg (by omega)]) uf12 ug11 (by rw [e12, ob_is]) ⟨?_, fun l hl => ?_⟩
  · rw [e11]
    exact hg.1
  · rw [e11, ob_as]
    by_cases z : l = k
    · rw [z, up_s, va_up_self]
    · rw [up_o _ _ z, va_up_ne _ _ z]
      exact hg.2 l hl
theorem plK_want {N sA : Nat} {bg : Nat → Bool} {wA : Nat → List Nat} (hp : plK N sA wA) {x1 x2 : Int32} (h : waN wA x1 x2 = 2) : plK N sA (waW bg wA x1 x2) := by
  unfold waN at h
  split at h
  · rename_i e
    simp only [Bool.and_eq_true] at e
    obtain ⟨k, hk, rfl⟩ := ix_t (by omega) e.1
    obtain ⟨a, ha, rfl⟩ := ix_t (by omega) e.2
    unfold waW
    rw [nI_clamp (by omega)] at h ⊢
    rw [nI_clamp (by omega)]
    have hw := hp.2 k hk
    split at h
    · cases h
    · rename_i y
      refine ⟨hp.1, fun l hl => ?_⟩
      by_cases z : l = k
      · rw [z, va_up_self]
        refine ⟨wwith_lok hw.1 ha, ?_⟩
        rw [wwith_len]
        omega
      · rw [va_up_ne _ _ z]
        exact hp.2 l hl
  · cases h
/-- what the class holds of a search, if it holds one -/
def seR (uf ur : Ob) (c : Nat) (bg : Nat → Bool) (ar : Nat → Nat → Nat) (sA : Nat) (wA : Nat → List Nat) : Prop := uf.1 7 = 0 ∨ (uf.1 7 = 1 ∧ sOut ur (srch bg ar c sA wA))
theorem s_searchOnce {uf um ug ur : Ob} {N c : Nat} {bg : Nat → Bool} {ar : Nat → Nat → Nat} {sA : Nat} {wA : Nat → List Nat} (hm : mR um N c bg ar) (hk : mK N c ar) (hg : plR ug sA wA) (hp : plK N sA wA) (hs : seR uf ur c bg ar sA wA) {post : Ob → Ob → Prop} (h : ∀ vf vr, vf.1 7 = 1 → sOut vr (srch bg ar c sA wA) → post vf vr) : wp_X7_searchOnce uf um ug ur post := by
  have hN := hk.2.1
  have hst := hp.1
  unfold wp_X7_searchOnce
  rcases hs with q | ⟨q, q2⟩
  · rw [q]
    refine ⟨fun z => absurd (by trivial) z, fun _ => ?_⟩
    refine s_run hm hk hg.1 hg.2 (by omega) hp.2 (fun v hv uf3 e3 => h uf3 v (by rw [e3, ob_is]) hv)
  · rw [q]
    exact ⟨fun _ => h uf ur q q2, fun z => absurd z (by decide)⟩
def A_found (z : (Nat → Ent) × Nat × Bool) : Int32 := if z.2.2 then -3 else nI z.2.1
theorem c_found {uf um ug ur : Ob} {N c : Nat} {bg : Nat → Bool} {ar : Nat → Nat → Nat} {sA : Nat} {wA : Nat → List Nat} (hm : mR um N c bg ar) (hk : mK N c ar) (hg : plR ug sA wA) (hp : plK N sA wA) (hs : seR uf ur c bg ar sA wA) {post : Int32 → Ob → Ob → Prop} (h : ∀ vf vr, seR vf vr c bg ar sA wA → post (A_found (srch bg ar c sA wA)) vf vr) : wp_X7_found uf um ug ur post := by
  unfold wp_X7_found
  refine s_searchOnce hm hk hg hp hs (fun vf vr q1 q2 => ?_)
  have h := h vf vr (Or.inr ⟨q1, q2⟩)
  unfold A_found at h
  rw [q2.2.1, q2.1]
  refine bI_if (fun e => ?_) (fun e => ?_)
  · rw [e] at h
    exact h
  · rw [e] at h
    exact h
def A_fact (F : Nat → Ent) (n k : Nat) (x : Int32) : Int32 :=
  if x = 0 then nI (F k).1 else if x = 1 then nI (F k).2.2.2.2 else if x = 2 then nI ((F k).2.1 0).length else if x = 3 then nI ((F k).2.1 1).length else if x = 4 then (F k).2.2.1 else if x = 5 then (F k).2.2.2.1 else bI (lea F n k)
theorem s_fact {ur : Ob} {F : Nat → Ent} {n : Nat} {sp : Bool} (hs : sR ur F n sp) {k : Nat} (hk : k < n) {x : Int32} {post : Int32 → Prop} (h : post (A_fact F n k x)) : wp_X2_fact ur (nI k) x post := by
  have hn := hs.2.2.1
  obtain ⟨⟨e1, e2, e3, e4, e5, e6⟩, k1, k2, -⟩ := hs.2.2.2 k hk
  have i1 : vp_in (nI k) 80 := vp_in_nI (by omega) (by omega)
  unfold wp_X2_fact
  unfold A_fact at h
  rw [nI_clamp (by omega), e1, e2, e3, e4, e5, e6]
  have w0 := k2 0 (by omega)
  have w1 := k2 1 (by omega)
  refine ⟨fun q => ?_, fun q => ?_⟩
  · rw [if_pos q] at h
    exact ⟨i1, h⟩
  rw [if_neg q] at h
  refine ⟨fun q => ?_, fun q => ?_⟩
  · rw [if_pos q] at h
    exact ⟨i1, h⟩
  rw [if_neg q] at h
  refine ⟨fun q => ?_, fun q => ?_⟩
  · rw [if_pos q] at h
    exact ⟨i1, s_size w0.1 (by omega) h⟩
  rw [if_neg q] at h
  refine ⟨fun q => ?_, fun q => ?_⟩
  · rw [if_pos q] at h
    exact ⟨i1, s_size w1.1 (by omega) h⟩
  rw [if_neg q] at h
  refine ⟨fun q => ?_, fun q => ?_⟩
  · rw [if_pos q] at h
    exact ⟨i1, h⟩
  rw [if_neg q] at h
  refine ⟨fun q => ?_, fun q => ?_⟩
  · rw [if_pos q] at h
    exact ⟨i1, h⟩
  rw [if_neg q] at h
  refine s_isLeast hs hk ?_
  refine bI_if (fun e => ?_) (fun e => ?_)
  · rw [e] at h
    exact h
  · rw [e] at h
    exact h
def A_about (z : (Nat → Ent) × Nat × Bool) (x1 x2 : Int32) : Int32 :=
  if x1 < 0 then -1 else if ix x2 7 then (if z.2.2 then -3 else if ix x1 z.2.1 then A_fact z.1 z.2.1 x1.toNatClampNeg x2 else -1) else -1
theorem c_about {uf um ug ur : Ob} {N c : Nat} {bg : Nat → Bool} {ar : Nat → Nat → Nat} {sA : Nat} {wA : Nat → List Nat} (hm : mR um N c bg ar) (hk : mK N c ar) (hg : plR ug sA wA) (hp : plK N sA wA) (hs : seR uf ur c bg ar sA wA) {x1 x2 : Int32} {post : Int32 → Ob → Ob → Prop} (h : ∀ vf vr, seR vf vr c bg ar sA wA → post (A_about (srch bg ar c sA wA) x1 x2) vf vr) : wp_X7_about uf um ug ur x1 x2 post := by
  unfold wp_X7_about
  unfold A_about at h
  have q6 : (6 : Int32).toInt = 6 := rfl
  have q0 : (0 : Int32).toInt = 0 := rfl
  refine ⟨fun q => ?_, fun q => ?_⟩
  · have h := h uf ur hs
    rw [if_pos q] at h
    exact h
  rw [if_neg q] at h
  refine ⟨fun q2 => ?_, fun q2 => ⟨fun q3 => ?_, fun q3 => ?_⟩⟩
  · have h := h uf ur hs
    rw [Int32.lt_iff_toInt_lt, q0] at q2
    have e : ix x2 7 = false := decide_eq_false (by omega)
    rw [e] at h
    exact h
  · rw [Int32.lt_iff_toInt_lt, q0] at q2
    rw [Int32.le_iff_toInt_le, q6] at q3
    have e : ix x2 7 = true := decide_eq_true (by omega)
    rw [if_pos e] at h
    refine s_searchOnce hm hk hg hp hs (fun vf vr p1 p2 => ?_)
    have h := h vf vr (Or.inr ⟨p1, p2⟩)
    have hn := p2.2.2.1
    rw [p2.2.1, p2.1]
    refine bI_if (fun e2 => ?_) (fun e2 => ?_)
    · rw [e2] at h
      obtain ⟨j, hj, rfl⟩ := nI_of q
      rw [ix_nI hj, nI_clamp hj] at h
      refine pk_le _ j (fun q4 => ?_) (fun q4 => ?_)
      · rw [decide_eq_false (by omega)] at h
        exact h
      · rw [decide_eq_true q4] at h
        exact s_fact p2 q4 h
    · rw [e2] at h
      exact h
  · have h := h uf ur hs
    rw [Int32.le_iff_toInt_le, q6] at q3
    have e : ix x2 7 = false := decide_eq_false (by omega)
    rw [e] at h
    exact h
def A_letter (z : (Nat → Ent) × Nat × Bool) (x1 x2 x3 : Int32) : Int32 :=
  if x1 < 0 then -1 else if x3 < 0 then -1 else if ix x2 2 then (if z.2.2 then -3 else if ix x1 z.2.1 then (if ix x3 ((z.1 x1.toNatClampNeg).2.1 x2.toNatClampNeg).length then nI (((z.1 x1.toNatClampNeg).2.1 x2.toNatClampNeg).getD x3.toNatClampNeg 0) else -1) else -1) else -1
theorem c_letter {uf um ug ur : Ob} {N c : Nat} {bg : Nat → Bool} {ar : Nat → Nat → Nat} {sA : Nat} {wA : Nat → List Nat} (hm : mR um N c bg ar) (hk : mK N c ar) (hg : plR ug sA wA) (hp : plK N sA wA) (hs : seR uf ur c bg ar sA wA) {x1 x2 x3 : Int32} {post : Int32 → Ob → Ob → Prop} (h : ∀ vf vr, seR vf vr c bg ar sA wA → post (A_letter (srch bg ar c sA wA) x1 x2 x3) vf vr) : wp_X7_letter uf um ug ur x1 x2 x3 post := by
  unfold wp_X7_letter
  unfold A_letter at h
  refine ⟨fun q => ?_, fun q => ?_⟩
  · have h := h uf ur hs
    rw [if_pos q] at h
    exact h
  rw [if_neg q] at h
  refine ⟨fun q3 => ?_, fun q3 => ?_⟩
  · have h := h uf ur hs
    rw [if_pos q3] at h
    exact h
  rw [if_neg q3] at h
  refine c_among (n := 2) (by omega) ?_
  refine bI_if2 (fun e => ?_) (fun e => ?_)
  · rw [if_pos e] at h
    refine s_searchOnce hm hk hg hp hs (fun vf vr p1 p2 => ?_)
    have h := h vf vr (Or.inr ⟨p1, p2⟩)
    have hn := p2.2.2.1
    rw [p2.2.1, p2.1]
    refine bI_if (fun e2 => ?_) (fun e2 => ?_)
    · rw [e2] at h
      obtain ⟨j, hj, rfl⟩ := nI_of q
      obtain ⟨i, hi, rfl⟩ := nI_of q3
      obtain ⟨l, hl, rfl⟩ := ix_t (by omega) e
      rw [ix_nI hj, nI_clamp hj, nI_clamp (by omega), nI_clamp hi, ix_nI hi] at h
      refine pk_lt j _ (fun q4 => ?_) (fun q4 => ?_)
      · rw [decide_eq_true q4] at h
        obtain ⟨⟨e1, e2, e3, e4, e5, e6⟩, k1, k2, -⟩ := p2.2.2.2 j q4
        have i1 : vp_in (nI j) 80 := vp_in_nI (by omega) (by omega)
        have kl := k2 l hl
        have fin : wp_X6_size (nI (enc (((srch bg ar c sA wA).1 j).2.1 l))) (fun (r_10 : Int32) => ((r_10 ≤ nI i) → post (-1) vf vr) ∧ ((¬ r_10 ≤ nI i) → wp_X6_at (nI (enc (((srch bg ar c sA wA).1 j).2.1 l))) (nI i) (fun (r_12 : Int32) => post r_12 vf vr))) := by
          refine s_size kl.1 (by omega) ?_
          refine pk_le _ i (fun q5 => ?_) (fun q5 => ?_)
          · rw [decide_eq_false (by omega)] at h
            exact h
          · rw [decide_eq_true q5] at h
            exact s_at kl.1 (by omega) q5 h
        unfold wp_X2_wordOf
        rw [nI_clamp hj, e2, e3]
        refine pk_ne l 0 (fun q6 => ⟨i1, ?_⟩) (fun q6 => ⟨i1, ?_⟩)
        · have e7 : l = 1 := by omega
          subst e7
          exact fin
        · subst q6
          exact fin
      · rw [decide_eq_false (by omega)] at h
        exact h
    · rw [e2] at h
      exact h
  · have h := h uf ur hs
    rw [e] at h
    exact h
def A_least (z : (Nat → Ent) × Nat × Bool) : Int32 := if z.2.2 then -3 else nI (cnt (lea z.1 z.2.1) z.2.1)
theorem c_least {uf um ug ur : Ob} {N c : Nat} {bg : Nat → Bool} {ar : Nat → Nat → Nat} {sA : Nat} {wA : Nat → List Nat} (hm : mR um N c bg ar) (hk : mK N c ar) (hg : plR ug sA wA) (hp : plK N sA wA) (hs : seR uf ur c bg ar sA wA) {post : Int32 → Ob → Ob → Prop} (h : ∀ vf vr, seR vf vr c bg ar sA wA → post (A_least (srch bg ar c sA wA)) vf vr) : wp_X7_least uf um ug ur post := by
  unfold wp_X7_least
  refine s_searchOnce hm hk hg hp hs (fun vf vr q1 q2 => ?_)
  have h := h vf vr (Or.inr ⟨q1, q2⟩)
  unfold A_least at h
  rw [q2.2.1]
  refine bI_if (fun e => ?_) (fun e => ?_)
  · rw [e] at h
    exact s_countLeast q2 h
  · rw [e] at h
    exact h
def A_far (z : (Nat → Ent) × Nat × Bool) (sN : Nat) (wN : Nat → List Nat) : Int32 := if z.2.2 then -3 else if fbl (bel z.1 sN wN) z.2.1 < z.2.1 then nI (z.1 (fbl (bel z.1 sN wN) z.2.1)).2.2.2.2 else -4
theorem c_far {uf um uh ug ur : Ob} {N c : Nat} {bg : Nat → Bool} {ar : Nat → Nat → Nat} {sA sN : Nat} {wA wN : Nat → List Nat} (hm : mR um N c bg ar) (hk : mK N c ar) (hh : plR uh sN wN) (hpn : plK N sN wN) (hg : plR ug sA wA) (hp : plK N sA wA) (hs : seR uf ur c bg ar sA wA) {post : Int32 → Ob → Ob → Prop} (h : ∀ vf vr, seR vf vr c bg ar sA wA → post (A_far (srch bg ar c sA wA) sN wN) vf vr) : wp_X7_far uf um uh ug ur post := by
  have hN := hk.2.1
  have hst := hpn.1
  unfold wp_X7_far
  refine s_searchOnce hm hk hg hp hs (fun vf vr q1 q2 => ?_)
  have h := h vf vr (Or.inr ⟨q1, q2⟩)
  have hn := q2.2.2.1
  unfold A_far at h
  rw [q2.2.1]
  refine bI_if (fun e => ?_) (fun e => ?_)
  · rw [e, if_neg (by decide)] at h
    have z0 : uh.2.1 1 (0 : Int32).toNatClampNeg = nI (enc (wN 0)) := hh.2 0 (by omega)
    have z1 : uh.2.1 1 (1 : Int32).toNatClampNeg = nI (enc (wN 1)) := hh.2 1 (by omega)
    rw [z0, z1, hh.1]
    refine ⟨in0_2, in1_2, ?_⟩
    refine s_firstBelow q2 (by omega) (fun l hl => ⟨(hpn.2 l hl).1, by have := (hpn.2 l hl).2; omega⟩) (fun hf => ?_) (fun hf => ?_)
    · rw [if_pos hf] at h
      refine ⟨fun _ => ⟨vp_in_nI (by omega) (by omega), ?_⟩, fun z => absurd (nI_pos' (by omega)) z⟩
      rw [nI_clamp (by omega), (q2.2.2.2 _ hf).1.2.2.2.2.2]
      exact h
    · rw [if_neg (by omega)] at h
      exact ⟨fun z => absurd z (by decide), fun _ => h⟩
  · rw [e] at h
    exact h
def A_way (z : (Nat → Ent) × Nat × Bool) (sN : Nat) (wN : Nat → List Nat) (x : Int32) : Int32 :=
  if 0 ≤ x then (if z.2.2 then -3 else if fbl (bel z.1 sN wN) z.2.1 < z.2.1 then (if ix x (z.1 (fbl (bel z.1 sN wN) z.2.1)).2.2.2.2 then (z.1 (wayP z.1 x.toNatClampNeg (fbl (bel z.1 sN wN) z.2.1))).2.2.1 else -1) else -4) else -1
theorem c_way {uf um uh ug ur : Ob} {N c : Nat} {bg : Nat → Bool} {ar : Nat → Nat → Nat} {sA sN : Nat} {wA wN : Nat → List Nat} (hm : mR um N c bg ar) (hk : mK N c ar) (hh : plR uh sN wN) (hpn : plK N sN wN) (hg : plR ug sA wA) (hp : plK N sA wA) (hs : seR uf ur c bg ar sA wA) {x : Int32} {post : Int32 → Ob → Ob → Prop} (h : ∀ vf vr, seR vf vr c bg ar sA wA → post (A_way (srch bg ar c sA wA) sN wN x) vf vr) : wp_X7_way uf um uh ug ur x post := by
  have hN := hk.2.1
  have hst := hpn.1
  unfold wp_X7_way
  unfold A_way at h
  refine ⟨fun q => ?_, fun q => ?_⟩
  · rw [if_pos q] at h
    refine s_searchOnce hm hk hg hp hs (fun vf vr q1 q2 => ?_)
    have h := h vf vr (Or.inr ⟨q1, q2⟩)
    have hn := q2.2.2.1
    rw [q2.2.1]
    refine bI_if (fun e => ?_) (fun e => ?_)
    · rw [e, if_neg (by decide)] at h
      have z0 : uh.2.1 1 (0 : Int32).toNatClampNeg = nI (enc (wN 0)) := hh.2 0 (by omega)
      have z1 : uh.2.1 1 (1 : Int32).toNatClampNeg = nI (enc (wN 1)) := hh.2 1 (by omega)
      rw [z0, z1, hh.1]
      refine ⟨in0_2, in1_2, ?_⟩
      refine s_firstBelow q2 (by omega) (fun l hl => ⟨(hpn.2 l hl).1, by have := (hpn.2 l hl).2; omega⟩) (fun hf => ?_) (fun hf => ?_)
      · rw [if_pos hf] at h
        have g := q2.2.2.2 _ hf
        have gr := g.2.2.2.1
        refine ⟨fun _ => ⟨vp_in_nI (by omega) (by omega), ?_⟩, fun z => absurd (nI_pos' (by omega)) z⟩
        rw [nI_clamp (by omega), g.1.2.2.2.2.2]
        have qn : ¬ x < 0 := by
          rw [Int32.le_iff_toInt_le] at q
          rw [Int32.lt_iff_toInt_lt]
          omega
        obtain ⟨j, hj, rfl⟩ := nI_of qn
        rw [ix_nI hj, nI_clamp hj] at h
        refine pk_le _ j (fun q4 => ?_) (fun q4 => ?_)
        · rw [decide_eq_false (by omega)] at h
          exact h
        · rw [decide_eq_true q4] at h
          exact s_arcOfWay q2 hf q4 h
      · rw [if_neg (by omega)] at h
        exact ⟨fun z => absurd z (by decide), fun _ => h⟩
    · rw [e] at h
      exact h
  · have h := h uf ur hs
    rw [if_neg q] at h
    exact h
