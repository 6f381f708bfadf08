/-! ranges -/
def ix (x : Int32) (n : Nat) : Bool := decide (0 ≤ x.toInt ∧ x.toInt < (n : Int))
theorem ix_t {x : Int32} {n : Nat} (hn : n < 2 ^ 31) (h : ix x n = true) : ∃ j, j < n ∧ x = nI j := by
  have h2 := of_decide_eq_true h
  refine ⟨x.toInt.toNat, by omega, ?_⟩
  apply Int32.toInt_inj.mp
  rw [nI_toInt (by omega)]
  omega
theorem ix_nI {j n : Nat} (hj : j < 2 ^ 31) : ix (nI j) n = decide (j < n) := by
  unfold ix
  rw [nI_toInt hj]
  exact decide_eq_decide.mpr (by omega)
theorem ix_f {x : Int32} {n j : Nat} (hn : n < 2 ^ 31) (h : ix x n = false) (hj : j < n) : x ≠ nI j := by
  rintro rfl
  rw [ix_nI (by omega), decide_eq_true hj] at h
  cases h
def ixr (x : Int32) (a b : Nat) : Bool := decide ((a : Int) ≤ x.toInt ∧ x.toInt ≤ (b : Int))
theorem ixr_t {x : Int32} {a b : Nat} (hb : b < 2 ^ 31) (h : ixr x a b = true) : ∃ j, a ≤ j ∧ j ≤ b ∧ x = nI j := by
  have h2 := of_decide_eq_true h
  refine ⟨x.toInt.toNat, by omega, by omega, ?_⟩
  apply Int32.toInt_inj.mp
  rw [nI_toInt (by omega)]
  omega
theorem ixr_0 (x : Int32) (b : Nat) : ixr x 0 b = ix x (b + 1) := decide_eq_decide.mpr (by omega)
theorem c_among {x : Int32} {n : Nat} (hn : n < 2 ^ 31) {post : Int32 → Prop} (h : post (bI (ix x n))) : wp_X7_isAmong x (nI n) post := by
  refine s_isAmong hn (fun j hj e => ?_) (fun hj => ?_)
  · rw [e, ix_nI (by omega), decide_eq_true hj] at h
    exact h
  · have e : ix x n = false := by
      cases q : ix x n
      · rfl
      · obtain ⟨j, h1, h2⟩ := ix_t hn q
        exact absurd h2 (hj j h1)
    rw [e] at h
    exact h
theorem m_in {x : Int32} {a b : Nat} (ha : a < 2 ^ 31) (hb : b < 2 ^ 31) {post : Int32 → Prop} (h : post (bI (ixr x a b))) : wp_X8_in x (nI a) (nI b) post := by
  unfold wp_X8_in
  rw [Int32.lt_iff_toInt_lt, Int32.lt_iff_toInt_lt, nI_toInt ha, nI_toInt hb]
  refine ⟨fun q => ?_, fun q => ⟨fun q2 => ?_, fun q2 => ?_⟩⟩
  · have e : ixr x a b = false := decide_eq_false (by omega)
    rw [e] at h
    exact h
  · have e : ixr x a b = false := decide_eq_false (by omega)
    rw [e] at h
    exact h
  · have e : ixr x a b = true := decide_eq_true (by omega)
    rw [e] at h
    exact h
theorem m_in0 {x : Int32} {c : Nat} (hc : c < 2 ^ 30) {post : Int32 → Prop} (h : post (bI (ix x c))) : wp_X8_in x 0 (nI c - 1) post := by
  unfold wp_X8_in
  have e1 : (nI c - 1).toInt = (c : Int) - 1 := pk_sub_toInt (b := 1) hc (by decide)
  have e0 : (0 : Int32).toInt = 0 := rfl
  rw [Int32.lt_iff_toInt_lt, Int32.lt_iff_toInt_lt, e1, e0]
  refine ⟨fun q => ?_, fun q => ⟨fun q2 => ?_, fun q2 => ?_⟩⟩
  · have e : ix x c = false := decide_eq_false (by omega)
    rw [e] at h
    exact h
  · have e : ix x c = false := decide_eq_false (by omega)
    rw [e] at h
    exact h
  · have e : ix x c = true := decide_eq_true (by omega)
    rw [e] at h
    exact h
/-! the class: a place, and what it keeps -/
def plR (uh : Ob) (st : Nat) (ws : Nat → List Nat) : Prop := uh.1 0 = nI st ∧ ∀ l, l < 2 → uh.2.1 1 l = nI (enc (ws l))
def plK (N st : Nat) (ws : Nat → List Nat) : Prop := st < N ∧ ∀ l, l < 2 → lok (ws l) ∧ (ws l).length ≤ 10
theorem plK_nil {N : Nat} (h : 1 ≤ N) {st : Nat} (hs : st < N) : plK N st nilW0 := ⟨hs, fun _ _ => ⟨lok_nil, Nat.zero_le _⟩⟩
theorem s_clear {uh : Ob} (st : Nat) {post : Ob → Prop} (h : ∀ v, plR v st nilW0 → post v) : wp_X1_clear uh (nI st) post := by
  unfold wp_X1_clear
  intro u1 h1
  refine ⟨in0_2, fun u3 h3 => ⟨in1_2, fun u5 h5 => h u5 ⟨?_, fun l hl => ?_⟩⟩⟩
  · rw [h5, h3, h1]
    exact ob_is uh 0 (nI st)
  · rw [h5, ob_as]
    rcases (show l = 0 ∨ l = 1 by omega) with rfl | rfl
    · rw [up_o _ _ (by decide), h3, ob_as]
      exact up_s _ _ _
    · exact up_s _ _ _
theorem s_startAgain {uf uh : Ob} {post : Ob → Ob → Prop} (h : ∀ vf vh, vf.1 7 = 0 → plR vh 0 nilW0 → post vf vh) : wp_X7_startAgain uf uh post := by
  unfold wp_X7_startAgain
  refine s_clear 0 (fun v hv uf2 e2 => h uf2 v ?_ hv)
  rw [e2, ob_is]
theorem c_states {uf um uh ug : Ob} {N c : Nat} {bg : Nat → Bool} {ar : Nat → Nat → Nat} (hm : mR um N c bg ar) {x : Int32} {post : Int32 → Ob → Ob → Ob → Ob → Prop}
    (h1 : ixr x 1 8 = true → ∀ vf vm vh vg, vf.1 7 = 0 → mR vm x.toNatClampNeg 0 bg ar → plR vh 0 nilW0 → plR vg 0 nilW0 → post (nI N) vf vm vh vg) (h0 : ixr x 1 8 = false → post (-1) uf um uh ug) : wp_X7_states uf um uh ug x post := by
  unfold wp_X7_states
  have q1 : (1 : Int32).toInt = 1 := rfl
  have q8 : (8 : Int32).toInt = 8 := rfl
  rw [Int32.lt_iff_toInt_lt, Int32.le_iff_toInt_le, q1, q8]
  refine ⟨fun q => h0 (decide_eq_false (by omega)), fun q => ⟨fun q2 => ?_, fun q2 => h0 (decide_eq_false (by omega))⟩⟩
  have e : ixr x 1 8 = true := decide_eq_true (by omega)
  obtain ⟨j, ha, hb, hx⟩ := ixr_t (by decide) e
  intro um3 e3 um4 e4
  refine s_clear 0 (fun vg hg => s_startAgain (fun vf vh hf hh => ?_))
  rw [hm.1]
  refine h1 e vf um4 vh vg hf ⟨?_, ?_, ?_, fun i q hi => absurd hi (Nat.not_lt_zero i)⟩ hh hg
  · rw [e4, ob_io _ _ (by decide), e3, ob_is, hx, nI_clamp (by omega)]
  · rw [e4, ob_is]
    rfl
  · rw [e4, e3]
    exact hm.2.2.1
theorem nar_bI (b : Bool) : vp_nar .boolean (bI b) = bI b := by cases b <;> rfl
theorem c_bag {uf um uh ug : Ob} {N c : Nat} {bg : Nat → Bool} {ar : Nat → Nat → Nat} (hm : mR um N c bg ar) {x : Int32} {b : Bool} {post : Int32 → Ob → Ob → Ob → Ob → Prop}
    (h1 : ix x 2 = true → ∀ vf vm vh vg, vf.1 7 = 0 → mR vm N c (va_up bg x.toNatClampNeg b) ar → plR vh 0 nilW0 → plR vg 0 nilW0 → post (bI (bg x.toNatClampNeg)) vf vm vh vg) (h0 : ix x 2 = false → post (-1) uf um uh ug) : wp_X7_bag uf um uh ug x (bI b) post := by
  unfold wp_X7_bag
  refine c_among (n := 2) (by decide) ?_
  refine bI_if2 (fun e => ?_) (fun e => h0 e)
  obtain ⟨j, hj, hx⟩ := ix_t (by decide) e
  have h1 := h1 e
  rw [hx] at h1 ⊢
  have i1 : vp_in (nI j) 2 := vp_in_nI hj (by omega)
  rw [nI_clamp (by omega)] at h1 ⊢
  rw [hm.2.2.1 j hj, nar_bI]
  refine ⟨i1, ?_⟩
  have key : ∀ w : Int32, w = bI (bg j) → vp_in (nI j) 2 ∧ ∀ um_7 : Ob, um_7 = fs_a um 2 (upd (um.2.1 2) j (bI b)) → wp_X1_clear ug 0 (fun (ug_8 : Ob) => wp_X7_startAgain uf uh (fun (uf_9 : Ob) (uh_10 : Ob) => post w uf_9 um_7 uh_10 ug_8)) := by
    intro w hw
    refine ⟨i1, fun um7 e7 => s_clear 0 (fun vg hg => s_startAgain (fun vf vh hf hh => ?_))⟩
    rw [hw]
    refine h1 vf um7 vh vg hf ⟨?_, ?_, fun k hk => ?_, fun i q hi hq => ?_⟩ hh hg
    · rw [e7]
      exact hm.1
    · rw [e7]
      exact hm.2.1
    · rw [e7, ob_as]
      by_cases z : k = j
      · rw [z, up_s, va_up_self]
      · rw [up_o _ _ z, va_up_ne _ _ z]
        exact hm.2.2.1 k hk
    · rw [e7, ob_ao _ _ (by decide)]
      exact hm.2.2.2 i q hi hq
  simp only [jn]
  refine bI_if (fun z => ?_) (fun z => ?_)
  · exact key 0 (by rw [z]; rfl)
  · exact key 1 (by rw [z]; rfl)
/-- an arc's numbers are as told -/
def gdA (N : Nat) (x1 x2 x3 x4 x5 : Int32) : Bool := ix x1 N && (ix x2 3 && (ix x5 N && (decide (x2 = 0) || (ix x3 2 && ix x4 3))))
def arN (x1 x2 x3 x4 x5 : Int32) : Nat → Nat := fun q => if q = 0 then x1.toNatClampNeg else if q = 1 then x2.toNatClampNeg else if q = 2 then (if x2 = 0 then 0 else x3.toNatClampNeg) else if q = 3 then (if x2 = 0 then 0 else x4.toNatClampNeg) else x5.toNatClampNeg
theorem s_canHave {um : Ob} {N c : Nat} {bg : Nat → Bool} {ar : Nat → Nat → Nat} (hm : mR um N c bg ar) (hN : N ≤ 8) {x1 x2 x3 x4 x5 : Int32} {post : Int32 → Prop} (h : post (bI (gdA N x1 x2 x3 x4 x5))) : wp_X0_canHave um x1 x2 x3 x4 x5 post := by
  unfold wp_X0_canHave
  rw [hm.1]
  refine c_among (by omega) ?_
  refine bI_if (fun e1 => ?_) (fun e1 => ?_)
  · rw [gdA, e1] at h
    exact h
  refine c_among (n := 3) (by omega) ?_
  refine bI_if (fun e2 => ?_) (fun e2 => ?_)
  · rw [gdA, e1, e2] at h
    exact h
  refine c_among (by omega) ?_
  refine bI_if2 (fun e5 => ?_) (fun e5 => ?_)
  · rw [gdA, e1, e2, e5] at h
    refine ⟨fun z => ?_, fun z => ?_⟩
    · rw [decide_eq_true z] at h
      exact h
    · rw [decide_eq_false z] at h
      refine c_among (n := 2) (by omega) ?_
      refine bI_if (fun e3 => ?_) (fun e3 => ?_)
      · rw [e3] at h
        exact h
      refine c_among (n := 3) (by omega) ?_
      refine bI_if (fun e4 => ?_) (fun e4 => ?_)
      · rw [e3, e4] at h
        exact h
      · rw [e3, e4] at h
        exact h
  · rw [gdA, e1, e2, e5] at h
    exact h
theorem gdA_t {N : Nat} (hN : N ≤ 8) {x1 x2 x3 x4 x5 : Int32} (h : gdA N x1 x2 x3 x4 x5 = true) : (x1 = nI (arN x1 x2 x3 x4 x5 0) ∧ arN x1 x2 x3 x4 x5 0 < N) ∧ (x2 = nI (arN x1 x2 x3 x4 x5 1) ∧ arN x1 x2 x3 x4 x5 1 < 3) ∧ ((if x2 = 0 then 0 else x3) = nI (arN x1 x2 x3 x4 x5 2) ∧ arN x1 x2 x3 x4 x5 2 < 2) ∧ ((if x2 = 0 then 0 else x4) = nI (arN x1 x2 x3 x4 x5 3) ∧ arN x1 x2 x3 x4 x5 3 < 3) ∧ (x5 = nI (arN x1 x2 x3 x4 x5 4) ∧ arN x1 x2 x3 x4 x5 4 < N) := by
  unfold gdA at h
  simp only [Bool.and_eq_true, Bool.or_eq_true, decide_eq_true_eq] at h
  obtain ⟨e1, e2, e5, e34⟩ := h
  have cv : ∀ {x : Int32} {n : Nat}, n < 2 ^ 31 → ix x n = true → x = nI x.toNatClampNeg ∧ x.toNatClampNeg < n := by
    intro x n hn q
    obtain ⟨j, hj, rfl⟩ := ix_t hn q
    rw [nI_clamp (by omega)]
    exact ⟨rfl, hj⟩
  refine ⟨cv (by omega) e1, cv (by omega) e2, ?_, ?_, cv (by omega) e5⟩
  · by_cases z : x2 = 0
    · simp [arN, z]
      rfl
    · rcases e34 with q | q
      · exact absurd q z
      · simp only [arN, z, if_false]
        exact cv (by omega) q.1
  · by_cases z : x2 = 0
    · simp [arN, z]
      rfl
    · rcases e34 with q | q
      · exact absurd q z
      · simp only [arN, z, if_false]
        exact cv (by omega) q.2
theorem s_madd {um : Ob} {N c : Nat} {bg : Nat → Bool} {ar : Nat → Nat → Nat} (hm : mR um N c bg ar) (hN : N ≤ 8) (hc : c < 20) {x1 x2 x3 x4 x5 : Int32} (hg : gdA N x1 x2 x3 x4 x5 = true) {post : Ob → Prop} (h : ∀ v, mR v N (c + 1) bg (va_up ar c (arN x1 x2 x3 x4 x5)) → post v) : wp_X0_add um x1 x2 x3 x4 x5 post := by
  obtain ⟨g1, g2, g3, g4, g5⟩ := gdA_t hN hg
  unfold wp_X0_add
  have ec : ∀ q : Nat, nI c * 5 + nI q = nI (c * 5 + q) := fun q => by rw [show (5 : Int32) = nI 5 from rfl, pk_mul, nI_add]
  have ic : ∀ q : Nat, q < 5 → vp_in (nI (c * 5 + q)) 100 := fun q hq => vp_in_nI (by omega) (by omega)
  have cc : ∀ q : Nat, q < 5 → (nI (c * 5 + q)).toNatClampNeg = c * 5 + q := fun q hq => nI_clamp (by omega)
  have d0 : (nI c * 5) + 0 = nI (c * 5 + 0) := ec 0
  have d1 : (nI c * 5) + 1 = nI (c * 5 + 1) := ec 1
  have d2 : (nI c * 5) + 2 = nI (c * 5 + 2) := ec 2
  have d3 : (nI c * 5) + 3 = nI (c * 5 + 3) := ec 3
  have d4 : (nI c * 5) + 4 = nI (c * 5 + 4) := ec 4
  rw [hm.2.1, d0, d1, d2, d3, d4, cc 0 (by omega), cc 1 (by omega), cc 2 (by omega), cc 3 (by omega), cc 4 (by omega)]
  refine ⟨ic 0 (by omega), fun u2 e2 => ⟨ic 1 (by omega), fun u4 e4 => ?_⟩⟩
  have key : ∀ w6 w10 : Int32, w6 = nI (arN x1 x2 x3 x4 x5 2) → w10 = nI (arN x1 x2 x3 x4 x5 3) → ∀ u8 : Ob, u8 = fs_a u4 3 (upd (u4.2.1 3) (c * 5 + 2) w6) → ∀ u12 : Ob, u12 = fs_a u8 3 (upd (u8.2.1 3) (c * 5 + 3) w10) → ∀ u14 : Ob, u14 = fs_a u12 3 (upd (u12.2.1 3) (c * 5 + 4) x5) → ∀ u15 : Ob, u15 = fs_i u14 1 ((u14.1 1) + 1) → post u15 := by
    intro w6 w10 hw6 hw10 u8 e8 u12 e12 u14 e14 u15 e15
    have f1 : u14.1 = um.1 := by rw [e14, e12, e8, e4, e2]; rfl
    have fb : u15.2.1 2 = um.2.1 2 := by rw [e15]; show u14.2.1 2 = _; rw [e14, ob_ao _ _ (by decide), e12, ob_ao _ _ (by decide), e8, ob_ao _ _ (by decide), e4, ob_ao _ _ (by decide), e2, ob_ao _ _ (by decide)]
    have fr : u15.2.1 3 = upd (upd (upd (upd (upd (um.2.1 3) (c * 5 + 0) x1) (c * 5 + 1) x2) (c * 5 + 2) w6) (c * 5 + 3) w10) (c * 5 + 4) x5 := by rw [e15]; show u14.2.1 3 = _; rw [e14, ob_as, e12, ob_as, e8, ob_as, e4, ob_as, e2, ob_as]
    refine h u15 ⟨?_, ?_, ?_, fun i q hi hq => ?_⟩
    · rw [e15, ob_io _ _ (by decide), f1]
      exact hm.1
    · rw [e15, ob_is, f1, hm.2.1]
      exact nI_1 c
    · rw [fb]
      exact hm.2.2.1
    · rw [fr]
      by_cases z : i = c
      · subst z
        rw [va_up_self]
        rcases (show q = 0 ∨ q = 1 ∨ q = 2 ∨ q = 3 ∨ q = 4 by omega) with rfl | rfl | rfl | rfl | rfl
        · rw [up_o _ _ (by omega), up_o _ _ (by omega), up_o _ _ (by omega), up_o _ _ (by omega), up_s]
          exact g1.1
        · rw [up_o _ _ (by omega), up_o _ _ (by omega), up_o _ _ (by omega), up_s]
          exact g2.1
        · rw [up_o _ _ (by omega), up_o _ _ (by omega), up_s]
          exact hw6
        · rw [up_o _ _ (by omega), up_s]
          exact hw10
        · rw [up_s]
          exact g5.1
      · rw [up_o _ _ (by omega), up_o _ _ (by omega), up_o _ _ (by omega), up_o _ _ (by omega), up_o _ _ (by omega), va_up_ne _ _ z]
        exact hm.2.2.2 i q (by omega) hq
  simp only [jn]
  refine ⟨fun z => ?_, fun z => ?_⟩
  · rw [if_neg z] at g3 g4
    refine ⟨ic 2 (by omega), fun u8 e8 => ⟨fun _ => ⟨ic 3 (by omega), fun u12 e12 => ⟨ic 4 (by omega), fun u14 e14 u15 e15 => key _ _ g3.1 g4.1 u8 e8 u12 e12 u14 e14 u15 e15⟩⟩, fun y => absurd y z⟩⟩
  · rw [if_pos z] at g3 g4
    refine ⟨ic 2 (by omega), fun u8 e8 => ⟨fun y => absurd z y, fun _ => ⟨ic 3 (by omega), fun u12 e12 => ⟨ic 4 (by omega), fun u14 e14 u15 e15 => key _ _ g3.1 g4.1 u8 e8 u12 e12 u14 e14 u15 e15⟩⟩⟩⟩
theorem mK_add {N c : Nat} {ar : Nat → Nat → Nat} (hk : mK N c ar) (hc : c < 20) {x1 x2 x3 x4 x5 : Int32} (hg : gdA N x1 x2 x3 x4 x5 = true) : mK N (c + 1) (va_up ar c (arN x1 x2 x3 x4 x5)) := by
  obtain ⟨g1, g2, g3, g4, g5⟩ := gdA_t hk.2.1 hg
  refine ⟨hk.1, hk.2.1, hc, fun i hi => ?_⟩
  by_cases z : i = c
  · rw [z, va_up_self]
    exact ⟨g1.2, g2.2, g3.2, g4.2, g5.2⟩
  · rw [va_up_ne _ _ z]
    exact hk.2.2.2 i (by omega)
theorem c_arc {uf um uh : Ob} {N c : Nat} {bg : Nat → Bool} {ar : Nat → Nat → Nat} (hm : mR um N c bg ar) (hk : mK N c ar) {x1 x2 x3 x4 x5 : Int32} {post : Int32 → Ob → Ob → Ob → Prop}
    (h2 : gdA N x1 x2 x3 x4 x5 = true → c < 20 → ∀ vf vm vh, vf.1 7 = 0 → mR vm N (c + 1) bg (va_up ar c (arN x1 x2 x3 x4 x5)) → plR vh 0 nilW0 → post (nI c) vf vm vh) (h1 : gdA N x1 x2 x3 x4 x5 = true → c = 20 → post (-3) uf um uh) (h0 : gdA N x1 x2 x3 x4 x5 = false → post (-1) uf um uh) : wp_X7_arc uf um uh x1 x2 x3 x4 x5 post := by
  have hc := hk.2.2.1
  unfold wp_X7_arc
  refine s_canHave hm hk.2.1 ?_
  refine bI_if2 (fun e => ?_) (fun e => h0 e)
  rw [hm.2.1]
  refine pk_lt c 20 (fun q => ?_) (fun q => h1 e (by omega))
  refine s_madd hm hk.2.1 q e (fun vm hv => s_startAgain (fun vf vh hf hh => ?_))
  rw [hv.2.1, nI_pred]
  exact h2 e q vf vm vh hf hv hh
theorem c_unarc {uf um uh : Ob} {N c : Nat} {bg : Nat → Bool} {ar : Nat → Nat → Nat} (hm : mR um N c bg ar) (hk : mK N c ar) {post : Int32 → Ob → Ob → Ob → Prop}
    (h1 : 0 < c → ∀ vf vm vh, vf.1 7 = 0 → mR vm N (c - 1) bg ar → plR vh 0 nilW0 → post (nI (c - 1)) vf vm vh) (h0 : c = 0 → post (-2) uf um uh) : wp_X7_unarc uf um uh post := by
  have hc := hk.2.2.1
  unfold wp_X7_unarc
  rw [hm.2.1]
  refine pk_ne c 0 (fun q => ?_) (fun q => h0 q)
  intro um2 e2
  have e5 : nI c - 1 = nI (c - 1) := pk_sub (b := 1) (by omega)
  rw [e5] at e2
  refine s_startAgain (fun vf vh hf hh => ?_)
  have f : um2.1 1 = nI (c - 1) := by rw [e2, ob_is]
  rw [f]
  refine h1 (by omega) vf um2 vh hf ⟨?_, f, ?_, fun i q hi hq => ?_⟩ hh
  · rw [e2, ob_io _ _ (by decide)]
    exact hm.1
  · rw [e2]
    exact hm.2.2.1
  · rw [e2]
    exact hm.2.2.2 i q (by omega) hq
def A_told (c : Nat) (ar : Nat → Nat → Nat) (x1 x2 : Int32) : Int32 := if ix x1 c && ix x2 5 then nI (ar x1.toNatClampNeg x2.toNatClampNeg) else -1
theorem c_told {uf um : Ob} {N c : Nat} {bg : Nat → Bool} {ar : Nat → Nat → Nat} (hm : mR um N c bg ar) (hk : mK N c ar) {x1 x2 : Int32} {post : Int32 → Prop} (h : post (A_told c ar x1 x2)) : wp_X7_told uf um x1 x2 post := by
  have hc := hk.2.2.1
  unfold wp_X7_told
  rw [hm.2.1]
  unfold A_told at h
  refine c_among (by omega) ?_
  refine bI_if (fun e1 => ?_) (fun e1 => ?_)
  · rw [e1] at h
    exact h
  refine c_among (n := 5) (by omega) ?_
  refine bI_if2 (fun e2 => ?_) (fun e2 => ?_)
  · rw [e1, e2] at h
    obtain ⟨i, hi, rfl⟩ := ix_t (by omega) e1
    obtain ⟨q, hq, rfl⟩ := ix_t (by omega) e2
    refine s_part hm hk q hi hq ?_
    rw [nI_clamp (by omega), nI_clamp (by omega)] at h
    exact h
  · rw [e1, e2] at h
    exact h
