theorem ilt (a b : Int32) : a < b ↔ a.toInt < b.toInt := Int32.lt_iff_toInt_lt
theorem ile (a b : Int32) : a ≤ b ↔ a.toInt ≤ b.toInt := Int32.le_iff_toInt_le
/-! arcs from sheets -/
def gdAt (N : Nat) (f : Nat → Int32) (p : Nat) : Bool := gdA N (f p) (f (p + 1)) (f (p + 2)) (f (p + 3)) (f (p + 4))
def arAt (f : Nat → Int32) (p : Nat) : Nat → Nat := arN (f p) (f (p + 1)) (f (p + 2)) (f (p + 3)) (f (p + 4))
def allG (N : Nat) (f : Nat → Int32) (i : Nat) : Nat → Bool
  | 0 => true
  | n + 1 => allG N f i n && gdAt N f (i + 5 * n)
def addA (ar : Nat → Nat → Nat) (c : Nat) (f : Nat → Int32) (i : Nat) : Nat → Nat → Nat → Nat
  | 0 => ar
  | n + 1 => va_up (addA ar c f i n) (c + n) (arAt f (i + 5 * n))
theorem allG_no {N : Nat} {f : Nat → Int32} {i k : Nat} (h : gdAt N f (i + 5 * k) = false) : ∀ n, k < n → allG N f i n = false
  | 0, hk => absurd hk (Nat.not_lt_zero k)
  | n + 1, hk => by
    unfold allG
    by_cases z : k = n
    · rw [← z, h, Bool.and_false]
    · rw [allG_no h n (by omega), Bool.false_and]
theorem allG_at {N : Nat} {f : Nat → Int32} {i : Nat} : ∀ n, allG N f i n = true → ∀ k, k < n → gdAt N f (i + 5 * k) = true
  | 0, _, k, hk => absurd hk (Nat.not_lt_zero k)
  | n + 1, h, k, hk => by
    unfold allG at h
    simp only [Bool.and_eq_true] at h
    by_cases z : k = n
    · rw [z]
      exact h.2
    · exact allG_at n h.1 k (by omega)
theorem ixk (i k q : Nat) : (nI i + (nI k * 5)) + nI q = nI (i + 5 * k + q) := by
  rw [show (5 : Int32) = nI 5 from rfl, pk_mul, nI_add, nI_add]
  congr 1
  omega
theorem s_canHaveAll {um : Ob} {N c : Nat} {bg : Nat → Bool} {ar : Nat → Nat → Nat} (hm : mR um N c bg ar) (hN : N ≤ 8) {f g : Nat → Int32} {M : Nat} (hM : M ≤ 100) (hf : ∀ j, j < M → f j = g j) {i n : Nat} (hin : i + 5 * n ≤ M) {post : Int32 → Prop} (h : post (bI (allG N g i n))) : wp_X0_canHaveAll um M f (nI i) (nI n) post := by
  unfold wp_X0_canHaveAll
  refine lq1_m (fun m v => ∃ k, k + m = n ∧ v = nI k ∧ allG N g i k = true) ?_ n 0 ⟨0, by omega, rfl, rfl⟩
  rintro LL m v ⟨k, hk, rfl, hg⟩ ih
  refine pk_le n k (fun hc => ?_) (fun hc => ?_)
  · have e : k = n := by omega
    rw [e] at hg
    rw [hg] at h
    exact h
  have d0 : (nI i + (nI k * 5)) + 0 = nI (i + 5 * k + 0) := ixk i k 0
  have d1 : (nI i + (nI k * 5)) + 1 = nI (i + 5 * k + 1) := ixk i k 1
  have d2 : (nI i + (nI k * 5)) + 2 = nI (i + 5 * k + 2) := ixk i k 2
  have d3 : (nI i + (nI k * 5)) + 3 = nI (i + 5 * k + 3) := ixk i k 3
  have d4 : (nI i + (nI k * 5)) + 4 = nI (i + 5 * k + 4) := ixk i k 4
  rw [d0, d1, d2, d3, d4, nI_clamp (by omega), nI_clamp (by omega), nI_clamp (by omega), nI_clamp (by omega), nI_clamp (by omega), hf _ (by omega), hf _ (by omega), hf _ (by omega), hf _ (by omega), hf _ (by omega)]
  refine ⟨vp_in_nI (by omega) (by omega), vp_in_nI (by omega) (by omega), vp_in_nI (by omega) (by omega), vp_in_nI (by omega) (by omega), vp_in_nI (by omega) (by omega), ?_⟩
  refine s_canHave hm hN ?_
  refine bI_if2 (fun z => ?_) (fun z => ?_)
  · refine ih (m - 1) _ (by omega) ⟨k + 1, by omega, nI_1 k, ?_⟩
    unfold allG
    rw [hg]
    exact z
  · have e := allG_no (N := N) (f := g) (i := i) (k := k) z n hc
    rw [e] at h
    exact h
theorem s_addAll {um : Ob} {N c : Nat} {bg : Nat → Bool} {ar : Nat → Nat → Nat} (hm : mR um N c bg ar) (hN : N ≤ 8) {f g : Nat → Int32} {M : Nat} (hM : M ≤ 100) (hf : ∀ j, j < M → f j = g j) {i n : Nat} (hin : i + 5 * n ≤ M) (hg : allG N g i n = true) (hcn : c + n ≤ 20) {post : Ob → Prop} (h : ∀ v, mR v N (c + n) bg (addA ar c g i n) → post v) : wp_X0_addAll um M f (nI i) (nI n) post := by
  unfold wp_X0_addAll
  refine lq2_m (fun m v w => ∃ k, k + m = n ∧ v = nI k ∧ mR w N (c + k) bg (addA ar c g i k)) ?_ n 0 um ⟨0, by omega, rfl, hm⟩
  rintro LL m v w ⟨k, hk, rfl, hw⟩ ih
  refine pk_le n k (fun hc => ?_) (fun hc => ?_)
  · have e : k = n := by omega
    rw [e] at hw
    exact h w hw
  have d0 : (nI i + (nI k * 5)) + 0 = nI (i + 5 * k + 0) := ixk i k 0
  have d1 : (nI i + (nI k * 5)) + 1 = nI (i + 5 * k + 1) := ixk i k 1
  have d2 : (nI i + (nI k * 5)) + 2 = nI (i + 5 * k + 2) := ixk i k 2
  have d3 : (nI i + (nI k * 5)) + 3 = nI (i + 5 * k + 3) := ixk i k 3
  have d4 : (nI i + (nI k * 5)) + 4 = nI (i + 5 * k + 4) := ixk i k 4
  rw [d0, d1, d2, d3, d4, nI_clamp (by omega), nI_clamp (by omega), nI_clamp (by omega), nI_clamp (by omega), nI_clamp (by omega), hf _ (by omega), hf _ (by omega), hf _ (by omega), hf _ (by omega), hf _ (by omega)]
  refine ⟨vp_in_nI (by omega) (by omega), vp_in_nI (by omega) (by omega), vp_in_nI (by omega) (by omega), vp_in_nI (by omega) (by omega), vp_in_nI (by omega) (by omega), ?_⟩
  exact s_madd hw hN (by omega) (allG_at n hg k hc) (fun w2 hw2 => ih (m - 1) _ _ (by omega) ⟨k + 1, by omega, nI_1 k, hw2⟩)
theorem mK_addA {N c : Nat} {ar : Nat → Nat → Nat} (hk : mK N c ar) {g : Nat → Int32} {i : Nat} : ∀ n, allG N g i n = true → c + n ≤ 20 → mK N (c + n) (addA ar c g i n)
  | 0, _, _ => hk
  | n + 1, hg, hc => by
    have hg2 := allG_at (n + 1) hg n (by omega)
    unfold allG at hg
    simp only [Bool.and_eq_true] at hg
    exact mK_add (mK_addA hk n hg.1 (by omega)) (by omega) hg2
/-- what 'arcs' finds: 0, if it is done -/
def arcsC (N c : Nat) (hd : Nat → Bool) (ln sz : Nat → Nat) (it : Nat → Nat → Int32) (x1 x2 x3 x4 : Int32) : Int32 :=
  if ix x1 2 && (ix x2 2 && ix x4 13) then
    (if fltA (hd x1.toNatClampNeg) (ln x1.toNatClampNeg) x2 = 0 then
      (if 0 ≤ x3.toInt ∧ x3.toInt + 5 * (x4.toNatClampNeg : Int) ≤ (sz x1.toNatClampNeg : Int) then
        (if allG N (it x1.toNatClampNeg) x3.toNatClampNeg x4.toNatClampNeg then (if c + x4.toNatClampNeg ≤ 20 then 0 else -3) else -2)
       else -13)
     else fltA (hd x1.toNatClampNeg) (ln x1.toNatClampNeg) x2)
  else -1
theorem nm1_0 : ¬ (-1 : Int32) = 0 := by decide
theorem nm2_0 : ¬ (-2 : Int32) = 0 := by decide
theorem nm3_0 : ¬ (-3 : Int32) = 0 := by decide
theorem nm13_0 : ¬ (-13 : Int32) = 0 := by decide
theorem c_arcs1 {uf um uh us : Ob} {N c : Nat} {bg : Nat → Bool} {ar : Nat → Nat → Nat} {hd : Bool} {ln sz : Nat} {it : Nat → Int32} (hm : mR um N c bg ar) (hk : mK N c ar) (hs : shR us hd ln sz it) (hz : sz ≤ 60) {x2 x3 : Int32} {n : Nat} (hn : n ≤ 12) {post : Int32 → Ob → Ob → Ob → Prop} {C : Int32}
    (hC : C = if fltA hd ln x2 = 0 then (if 0 ≤ x3.toInt ∧ x3.toInt + 5 * (n : Int) ≤ (sz : Int) then (if allG N it x3.toNatClampNeg n then (if c + n ≤ 20 then 0 else -3) else -2) else -13) else fltA hd ln x2)
    (h1 : C = 0 → allG N it x3.toNatClampNeg n = true → c + n ≤ 20 → ∀ vf vm vh, vf.1 7 = 0 → mR vm N (c + n) bg (addA ar c it x3.toNatClampNeg n) → plR vh 0 nilW0 → post (nI (c + n)) vf vm vh) (h0 : ¬ C = 0 → post C uf um uh) :
    wp_X3_faultAs us x2 (fun (r_8 : Int32) =>
            ((r_8 = 0) →
              ((x3 < 0) →
                post (-13) uf um uh) ∧ ((¬ x3 < 0) →
                ((x3 ≤ ((us.1 1) - (nI n * 5))) →
                  wp_X0_canHaveAll um 60 (us.2.1 2) x3 (nI n) (fun (r_12 : Int32) =>
                  ((¬ r_12 = 0) →
                    ((((um.1 1) + nI n) ≤ 20) →
                      wp_X0_addAll um 60 (us.2.1 2) x3 (nI n) (fun (um_15 : Ob) =>
                      wp_X7_startAgain uf uh (fun (uf_16 : Ob) (uh_17 : Ob) =>
                      post (um_15.1 1) uf_16 um_15 uh_17))) ∧ ((¬ ((um.1 1) + nI n) ≤ 20) →
                      post (-3) uf um uh)) ∧ ((r_12 = 0) →
                    post (-2) uf um uh))) ∧ ((¬ x3 ≤ ((us.1 1) - (nI n * 5))) →
                  post (-13) uf um uh))) ∧ ((¬ r_8 = 0) →
              post r_8 uf um uh)) := by
  have hc := hk.2.2.1
  have q0 : (0 : Int32).toInt = 0 := rfl
  refine s_faultAs hs ⟨fun q => ?_, fun q => ?_⟩
  · rw [if_pos q] at hC
    have em : nI n * 5 = nI (n * 5) := pk_mul n 5
    have es : (nI sz - nI (n * 5)).toInt = (sz : Int) - ((n * 5 : Nat) : Int) := pk_sub_toInt (by omega) (by omega)
    rw [hs.2.1, em, Int32.lt_iff_toInt_lt, Int32.le_iff_toInt_le, es, q0]
    refine ⟨fun y => ?_, fun y => ⟨fun y2 => ?_, fun y2 => ?_⟩⟩
    · rw [if_neg (by omega)] at hC
      rw [hC] at h0
      exact h0 nm13_0
    · rw [if_pos (by omega)] at hC
      have e3 : ix x3 (sz + 1) = true := decide_eq_true (by omega)
      obtain ⟨i, hi, rfl⟩ := ix_t (by omega) e3
      have ci : (nI i).toNatClampNeg = i := nI_clamp (by omega)
      have ti : (nI i).toInt = (i : Int) := nI_toInt (by omega)
      rw [ci] at hC h1
      rw [ti] at y2
      have hle : i + 5 * n ≤ 60 := by omega
      refine s_canHaveAll hm hk.2.1 (by omega) hs.2.2.2 hle ?_
      refine bI_if2 (fun z => ?_) (fun z => ?_)
      · rw [if_pos z] at hC
        rw [hm.2.1, nI_add]
        refine pk_le (c + n) 20 (fun y3 => ?_) (fun y3 => ?_)
        · rw [if_pos y3] at hC
          refine s_addAll hm hk.2.1 (by omega) hs.2.2.2 hle z y3 (fun vm hv => s_startAgain (fun vf vh hf hh => ?_))
          rw [hv.2.1]
          exact h1 hC z y3 vf vm vh hf hv hh
        · rw [if_neg (by omega)] at hC
          rw [hC] at h0
          exact h0 nm3_0
      · rw [z] at hC
        have hC2 : C = -2 := hC
        rw [hC2] at h0
        exact h0 nm2_0
    · rw [if_neg (by omega)] at hC
      rw [hC] at h0
      exact h0 nm13_0
  · rw [if_neg q] at hC
    rw [hC] at h0
    exact h0 q
theorem c_arcs {uf um uh ux uy : Ob} {N c : Nat} {bg : Nat → Bool} {ar : Nat → Nat → Nat} {hd : Nat → Bool} {ln sz : Nat → Nat} {it : Nat → Nat → Int32} (hm : mR um N c bg ar) (hk : mK N c ar) (hs : shB ux uy hd ln sz it) (hz : shK ln sz) {x1 x2 x3 x4 : Int32} {post : Int32 → Ob → Ob → Ob → Prop}
    (h1 : arcsC N c hd ln sz it x1 x2 x3 x4 = 0 → allG N (it x1.toNatClampNeg) x3.toNatClampNeg x4.toNatClampNeg = true → c + x4.toNatClampNeg ≤ 20 → ∀ vf vm vh, vf.1 7 = 0 → mR vm N (c + x4.toNatClampNeg) bg (addA ar c (it x1.toNatClampNeg) x3.toNatClampNeg x4.toNatClampNeg) → plR vh 0 nilW0 → post (nI (c + x4.toNatClampNeg)) vf vm vh)
    (h0 : ¬ arcsC N c hd ln sz it x1 x2 x3 x4 = 0 → post (arcsC N c hd ln sz it x1 x2 x3 x4) uf um uh) : wp_X7_arcs uf um uh ux uy x1 x2 x3 x4 post := by
  have q0 : (0 : Int32).toInt = 0 := rfl
  have q12 : (12 : Int32).toInt = 12 := rfl
  unfold wp_X7_arcs
  have bad : (ix x1 2 && (ix x2 2 && ix x4 13)) = false → post (-1) uf um uh := by
    intro z
    have e : arcsC N c hd ln sz it x1 x2 x3 x4 = -1 := by rw [arcsC, z]; rfl
    rw [e] at h0
    exact h0 nm1_0
  refine c_among (n := 2) (by omega) ?_
  refine bI_if (fun e1 => bad (by rw [e1]; rfl)) (fun e1 => ?_)
  refine c_among (n := 2) (by omega) ?_
  refine bI_if (fun e2 => bad (by rw [e1, e2]; rfl)) (fun e2 => ?_)
  rw [ilt x4, q0, ile x4, q12]
  refine ⟨fun y => bad (by rw [show ix x4 13 = false from decide_eq_false (by omega), Bool.and_false, Bool.and_false]), fun y => ⟨fun y2 => ?_, fun y2 => bad (by rw [show ix x4 13 = false from decide_eq_false (by omega), Bool.and_false, Bool.and_false])⟩⟩
  have e4 : ix x4 13 = true := decide_eq_true (by omega)
  have eall : (ix x1 2 && (ix x2 2 && ix x4 13)) = true := by rw [e1, e2, e4]; rfl
  unfold arcsC at h1 h0
  rw [if_pos eall] at h1 h0
  obtain ⟨n, hn, rfl⟩ := ix_t (by omega) e4
  have cn : (nI n).toNatClampNeg = n := nI_clamp (by omega)
  rw [cn] at h1 h0
  rcases ix2_cases e1 with rfl | rfl
  · rw [c0] at h1 h0
    refine ⟨in0_2, fun _ => ?_, fun z => absurd z n01⟩
    exact c_arcs1 hm hk hs.1 (hz 0 (by omega)).2 (by omega) rfl h1 h0
  · rw [c1] at h1 h0
    refine ⟨in1_2, fun z => absurd z n10, fun _ => ?_⟩
    exact c_arcs1 hm hk hs.2 (hz 1 (by omega)).2 (by omega) rfl h1 h0
theorem lgc_le {a b : Nat} (ha : a < 2 ^ 63) (hb : b < 2 ^ 63) : lg_cmp (lN a) (lN b) ≤ 0 ↔ a ≤ b := by
  unfold lg_cmp
  by_cases z : lN a > lN b
  · have z2 : b < a := (pk_lLT hb ha).mp z
    rw [if_pos z]
    exact ⟨fun y => absurd y (by decide), fun y => by omega⟩
  · have z2 : ¬ b < a := fun y => z ((pk_lLT hb ha).mpr y)
    rw [if_neg z]
    refine ⟨fun _ => by omega, fun _ => ?_⟩
    by_cases y : lN a = lN b
    · rw [if_pos y]
      decide
    · rw [if_neg y]
      decide
theorem ixk2 (s i k q : Nat) : ((60 * nI s + nI i) + (5 * nI k)) + nI q = nI (60 * s + (i + 5 * k + q)) := by
  rw [show (5 : Int32) = nI 5 from rfl, show (60 : Int32) = nI 60 from rfl, pk_mul, pk_mul, nI_add, nI_add, nI_add]
  congr 1
  omega
theorem ixk3 (s i k : Nat) : ((60 * nI s + nI i) + (5 * nI k)) = nI (60 * s + (i + 5 * k)) := by
  rw [show (5 : Int32) = nI 5 from rfl, show (60 : Int32) = nI 60 from rfl, pk_mul, pk_mul, nI_add, nI_add]
  congr 1
  omega
theorem m_arcs {u : Ob} {N c : Nat} {bg : Nat → Bool} {ar : Nat → Nat → Nat} {tp : List Nat} {sN : Nat} {wN : Nat → List Nat} {sA : Nat} {wA : Nat → List Nat} {hd : Nat → Bool} {ln sz : Nat → Nat} {it : Nat → Nat → Int32} (h : MR u N c bg ar tp sN wN sA wA hd ln sz it) (hA : ∀ k, k < 2 → (wA k).length ≤ 11) (hk : mK N c ar) (hz : shK ln sz) {x1 x2 x3 x4 : Int32} {post : Int32 → Ob → Prop}
    (h1 : arcsC N c hd ln sz it x1 x2 x3 x4 = 0 → allG N (it x1.toNatClampNeg) x3.toNatClampNeg x4.toNatClampNeg = true → c + x4.toNatClampNeg ≤ 20 → ∀ v, MR v N (c + x4.toNatClampNeg) bg (addA ar c (it x1.toNatClampNeg) x3.toNatClampNeg x4.toNatClampNeg) tp 0 nilW0 sA wA hd ln sz it → post (nI (c + x4.toNatClampNeg)) v)
    (h0 : ¬ arcsC N c hd ln sz it x1 x2 x3 x4 = 0 → post (arcsC N c hd ln sz it x1 x2 x3 x4) u) : wp_X8_arcs u x1 x2 x3 x4 post := by
  have hc := hk.2.2.1
  have q0 : (0 : Int32).toInt = 0 := rfl
  unfold wp_X8_arcs
  have bad : (ix x1 2 && (ix x2 2 && ix x4 13)) = false → post (-1) u := by
    intro z
    have e : arcsC N c hd ln sz it x1 x2 x3 x4 = -1 := by rw [arcsC, z]; rfl
    rw [e] at h0
    exact h0 nm1_0
  refine m_isSheet ?_
  refine bI_if (fun e1 => bad (by rw [e1]; rfl)) (fun e1 => ?_)
  refine m_in (a := 0) (b := 1) (by decide) (by decide) ?_
  rw [ixr_0]
  refine bI_if (fun e2 => bad (by rw [e1, e2]; rfl)) (fun e2 => ?_)
  refine m_in (a := 0) (b := 12) (by decide) (by decide) ?_
  rw [ixr_0]
  refine bI_if2 (fun e4 => ?_) (fun e4 => bad (by rw [e4, Bool.and_false, Bool.and_false]))
  have eall : (ix x1 2 && (ix x2 2 && ix x4 13)) = true := by rw [e1, e2, e4]; rfl
  unfold arcsC at h1 h0
  rw [if_pos eall] at h1 h0
  obtain ⟨n, hn, rfl⟩ := ix_t (by omega) e4
  obtain ⟨s, hs2, rfl⟩ := ix_t (by omega) e1
  have cn : (nI n).toNatClampNeg = n := nI_clamp (by omega)
  have cs : (nI s).toNatClampNeg = s := nI_clamp (by omega)
  rw [cn, cs] at h1 h0
  rw [cs]
  have i2 : vp_in (nI s) 2 := vp_in_nI hs2 (by omega)
  have k := hz s hs2
  have hsr := h.2.2.2.2 s hs2
  rw [hsr.1, hsr.2.1]
  refine ⟨i2, lane_ge k.1 (fun z => ⟨i2, ?_⟩) (fun z => ?_)⟩
  · rw [z, if_pos rfl]
    rw [z, fltA_t] at h1 h0
    refine ⟨fun y => ?_, fun y => ?_⟩
    · rw [if_pos y.symm, if_pos rfl] at h1 h0
      rw [ilt x3, q0]
      refine ⟨fun y2 => ?_, fun y2 => ⟨i2, ?_⟩⟩
      · rw [if_neg (by omega)] at h0
        exact h0 nm13_0
      · have qn : ¬ x3 < 0 := by
          rw [Int32.lt_iff_toInt_lt, q0]
          exact y2
        obtain ⟨i, hi, rfl⟩ := nI_of qn
        have ci : (nI i).toNatClampNeg = i := nI_clamp hi
        have ti : (nI i).toInt = (i : Int) := nI_toInt hi
        have e5 : (5 : Int32) * nI n = nI (5 * n) := pk_mul 5 n
        rw [ci, ti] at h1 h0
        rw [e5, nI_l hi, nI_l (by omega), nI_l (by omega), lN_add, lgc_le (by omega) (by omega)]
        refine ⟨fun y3 => ?_, fun y3 => ?_⟩
        · rw [if_pos (by omega)] at h1 h0
          have hle : i + 5 * n ≤ 60 := by omega
          refine lq1_m (fun m v => ∃ k, k + m = n ∧ v = nI k ∧ allG N (it s) i k = true) ?_ n 0 ⟨0, by omega, rfl, rfl⟩
          rintro LL m v ⟨k1, hk1, rfl, hg⟩ ih
          refine pk_le n k1 (fun hc1 => ?_) (fun hc1 => ?_)
          · have e : k1 = n := by omega
            rw [e] at hg
            rw [if_pos hg] at h1 h0
            rw [h.1.2.1, nI_add]
            refine pk_le (c + n) 20 (fun y4 => ?_) (fun y4 => ?_)
            · rw [if_pos y4] at h1
              have h1 := h1 rfl hg y4
              refine lq2_m (fun m2 v2 w => ∃ k2 s2 w2, k2 + m2 = n ∧ v2 = nI k2 ∧ MR w N (c + k2) bg (addA ar c (it s) i k2) tp s2 w2 sA wA hd ln sz it) ?_ n 0 u ⟨0, sN, wN, by omega, rfl, h⟩
              rintro LL2 m2 v2 w ⟨k2, s2, w2, hk2, rfl, hw⟩ ih2
              refine pk_le n k2 (fun hc2 => ?_) (fun hc2 => ?_)
              · have e2 : k2 = n := by omega
                rw [e2] at hw
                refine s_empty (p := 82) (st := 0) (by decide) (fun v9 k9 p9 => ?_)
                have r9 := hw.now hA k9 p9
                rw [r9.1.2.1]
                exact h1 v9 r9
              · have d1 : ((60 * nI s + nI i) + (5 * nI k2)) + 1 = nI (60 * s + (i + 5 * k2 + 1)) := ixk2 s i k2 1
                have d2 : ((60 * nI s + nI i) + (5 * nI k2)) + 2 = nI (60 * s + (i + 5 * k2 + 2)) := ixk2 s i k2 2
                have d3 : ((60 * nI s + nI i) + (5 * nI k2)) + 3 = nI (60 * s + (i + 5 * k2 + 3)) := ixk2 s i k2 3
                have d4 : ((60 * nI s + nI i) + (5 * nI k2)) + 4 = nI (60 * s + (i + 5 * k2 + 4)) := ixk2 s i k2 4
                have o := (hw.2.2.2.2 s hs2).2.2
                rw [d1, d2, d3, d4, ixk3, nI_clamp (by omega), nI_clamp (by omega), nI_clamp (by omega), nI_clamp (by omega), nI_clamp (by omega), o _ (by omega), o _ (by omega), o _ (by omega), o _ (by omega), o _ (by omega)]
                refine ⟨vp_in_nI (by omega) (by omega), vp_in_nI (by omega) (by omega), vp_in_nI (by omega) (by omega), vp_in_nI (by omega) (by omega), vp_in_nI (by omega) (by omega), ?_⟩
                exact m_put hw hA hk.2.1 (by omega) (allG_at n hg k2 hc2) (fun w9 hw9 _ => ih2 (m2 - 1) _ _ (by omega) ⟨k2 + 1, 0, nilW0, by omega, nI_1 k2, hw9⟩)
            · rw [if_neg (by omega)] at h0
              exact h0 nm3_0
          · have d1 : ((60 * nI s + nI i) + (5 * nI k1)) + 1 = nI (60 * s + (i + 5 * k1 + 1)) := ixk2 s i k1 1
            have d2 : ((60 * nI s + nI i) + (5 * nI k1)) + 2 = nI (60 * s + (i + 5 * k1 + 2)) := ixk2 s i k1 2
            have d3 : ((60 * nI s + nI i) + (5 * nI k1)) + 3 = nI (60 * s + (i + 5 * k1 + 3)) := ixk2 s i k1 3
            have d4 : ((60 * nI s + nI i) + (5 * nI k1)) + 4 = nI (60 * s + (i + 5 * k1 + 4)) := ixk2 s i k1 4
            have o := hsr.2.2
            rw [d1, d2, d3, d4, ixk3, nI_clamp (by omega), nI_clamp (by omega), nI_clamp (by omega), nI_clamp (by omega), nI_clamp (by omega), o _ (by omega), o _ (by omega), o _ (by omega), o _ (by omega), o _ (by omega)]
            refine ⟨vp_in_nI (by omega) (by omega), vp_in_nI (by omega) (by omega), vp_in_nI (by omega) (by omega), vp_in_nI (by omega) (by omega), vp_in_nI (by omega) (by omega), ?_⟩
            refine m_isGood h.1 hk.2.1 ?_
            refine bI_if2 (fun z5 => ?_) (fun z5 => ?_)
            · refine ih (m - 1) _ (by omega) ⟨k1 + 1, by omega, nI_1 k1, ?_⟩
              unfold allG
              rw [hg]
              exact z5
            · have e := allG_no (N := N) (f := it s) (i := i) (k := k1) z5 n hc1
              rw [e] at h0
              exact h0 nm2_0
        · rw [if_neg (by omega)] at h0
          exact h0 nm13_0
    · have f : (if x2 = nI (ln s) then (0 : Int32) else -12) = -12 := if_neg (fun q => y q.symm)
      rw [f, if_neg (by decide)] at h0
      exact h0 (by decide)
  · have f : fltA false (ln s) x2 = -11 := rfl
    rw [z, f, if_neg (by decide)] at h0
    exact h0 (by decide)
