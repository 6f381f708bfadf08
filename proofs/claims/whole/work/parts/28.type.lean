/-! type: bytes of a long -/
theorem k64s : ∀ k, k < 64 → (((nI k).toInt64 &&& 63).toBitVec.smod 64).toNat = k := by decide +kernel
theorem k64u : ∀ k, k < 64 → (((nI k).toInt64.toUInt64 &&& Int64.toUInt64 63).toBitVec % 64).toNat = k := by decide +kernel
theorem lshr_bit (x : Int64) (k : Nat) (hk : k < 64) (i : Nat) (hi : k + i < 64) : (j_lshr x (nI k)).toBitVec.getLsbD i = x.toBitVec.getLsbD (k + i) := by
  unfold j_lshr
  rw [Int64.toBitVec_shiftRight]
  show (x.toBitVec.sshiftRight (((nI k).toInt64 &&& 63).toBitVec.smod 64).toNat).getLsbD i = _
  rw [k64s k hk, BitVec.getLsbD_sshiftRight]
  have h1 : i < 64 := by omega
  simp [hi, h1]
theorem lushr_bit (x : Int64) (k : Nat) (hk : k < 64) (i : Nat) : (j_lushr x (nI k)).toBitVec.getLsbD i = x.toBitVec.getLsbD (k + i) := by
  unfold j_lushr
  show (x.toUInt64 >>> ((nI k).toInt64.toUInt64 &&& Int64.toUInt64 63)).toBitVec.getLsbD i = x.toUInt64.toBitVec.getLsbD (k + i)
  rw [UInt64.toBitVec_shiftRight]
  show (x.toUInt64.toBitVec >>> (((nI k).toInt64.toUInt64 &&& Int64.toUInt64 63).toBitVec % 64).toNat).getLsbD i = _
  rw [k64u k hk, BitVec.getLsbD_ushiftRight]
theorem b255 : ∀ i, i < 32 → (255#64).getLsbD i = decide (i < 8) := by decide +kernel
theorem b255w : ∀ i, i < 32 → (255#32).getLsbD i = decide (i < 8) := by decide +kernel
/-- the k-th byte of a long -/
def byB (x : Int64) (k : Nat) : Nat := (Int64.toInt32 (j_lushr x (nI (8 * k)))).toBitVec.toNat % 256
theorem mul8 (k : Nat) : (8 : Int32) * nI k = nI (8 * k) := pk_mul 8 k
theorem by_c (x : Int64) (k : Nat) : (Int64.toInt32 (j_lushr x (8 * nI k))) &&& 255 = nI (byB x k) := by
  rw [mul8]
  exact pk_and _ (m := 255) 8 (by decide)
theorem by_m (x : Int64) {k : Nat} (hk : k < 8) : Int64.toInt32 ((j_lshr x (8 * nI k)) &&& 255) = nI (byB x k) := by
  rw [← by_c, mul8]
  apply Int32.toBitVec_inj.1
  apply BitVec.eq_of_getLsbD_eq
  intro i hi
  rw [Int32.toBitVec_and, Int64.toBitVec_toInt32, Int64.toBitVec_toInt32, Int64.toBitVec_and, BitVec.getLsbD_signExtend, BitVec.getLsbD_and, BitVec.getLsbD_and, BitVec.getLsbD_signExtend, if_pos (by omega), if_pos (by omega)]
  have e1 : (255 : Int64).toBitVec = 255#64 := rfl
  have e2 : (255 : Int32).toBitVec = 255#32 := rfl
  rw [e1, e2, b255 i hi, b255w i hi, decide_eq_true hi]
  by_cases z : i < 8
  · rw [lshr_bit x (8 * k) (by omega) i (by omega), lushr_bit x (8 * k) (by omega) i]
    simp [z]
  · simp [z]
theorem byB_lt (x : Int64) (k : Nat) : byB x k < 256 := Nat.mod_lt _ (by decide)
/-- are the first n bytes as told? -/
def tyG (x : Int64) : Nat → Bool
  | 0 => true
  | n + 1 => tyG x n && decide (32 ≤ byB x n ∧ byB x n ≤ 126)
theorem tyG_no {x : Int64} {k : Nat} (h : ¬ (32 ≤ byB x k ∧ byB x k ≤ 126)) : ∀ n, k < n → tyG x n = false
  | 0, hk => absurd hk (Nat.not_lt_zero k)
  | n + 1, hk => by
    unfold tyG
    by_cases z : k = n
    · rw [← z, decide_eq_false h, Bool.and_false]
    · rw [tyG_no h n (by omega), Bool.false_and]
theorem tyG_at {x : Int64} : ∀ n, tyG x n = true → ∀ k, k < n → 32 ≤ byB x k ∧ byB x k ≤ 126
  | 0, _, k, hk => absurd hk (Nat.not_lt_zero k)
  | n + 1, h, k, hk => by
    unfold tyG at h
    simp only [Bool.and_eq_true, decide_eq_true_eq] at h
    by_cases z : k = n
    · rw [z]
      exact h.2
    · exact tyG_at n h.1 k (by omega)
/-- the tape with the n lowest bytes behind it, of these the highest first -/
def tyW (x : Int64) : Nat → List Nat
  | 0 => []
  | n + 1 => byB x n :: tyW x n
theorem tyW_len (x : Int64) : ∀ n, (tyW x n).length = n
  | 0 => rfl
  | n + 1 => by rw [tyW, List.length_cons, tyW_len x n]
/-- 0 bad, 1 full, 2 done -/
def tyN (tp : List Nat) (x : Int64) (x2 : Int32) : Nat := if ixr x2 1 8 && tyG x x2.toNatClampNeg then (if tp.length + x2.toNatClampNeg ≤ 130 then 2 else 1) else 0
def tpR (ut : Ob) (tp : List Nat) : Prop := ut.1 0 = nI tp.length ∧ ∀ i, i < tp.length → ut.2.1 2 i = nI (tp.getD i 0)
def tpK (tp : List Nat) : Prop := tp.length ≤ 130 ∧ ∀ i, i < tp.length → 32 ≤ tp.getD i 0 ∧ tp.getD i 0 ≤ 126
theorem app_get (a : List Nat) (b i : Nat) : (a ++ [b]).getD i 0 = if i < a.length then a.getD i 0 else if i = a.length then b else 0 := by
  simp only [List.getD_eq_getElem?_getD, List.getElem?_append]
  by_cases h : i < a.length
  · rw [if_pos h, if_pos h]
  · rw [if_neg h, if_neg h]
    by_cases h2 : i = a.length
    · rw [if_pos h2, h2]
      simp
    · rw [if_neg h2]
      have e : i - a.length = (i - a.length - 1) + 1 := by omega
      rw [e, List.getElem?_cons_succ]
      rfl
theorem tpK_app {tp : List Nat} (h : tpK tp) {b : Nat} (hl : tp.length < 130) (hb : 32 ≤ b ∧ b ≤ 126) : tpK (tp ++ [b]) := by
  refine ⟨by simp; omega, fun i hi => ?_⟩
  rw [app_get]
  simp at hi
  by_cases z : i < tp.length
  · rw [if_pos z]
    exact h.2 i z
  · rw [if_neg z, if_pos (by omega)]
    exact hb
theorem nar_byte {b : Nat} (h : b ≤ 126) : vp_nar .byte (Int8.toInt32 (Int32.toInt8 (nI b))) = nI b := by
  have k : ∀ b, b < 127 → vp_nar .byte (Int8.toInt32 (Int32.toInt8 (nI b))) = nI b := by decide +kernel
  exact k b (by omega)
theorem s_tcanHave {x : Int64} {n : Nat} (hn : n ≤ 8) {post : Int32 → Prop} (h : post (bI (tyG x n))) : wp_X4_canHave x (nI n) post := by
  unfold wp_X4_canHave
  refine lq1_m (fun m v => ∃ k, k + m = n ∧ v = nI k ∧ tyG x k = true) ?_ n 0 ⟨0, by omega, rfl, rfl⟩
  rintro LL m v ⟨k, hk, rfl, hg⟩ ih
  refine pk_le n k (fun hc => ?_) (fun hc => ?_)
  · have e : k = n := by omega
    rw [e] at hg
    rw [hg] at h
    exact h
  unfold wp_X4_byteOf
  rw [by_c]
  have hb := byB_lt x k
  have no : ¬ (32 ≤ byB x k ∧ byB x k ≤ 126) → post 0 := by
    intro z
    rw [tyG_no z n hc] at h
    exact h
  refine pk_lt (byB x k) 32 (fun z => no (by omega)) (fun z => ?_)
  refine pk_le (byB x k) 126 (fun z2 => ?_) (fun z2 => no (by omega))
  refine ih (m - 1) _ (by omega) ⟨k + 1, by omega, nI_1 k, ?_⟩
  unfold tyG
  rw [hg, decide_eq_true ⟨z, z2⟩]
  rfl
theorem s_tadd {ut : Ob} {tp : List Nat} (ht : tpR ut tp) {x : Int64} {n : Nat} (hn : 1 ≤ n) (hn8 : n ≤ 8) (hg : tyG x n = true) (hl : tp.length + n ≤ 130) {post : Ob → Prop} (h : ∀ v, tpR v (tp ++ tyW x n) → post v) : wp_X4_add ut x (nI n) post := by
  unfold wp_X4_add
  have e1 : nI n - 1 = nI (n - 1) := pk_sub (b := 1) (by omega)
  rw [e1]
  have main : ∀ (m : Nat) (y : Int32) (v : Ob), (∃ tq : List Nat, m ≤ n ∧ y = nI m - 1 ∧ tpR v tq ∧ tq ++ tyW x m = tp ++ tyW x n ∧ tq.length + m = tp.length + n) → ∃ n : Nat, lq2 (fun (LL_1 : Int32 → Ob → Prop) (v4_2 : Int32) (u_3 : Ob) =>
    ((v4_2 < 0) →
      post u_3) ∧ ((¬ v4_2 < 0) →
      wp_X4_byteOf x v4_2 (fun (r_5 : Int32) =>
      vp_in (u_3.1 0) 130 ∧ ∀ u_7 : Ob, u_7 = fs_a u_3 2 (upd (u_3.2.1 2) (u_3.1 0).toNatClampNeg (vp_nar .byte (Int8.toInt32 (Int32.toInt8 r_5)))) →
      ∀ u_8 : Ob, u_8 = fs_i u_7 0 ((u_7.1 0) + 1) →
      LL_1 (v4_2 + (-1)) u_8))) n y v := by
    refine lq2_m _ ?_
    rintro LL m y v ⟨tq, hmn, rfl, hv, he, hlen⟩ ih
    cases m with
    | zero =>
      refine ⟨fun _ => ?_, fun z => absurd (show nI 0 - 1 < (0 : Int32) by decide) z⟩
      have e2 : tq = tp ++ tyW x n := by rw [← he, tyW, List.append_nil]
      rw [e2] at hv
      exact h v hv
    | succ k =>
      rw [nI_pred]
      refine ⟨fun z => absurd z (nI_pos (by omega)), fun _ => ?_⟩
      unfold wp_X4_byteOf
      have hb := tyG_at n hg k (by omega)
      rw [by_c]
      show vp_in (v.1 0) 130 ∧ ∀ u_7 : Ob, u_7 = fs_a v 2 (upd (v.2.1 2) (v.1 0).toNatClampNeg (vp_nar .byte (Int8.toInt32 (Int32.toInt8 (nI (byB x k)))))) → ∀ u_8 : Ob, u_8 = fs_i u_7 0 ((u_7.1 0) + 1) → LL (nI k + (-1)) u_8
      rw [nar_byte hb.2, hv.1, nI_clamp (by omega)]
      refine ⟨vp_in_nI (by omega) (by omega), fun u7 e7 u8 e8 => ?_⟩
      have f7 : u7.1 0 = nI tq.length := by rw [e7]; exact hv.1
      have e6 : nI k + (-1) = nI k - 1 := (Int32.sub_eq_add_neg _ _).symm
      rw [e6]
      refine ih k _ _ (by omega) ⟨tq ++ [byB x k], by omega, rfl, ⟨?_, fun i hi => ?_⟩, ?_, ?_⟩
      · rw [e8, ob_is, f7, List.length_append]
        exact nI_1 _
      · rw [e8]
        show u7.2.1 2 i = _
        rw [e7, ob_as, app_get]
        simp at hi
        by_cases z : i < tq.length
        · rw [if_pos z, up_o _ _ (by omega)]
          exact hv.2 i z
        · have z2 : i = tq.length := by omega
          rw [if_neg z, if_pos z2, z2, up_s]
      · rw [← he, tyW]
        simp
      · simp
        omega
  refine main n (nI (n - 1)) ut ⟨tp, Nat.le_refl _, ?_, ht, rfl, rfl⟩
  rw [← e1]
theorem c_type {uf ut : Ob} {tp : List Nat} (ht : tpR ut tp) (hk : tpK tp) {x : Int64} {x2 : Int32} {post : Int32 → Ob → Prop}
    (h2 : tyN tp x x2 = 2 → ∀ v, tpR v (tp ++ tyW x x2.toNatClampNeg) → post (nI (tp.length + x2.toNatClampNeg)) v) (h1 : tyN tp x x2 = 1 → post (-3) ut) (h0 : tyN tp x x2 = 0 → post (-1) ut) : wp_X7_type uf ut x x2 post := by
  have hl := hk.1
  unfold wp_X7_type
  have q1 : (1 : Int32).toInt = 1 := rfl
  have q8 : (8 : Int32).toInt = 8 := rfl
  rw [ilt x2, ilt 8, q1, q8]
  have bad : ixr x2 1 8 = false → post (-1) ut := fun e => h0 (by rw [tyN, e]; rfl)
  refine ⟨fun z => bad (decide_eq_false (by omega)), fun z => ⟨fun z2 => bad (decide_eq_false (by omega)), fun z2 => ?_⟩⟩
  have e : ixr x2 1 8 = true := decide_eq_true (by omega)
  obtain ⟨n, ha, hb, rfl⟩ := ixr_t (by decide) e
  unfold tyN at h2 h1 h0
  rw [e, nI_clamp (by omega)] at h2 h1 h0
  refine s_tcanHave hb ?_
  refine bI_if2 (fun g => ?_) (fun g => h0 (by rw [g]; rfl))
  rw [g] at h2 h1
  rw [ht.1, nI_add]
  refine pk_le (tp.length + n) 130 (fun y => ?_) (fun y => h1 (by rw [if_pos (by decide), if_neg (by omega)]))
  refine s_tadd ht ha hb g y (fun v hv => ?_)
  have h2 := h2 (by rw [if_pos (by decide), if_pos y]) v hv
  rw [hv.1, List.length_append, tyW_len]
  exact h2
theorem tpK_type {tp : List Nat} (hk : tpK tp) {x : Int64} : ∀ n, tyG x n = true → tp.length + n ≤ 130 → tpK (tp ++ tyW x n) := by
  intro n hg hl
  refine ⟨by rw [List.length_append, tyW_len]; exact hl, ?_⟩
  have w : ∀ n, tyG x n = true → ∀ b ∈ tyW x n, 32 ≤ b ∧ b ≤ 126 := by
    intro n
    induction n with
    | zero => intro _ b hb; exact absurd hb List.not_mem_nil
    | succ n ih =>
      intro hg b hb
      have h9 := tyG_at (n + 1) hg n (by omega)
      unfold tyG at hg
      simp only [Bool.and_eq_true] at hg
      rw [tyW] at hb
      rcases List.mem_cons.mp hb with z | z
      · rw [z]
        exact h9
      · exact ih hg.1 b z
  intro i hi
  have e : (tp ++ tyW x n).getD i 0 = (tp ++ tyW x n)[i] := by rw [List.getD_eq_getElem?_getD, List.getElem?_eq_getElem hi]; rfl
  rw [e]
  rcases List.mem_append.mp (List.getElem_mem hi) with z | z
  · obtain ⟨j, hj, e2⟩ := List.getElem_of_mem z
    have := hk.2 j hj
    have e3 : tp.getD j 0 = tp[j] := by simp [List.getD_eq_getElem?_getD, hj]
    rw [e3, e2] at this
    exact this
  · exact w n hg _ z
theorem m_type {u : Ob} {N c : Nat} {bg : Nat → Bool} {ar : Nat → Nat → Nat} {tp : List Nat} {sN : Nat} {wN : Nat → List Nat} {sA : Nat} {wA : Nat → List Nat} {hd : Nat → Bool} {ln sz : Nat → Nat} {it : Nat → Nat → Int32} (h : MR u N c bg ar tp sN wN sA wA hd ln sz it) (hk : tpK tp) {x : Int64} {x2 : Int32} {post : Int32 → Ob → Prop}
    (h2 : tyN tp x x2 = 2 → ∀ v, MR v N c bg ar (tp ++ tyW x x2.toNatClampNeg) sN wN sA wA hd ln sz it → post (nI (tp.length + x2.toNatClampNeg)) v) (h1 : tyN tp x x2 = 1 → post (-3) u) (h0 : tyN tp x x2 = 0 → post (-1) u) : wp_X8_type u x x2 post := by
  have hl := hk.1
  unfold wp_X8_type
  refine m_in (a := 1) (b := 8) (by decide) (by decide) ?_
  refine bI_if2 (fun e => ?_) (fun e => h0 (by rw [tyN, e]; rfl))
  obtain ⟨n, ha, hb, rfl⟩ := ixr_t (by decide) e
  unfold tyN at h2 h1 h0
  rw [e, nI_clamp (by omega)] at h2 h1 h0
  refine lq1_m (fun m v => ∃ k, k + m = n ∧ v = nI k ∧ tyG x k = true) ?_ n 0 ⟨0, by omega, rfl, rfl⟩
  rintro LL m v ⟨k, hk2, rfl, hg⟩ ih
  refine pk_le n k (fun hc => ?_) (fun hc => ?_)
  · have ek : k = n := by omega
    rw [ek] at hg
    rw [hg] at h2 h1
    rw [h.2.1.1, nI_add]
    refine pk_le (tp.length + n) 130 (fun y => ?_) (fun y => h1 (by rw [if_pos (by decide), if_neg (by omega)]))
    have h2 := h2 (by rw [if_pos (by decide), if_pos y])
    have e1 : nI n - 1 = nI (n - 1) := pk_sub (b := 1) (by omega)
    refine lq2_m (fun m2 y2 w => ∃ tq : List Nat, m2 ≤ n ∧ y2 = nI m2 - 1 ∧ MR w N c bg ar tq sN wN sA wA hd ln sz it ∧ tq ++ tyW x m2 = tp ++ tyW x n ∧ tq.length + m2 = tp.length + n) ?_ n (nI n - 1) u ⟨tp, Nat.le_refl _, rfl, h, rfl, rfl⟩
    rintro LL2 m2 y2 w ⟨tq, hmn, rfl, hw, he, hlen⟩ ih2
    cases m2 with
    | zero =>
      refine ⟨fun _ => ?_, fun z => absurd (show nI 0 - 1 < (0 : Int32) by decide) z⟩
      have e2 : tq = tp ++ tyW x n := by rw [← he, tyW, List.append_nil]
      rw [e2] at hw
      rw [hw.2.1.1, List.length_append, tyW_len]
      exact h2 w hw
    | succ k =>
      rw [nI_pred]
      refine ⟨fun z => absurd z (nI_pos (by omega)), fun _ => ?_⟩
      have hb2 := tyG_at n hg k (by omega)
      rw [by_m x (by omega), hw.2.1.1, nI_clamp (by omega)]
      refine ⟨vp_in_nI (by omega) (by omega), fun u12 e12 u13 e13 => ?_⟩
      have f12 : u12.1 9 = nI tq.length := by rw [e12]; exact hw.2.1.1
      have e6 : nI k + (-1) = nI k - 1 := (Int32.sub_eq_add_neg _ _).symm
      rw [e6]
      obtain ⟨b1, b2, b3, b4, b5⟩ := hw
      have vo : ∀ j, j ≠ 8 → u13.2.1 j = w.2.1 j := fun j hj => by rw [e13]; show u12.2.1 j = _; rw [e12, ob_ao _ _ hj]
      have v1 : ∀ j, j ≠ 9 → u13.1 j = w.1 j := fun j hj => by rw [e13, ob_io _ _ hj, e12]; rfl
      refine ih2 k _ _ (by omega) ⟨tq ++ [byB x k], by omega, rfl, ⟨b1.cg (v1 0 (by decide)) (v1 2 (by decide)) (vo 1 (by decide)) (fun q hq => vo (3 + q) (by omega)), ⟨?_, fun i hi => ?_⟩, b3.cg (vo 13 (by decide)) (vo 14 (by decide)) (vo 15 (by decide)), b4.cg (vo 13 (by decide)) (vo 14 (by decide)) (vo 15 (by decide)), b5.cg (vo 22 (by decide)) (vo 23 (by decide)) (vo 24 (by decide))⟩, ?_, ?_⟩
      · rw [e13, ob_is, f12, List.length_append]
        exact nI_1 _
      · rw [e13]
        show u12.2.1 8 i = _
        rw [e12, ob_as, app_get]
        simp at hi
        by_cases z : i < tq.length
        · rw [if_pos z, up_o _ _ (by omega)]
          exact b2.2 i z
        · have z2 : i = tq.length := by omega
          rw [if_neg z, if_pos z2, z2, up_s]
      · rw [← he, tyW]
        simp
      · simp
        omega
  · rw [by_m x (by omega)]
    have hb2 := byB_lt x k
    refine m_in (a := 32) (b := 126) (by decide) (by decide) ?_
    have ei : ixr (nI (byB x k)) 32 126 = decide (32 ≤ byB x k ∧ byB x k ≤ 126) := by
      unfold ixr
      rw [nI_toInt (by omega)]
      exact decide_eq_decide.mpr (by omega)
    rw [ei]
    refine bI_if2 (fun g => ?_) (fun g => ?_)
    · refine ih (m - 1) _ (by omega) ⟨k + 1, by omega, nI_1 k, ?_⟩
      unfold tyG
      rw [hg, g]
      rfl
    · have e9 := tyG_no (of_decide_eq_false g) n hc
      rw [e9] at h0
      exact h0 rfl
