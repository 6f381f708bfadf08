def wpc_9 (LN : Nat) (xs : Nat → Int32) (LL_1 : Int32 → Ob → Ob → Ob → Ob → Ob → Ob → Ob → Ob → Ob → Ob → Prop) (v3_2 : Int32) (uf_3 : Ob) (um_4 : Ob) (ut_5 : Ob) (uh_6 : Ob) (ug_7 : Ob) (ur_8 : Ob) (uw_9 : Ob) (ux_10 : Ob) (uy_11 : Ob) (u8_12 : Ob) : Prop :=
                          vp_in (v3_2 + 1) LN ∧
                          vp_in (v3_2 + 2) LN ∧
                          wp_X7_lose uf_3 uh_6 (xs (v3_2 + 1).toNatClampNeg) (xs (v3_2 + 2).toNatClampNeg) (fun (r_127 : Int32) (uh_128 : Ob) =>
                          vp_in (v3_2 + 1) LN ∧
                          vp_in (v3_2 + 2) LN ∧
                          wp_X8_lose u8_12 (xs (v3_2 + 1).toNatClampNeg) (xs (v3_2 + 2).toNatClampNeg) (fun (r_131 : Int32) (u8_132 : Ob) =>
                          ((r_127 = r_131) →
                            LL_1 (v3_2 + 6) uf_3 um_4 ut_5 uh_128 ug_7 ur_8 uw_9 ux_10 uy_11 u8_132) ∧ ((¬ r_127 = r_131) →
                            False)))
set_option maxHeartbeats 4000000 in
set_option maxRecDepth 100000 in
theorem lc_9 {p : Program} {l : Launch} {e : Env} {s : State} {m : MethodId} {below : List Frame} {meth : Method} {c : Code} {dC : Nat → ClassId} {dI : Nat → Nat → Nat} {b LN : Nat} {xs : Nat → Int32} (C0 : lw_At p s m meth c b LN xs) (hN : nw_ok s) (AA : Nat → Nat → Nat) (CA : Nat → Nat → ClassId) (a : Nat → Nat) (ca : Nat → ClassId) (LL_1 : Int32 → Ob → Ob → Ob → Ob → Ob → Ob → Ob → Ob → Ob → Ob → Prop) (ih_LL_1 : ∀ (v3_2 : Int32) (uf_3 : Ob) (um_4 : Ob) (ut_5 : Ob) (uh_6 : Ob) (ug_7 : Ob) (ur_8 : Ob) (uw_9 : Ob) (ux_10 : Ob) (uy_11 : Ob) (u8_12 : Ob), LL_1 v3_2 uf_3 um_4 ut_5 uh_6 ug_7 ur_8 uw_9 ux_10 uy_11 u8_12 → ∀ (H : Heap) (locs : List Loc) (ls : Array Slot), va_P (dC, dI) vwCl (wd_X7 AA CA uf_3 um_4 ut_5 uh_6 ug_7 ur_8 uw_9 ux_10 uy_11 ++ (wd_X8 a ca u8_12)) H → va_D (fun q : Nat => s.heap.size ≤ q) (wd_X7 AA CA uf_3 um_4 ut_5 uh_6 ug_7 ur_8 uw_9 ux_10 uy_11 ++ (wd_X8 a ca u8_12)) → va_S (fun q : Nat => s.heap.size ≤ q) s.heap H locs → lv_has ls 4 [(3, .int v3_2), (2, .ref (a 0)), (1, .ref (AA 0 0)), (0, .ref b)] → W p l e room_1 s m #[Value.ref b] below meth c H locs 46 82621 (lw_Z below #[Value.ref b] s) (F0 m 18 ls [])) (v3_2 : Int32) (uf_3 : Ob) (um_4 : Ob) (ut_5 : Ob) (uh_6 : Ob) (ug_7 : Ob) (ur_8 : Ob) (uw_9 : Ob) (ux_10 : Ob) (uy_11 : Ob) (u8_12 : Ob) (h : wpc_9 LN xs LL_1 v3_2 uf_3 um_4 ut_5 uh_6 ug_7 ur_8 uw_9 ux_10 uy_11 u8_12) (H : Heap) (locs : List Loc) (ls : Array Slot) (hK : va_K (dC, dI) vwCl (ty_X7 CA ++ (ty_X8 ca)) s) (hP : va_P (dC, dI) vwCl (wd_X7 AA CA uf_3 um_4 ut_5 uh_6 ug_7 ur_8 uw_9 ux_10 uy_11 ++ (wd_X8 a ca u8_12)) H) (hD : va_D (fun q : Nat => s.heap.size ≤ q) (wd_X7 AA CA uf_3 um_4 ut_5 uh_6 ug_7 ur_8 uw_9 ux_10 uy_11 ++ (wd_X8 a ca u8_12))) (hS : va_S (fun q : Nat => s.heap.size ≤ q) s.heap H locs) (hl : lv_has ls 4 [(3, .int v3_2), (2, .ref (a 0)), (1, .ref (AA 0 0)), (0, .ref b)]) : W p l e room_1 s m #[Value.ref b] below meth c H locs 46 82621 (lw_Z below #[Value.ref b] s) (F0 m 477 ls []) := by
  obtain ⟨hx, hb, hr, hml, hown, hts0, hX, hbl, hlocks, hgv⟩ := C0
  have hts : ∀ w ∈ wsL_law, w.before #[Value.ref b] s = true := fun w h => hts0 w (wsL_law_in w h)
  have hown : s.vm.findClass RL = some m.cls := hown
  have hA : ∀ q : Nat, s.heap.size ≤ q → (fun q : Nat => s.heap.size ≤ q) q := fun _ h => h
  have hbA : ¬ (fun q : Nat => s.heap.size ≤ q) b := Nat.not_le.mpr hbl
  have lk_0 := hts (.constantLong RL 38 4294967295) (by decide +kernel)
  unfold wpc_9 at h
  refine lv_aload_n hx hb dL_law_477 rfl (lv_at hl 2 rfl) ?_
  refine lv_aload_n hx hb dL_law_478 rfl (lv_at hl 3 rfl) ?_
  refine lv_iload_n hx hb dL_law_479 rfl (lv_at hl 0 rfl) ?_
  refine lv_iconst (v := 1) hx hb dL_law_480 (by decide) ?_
  refine lv_iadd hx hb dL_law_481 ?_
  obtain ⟨hi_125, h⟩ := h
  refine va_sld hx hb hX hbl hbA hS hi_125 dL_law_482 ?_
  refine lv_aload_n hx hb dL_law_483 rfl (lv_at hl 3 rfl) ?_
  refine lv_iload_n hx hb dL_law_484 rfl (lv_at hl 0 rfl) ?_
  refine lv_iconst (v := 2) hx hb dL_law_485 (by decide) ?_
  refine lv_iadd hx hb dL_law_486 ?_
  obtain ⟨hi_126, h⟩ := h
  refine va_sld hx hb hX hbl hbA hS hi_126 dL_law_487 ?_
  have hPc := bk_P1 hP
  have hDc := bk_D1 hD
  have hKc := bk_K1 hK
  have hFc := bk_F hDc hS hA
  refine va_calli (va_runV (As := [.int (xs (v3_2 + 1).toNatClampNeg), .int (xs (v3_2 + 2).toNatClampNeg)]) (rest := []) ⟨hx, hb, hml, hown, hts⟩ (c_X7_lose l dC dI AA CA H.size uf_3 um_4 ut_5 uh_6 ug_7 ur_8 uw_9 ux_10 uy_11 (xs (v3_2 + 1).toNatClampNeg) (xs (v3_2 + 2).toNatClampNeg) _ h) (cwV 2 hts gL_law_X7_lose rfl rfl rfl (by decide +kernel) ⟨Nat.le_of_ble_eq_true rfl, Nat.le_of_ble_eq_true rfl⟩) ⟨fun a U g mk q => by obtain ⟨q0, q1, qP, qK, qD⟩ := q; exact ⟨q0, q1, qP, va_K.moved (u := U) (U := U.calling g mk a) (Vm.Alike.refl U.vm) qK, qD⟩, va_recv hKc hPc (ci := 6) (q0 := 0) rfl rfl, fun U hU hW => ⟨rfl, by rw [hU], by rw [hU]; exact hPc, va_K.moved hW.alike hKc, hDc.weaken (fun _ _ _ _ => trivial)⟩⟩ rfl rfl hl.1 rfl (lv_room (Nat.le_of_ble_eq_true rfl)) dL_law_488 ⟨Nat.le_of_ble_eq_true rfl, Nat.le_of_ble_eq_true rfl⟩) hS (fun q _ h => hFc q h) hFc (fun r_127 zz t H1 locs ht hvm hw hB hz1 hk1 hS => ?_)
  obtain ⟨uh_128, rfl⟩ : ∃ z, z = zz := ⟨_, rfl⟩
  replace h := hw
  obtain ⟨hP1, hD1⟩ := hB
  rw [ht] at hP1
  obtain ⟨hP, hD⟩ := bk_J1 (A1 := (wd_X7 AA CA uf_3 um_4 ut_5 uh_128 ug_7 ur_8 uw_9 ux_10 uy_11)) hP hD hk1 hFc hP1 hD1
  generalize H1 = H at hP hS ⊢
  refine lv_aload_n hx hb dL_law_491 rfl (lv_at hl 1 rfl) ?_
  refine lv_aload_n hx hb dL_law_492 rfl (lv_at hl 3 rfl) ?_
  refine lv_iload_n hx hb dL_law_493 rfl (lv_at hl 0 rfl) ?_
  refine lv_iconst (v := 1) hx hb dL_law_494 (by decide) ?_
  refine lv_iadd hx hb dL_law_495 ?_
  obtain ⟨hi_129, h⟩ := h
  refine va_sld hx hb hX hbl hbA hS hi_129 dL_law_496 ?_
  refine lv_aload_n hx hb dL_law_497 rfl (lv_at hl 3 rfl) ?_
  refine lv_iload_n hx hb dL_law_498 rfl (lv_at hl 0 rfl) ?_
  refine lv_iconst (v := 2) hx hb dL_law_499 (by decide) ?_
  refine lv_iadd hx hb dL_law_500 ?_
  obtain ⟨hi_130, h⟩ := h
  refine va_sld hx hb hX hbl hbA hS hi_130 dL_law_501 ?_
  have hPc := bk_P2 hP
  have hDc := bk_D2 hD
  have hKc := bk_K2 hK
  have hFc := bk_F hDc hS hA
  refine va_calli (va_runV (As := [.int (xs (v3_2 + 1).toNatClampNeg), .int (xs (v3_2 + 2).toNatClampNeg)]) (rest := [.int r_127]) ⟨hx, hb, hml, hown, hts⟩ (c_X8_lose l dC dI a ca H.size u8_12 (xs (v3_2 + 1).toNatClampNeg) (xs (v3_2 + 2).toNatClampNeg) _ h) (cwV 2 hts gL_law_X8_lose rfl rfl rfl (by decide +kernel) ⟨Nat.le_of_ble_eq_true rfl, Nat.le_of_ble_eq_true rfl⟩) ⟨fun a U g mk q => by obtain ⟨q0, q1, qP, qK, qD⟩ := q; exact ⟨q0, q1, qP, va_K.moved (u := U) (U := U.calling g mk a) (Vm.Alike.refl U.vm) qK, qD⟩, va_recv hKc hPc (ci := 7) (q0 := 0) rfl rfl, fun U hU hW => ⟨rfl, by rw [hU], by rw [hU]; exact hPc, va_K.moved hW.alike hKc, hDc.weaken (fun _ _ _ _ => trivial)⟩⟩ rfl rfl hl.1 rfl (lv_room (Nat.le_of_ble_eq_true rfl)) dL_law_502 ⟨Nat.le_of_ble_eq_true rfl, Nat.le_of_ble_eq_true rfl⟩) hS (fun q _ h => hFc q h) hFc (fun r_131 zz t H1 locs ht hvm hw hB hz1 hk1 hS => ?_)
  obtain ⟨u8_132, rfl⟩ : ∃ z, z = zz := ⟨_, rfl⟩
  replace h := hw
  obtain ⟨hP1, hD1⟩ := hB
  rw [ht] at hP1
  obtain ⟨hP, hD⟩ := bk_J2 (B1 := (wd_X8 a ca u8_132)) hP hD hk1 hFc hP1 hD1
  generalize H1 = H at hP hS ⊢
  refine lv_icmp_eq (tgt := 892) hx hb dL_law_505 (by decide) (fun hc_133 => ?_) (fun hc_133 => ?_)
  · replace h := h.1 hc_133
    refine lv_iinc (v := (v3_2 + 6)) (lv' := [(3, .int (v3_2 + 6)), (2, .ref (a 0)), (1, .ref (AA 0 0)), (0, .ref b)]) hx hb dL_law_892 hl (k := 0) rfl rfl (by decide) rfl (fun ls hl => ?_)
    refine lv_goto (tgt := 18) hx hb dL_law_895 (by decide) ?_
    exact ih_LL_1 _ _ _ _ _ _ _ _ _ _ _ h _ _ _ hP hD hS (lv_sub hl [0, 1, 2, 3] rfl)
  · replace h := h.2 hc_133
    refine lv_iconst (v := 0) hx hb dL_law_508 (by decide) ?_
    exact h.elim
def wpc_10 (LN : Nat) (xs : Nat → Int32) (LL_1 : Int32 → Ob → Ob → Ob → Ob → Ob → Ob → Ob → Ob → Ob → Ob → Prop) (v3_2 : Int32) (uf_3 : Ob) (um_4 : Ob) (ut_5 : Ob) (uh_6 : Ob) (ug_7 : Ob) (ur_8 : Ob) (uw_9 : Ob) (ux_10 : Ob) (uy_11 : Ob) (u8_12 : Ob) : Prop :=
                            vp_in (v3_2 + 1) LN ∧
                            vp_in (v3_2 + 2) LN ∧
                            wp_X7_now uf_3 uh_6 (xs (v3_2 + 1).toNatClampNeg) (xs (v3_2 + 2).toNatClampNeg) (fun (r_137 : Int32) =>
                            vp_in (v3_2 + 1) LN ∧
                            vp_in (v3_2 + 2) LN ∧
                            wp_X8_now u8_12 (xs (v3_2 + 1).toNatClampNeg) (xs (v3_2 + 2).toNatClampNeg) (fun (r_140 : Int32) =>
                            ((r_137 = r_140) →
                              LL_1 (v3_2 + 6) uf_3 um_4 ut_5 uh_6 ug_7 ur_8 uw_9 ux_10 uy_11 u8_12) ∧ ((¬ r_137 = r_140) →
                              False)))
set_option maxHeartbeats 4000000 in
set_option maxRecDepth 100000 in
theorem lc_10 {p : Program} {l : Launch} {e : Env} {s : State} {m : MethodId} {below : List Frame} {meth : Method} {c : Code} {dC : Nat → ClassId} {dI : Nat → Nat → Nat} {b LN : Nat} {xs : Nat → Int32} (C0 : lw_At p s m meth c b LN xs) (hN : nw_ok s) (AA : Nat → Nat → Nat) (CA : Nat → Nat → ClassId) (a : Nat → Nat) (ca : Nat → ClassId) (LL_1 : Int32 → Ob → Ob → Ob → Ob → Ob → Ob → Ob → Ob → Ob → Ob → Prop) (ih_LL_1 : ∀ (v3_2 : Int32) (uf_3 : Ob) (um_4 : Ob) (ut_5 : Ob) (uh_6 : Ob) (ug_7 : Ob) (ur_8 : Ob) (uw_9 : Ob) (ux_10 : Ob) (uy_11 : Ob) (u8_12 : Ob), LL_1 v3_2 uf_3 um_4 ut_5 uh_6 ug_7 ur_8 uw_9 ux_10 uy_11 u8_12 → ∀ (H : Heap) (locs : List Loc) (ls : Array Slot), va_P (dC, dI) vwCl (wd_X7 AA CA uf_3 um_4 ut_5 uh_6 ug_7 ur_8 uw_9 ux_10 uy_11 ++ (wd_X8 a ca u8_12)) H → va_D (fun q : Nat => s.heap.size ≤ q) (wd_X7 AA CA uf_3 um_4 ut_5 uh_6 ug_7 ur_8 uw_9 ux_10 uy_11 ++ (wd_X8 a ca u8_12)) → va_S (fun q : Nat => s.heap.size ≤ q) s.heap H locs → lv_has ls 4 [(3, .int v3_2), (2, .ref (a 0)), (1, .ref (AA 0 0)), (0, .ref b)] → W p l e room_1 s m #[Value.ref b] below meth c H locs 46 82621 (lw_Z below #[Value.ref b] s) (F0 m 18 ls [])) (v3_2 : Int32) (uf_3 : Ob) (um_4 : Ob) (ut_5 : Ob) (uh_6 : Ob) (ug_7 : Ob) (ur_8 : Ob) (uw_9 : Ob) (ux_10 : Ob) (uy_11 : Ob) (u8_12 : Ob) (h : wpc_10 LN xs LL_1 v3_2 uf_3 um_4 ut_5 uh_6 ug_7 ur_8 uw_9 ux_10 uy_11 u8_12) (H : Heap) (locs : List Loc) (ls : Array Slot) (hK : va_K (dC, dI) vwCl (ty_X7 CA ++ (ty_X8 ca)) s) (hP : va_P (dC, dI) vwCl (wd_X7 AA CA uf_3 um_4 ut_5 uh_6 ug_7 ur_8 uw_9 ux_10 uy_11 ++ (wd_X8 a ca u8_12)) H) (hD : va_D (fun q : Nat => s.heap.size ≤ q) (wd_X7 AA CA uf_3 um_4 ut_5 uh_6 ug_7 ur_8 uw_9 ux_10 uy_11 ++ (wd_X8 a ca u8_12))) (hS : va_S (fun q : Nat => s.heap.size ≤ q) s.heap H locs) (hl : lv_has ls 4 [(3, .int v3_2), (2, .ref (a 0)), (1, .ref (AA 0 0)), (0, .ref b)]) : W p l e room_1 s m #[Value.ref b] below meth c H locs 46 82621 (lw_Z below #[Value.ref b] s) (F0 m 510 ls []) := by
  obtain ⟨hx, hb, hr, hml, hown, hts0, hX, hbl, hlocks, hgv⟩ := C0
  have hts : ∀ w ∈ wsL_law, w.before #[Value.ref b] s = true := fun w h => hts0 w (wsL_law_in w h)
  have hown : s.vm.findClass RL = some m.cls := hown
  have hA : ∀ q : Nat, s.heap.size ≤ q → (fun q : Nat => s.heap.size ≤ q) q := fun _ h => h
  have hbA : ¬ (fun q : Nat => s.heap.size ≤ q) b := Nat.not_le.mpr hbl
  have lk_0 := hts (.constantLong RL 38 4294967295) (by decide +kernel)
  unfold wpc_10 at h
  refine lv_aload_n hx hb dL_law_510 rfl (lv_at hl 2 rfl) ?_
  refine lv_aload_n hx hb dL_law_511 rfl (lv_at hl 3 rfl) ?_
  refine lv_iload_n hx hb dL_law_512 rfl (lv_at hl 0 rfl) ?_
  refine lv_iconst (v := 1) hx hb dL_law_513 (by decide) ?_
  refine lv_iadd hx hb dL_law_514 ?_
  obtain ⟨hi_135, h⟩ := h
  refine va_sld hx hb hX hbl hbA hS hi_135 dL_law_515 ?_
  refine lv_aload_n hx hb dL_law_516 rfl (lv_at hl 3 rfl) ?_
  refine lv_iload_n hx hb dL_law_517 rfl (lv_at hl 0 rfl) ?_
  refine lv_iconst (v := 2) hx hb dL_law_518 (by decide) ?_
  refine lv_iadd hx hb dL_law_519 ?_
  obtain ⟨hi_136, h⟩ := h
  refine va_sld hx hb hX hbl hbA hS hi_136 dL_law_520 ?_
  have hPc := bk_P1 hP
  have hDc := bk_D1 hD
  have hKc := bk_K1 hK
  have hFc := bk_F hDc hS hA
  refine va_calli (va_runV (As := [.int (xs (v3_2 + 1).toNatClampNeg), .int (xs (v3_2 + 2).toNatClampNeg)]) (rest := []) ⟨hx, hb, hml, hown, hts⟩ (c_X7_now l dC dI AA CA H.size uf_3 um_4 ut_5 uh_6 ug_7 ur_8 uw_9 ux_10 uy_11 (xs (v3_2 + 1).toNatClampNeg) (xs (v3_2 + 2).toNatClampNeg) _ h) (cwV 2 hts gL_law_X7_now rfl rfl rfl (by decide +kernel) ⟨Nat.le_of_ble_eq_true rfl, Nat.le_of_ble_eq_true rfl⟩) ⟨fun a U g mk q => by obtain ⟨q0, q1, qP, qK, qD⟩ := q; exact ⟨q0, q1, qP, va_K.moved (u := U) (U := U.calling g mk a) (Vm.Alike.refl U.vm) qK, qD⟩, va_recv hKc hPc (ci := 6) (q0 := 0) rfl rfl, fun U hU hW => ⟨rfl, by rw [hU], by rw [hU]; exact hPc, va_K.moved hW.alike hKc, hDc.weaken (fun _ _ _ _ => trivial)⟩⟩ rfl rfl hl.1 rfl (lv_room (Nat.le_of_ble_eq_true rfl)) dL_law_521 ⟨Nat.le_of_ble_eq_true rfl, Nat.le_of_ble_eq_true rfl⟩) hS (fun q _ h => hFc q h) hFc (fun r_137 zz t H1 locs ht hvm hw hB hz1 hk1 hS => ?_)
  replace h := hw
  obtain ⟨hP1, hD1⟩ := hB
  rw [ht] at hP1
  obtain ⟨hP, hD⟩ := bk_J1 (A1 := (wd_X7 AA CA uf_3 um_4 ut_5 uh_6 ug_7 ur_8 uw_9 ux_10 uy_11)) hP hD hk1 hFc hP1 hD1
  generalize H1 = H at hP hS ⊢
  refine lv_aload_n hx hb dL_law_524 rfl (lv_at hl 1 rfl) ?_
  refine lv_aload_n hx hb dL_law_525 rfl (lv_at hl 3 rfl) ?_
  refine lv_iload_n hx hb dL_law_526 rfl (lv_at hl 0 rfl) ?_
  refine lv_iconst (v := 1) hx hb dL_law_527 (by decide) ?_
  refine lv_iadd hx hb dL_law_528 ?_
  obtain ⟨hi_138, h⟩ := h
  refine va_sld hx hb hX hbl hbA hS hi_138 dL_law_529 ?_
  refine lv_aload_n hx hb dL_law_530 rfl (lv_at hl 3 rfl) ?_
  refine lv_iload_n hx hb dL_law_531 rfl (lv_at hl 0 rfl) ?_
  refine lv_iconst (v := 2) hx hb dL_law_532 (by decide) ?_
  refine lv_iadd hx hb dL_law_533 ?_
  obtain ⟨hi_139, h⟩ := h
  refine va_sld hx hb hX hbl hbA hS hi_139 dL_law_534 ?_
  have hPc := bk_P2 hP
  have hDc := bk_D2 hD
  have hKc := bk_K2 hK
  have hFc := bk_F hDc hS hA
  refine va_calli (va_runV (As := [.int (xs (v3_2 + 1).toNatClampNeg), .int (xs (v3_2 + 2).toNatClampNeg)]) (rest := [.int r_137]) ⟨hx, hb, hml, hown, hts⟩ (c_X8_now l dC dI a ca H.size u8_12 (xs (v3_2 + 1).toNatClampNeg) (xs (v3_2 + 2).toNatClampNeg) _ h) (cwV 2 hts gL_law_X8_now rfl rfl rfl (by decide +kernel) ⟨Nat.le_of_ble_eq_true rfl, Nat.le_of_ble_eq_true rfl⟩) ⟨fun a U g mk q => by obtain ⟨q0, q1, qP, qK, qD⟩ := q; exact ⟨q0, q1, qP, va_K.moved (u := U) (U := U.calling g mk a) (Vm.Alike.refl U.vm) qK, qD⟩, va_recv hKc hPc (ci := 7) (q0 := 0) rfl rfl, fun U hU hW => ⟨rfl, by rw [hU], by rw [hU]; exact hPc, va_K.moved hW.alike hKc, hDc.weaken (fun _ _ _ _ => trivial)⟩⟩ rfl rfl hl.1 rfl (lv_room (Nat.le_of_ble_eq_true rfl)) dL_law_535 ⟨Nat.le_of_ble_eq_true rfl, Nat.le_of_ble_eq_true rfl⟩) hS (fun q _ h => hFc q h) hFc (fun r_140 zz t H1 locs ht hvm hw hB hz1 hk1 hS => ?_)
  replace h := hw
  obtain ⟨hP1, hD1⟩ := hB
  rw [ht] at hP1
  obtain ⟨hP, hD⟩ := bk_J2 (B1 := (wd_X8 a ca u8_12)) hP hD hk1 hFc hP1 hD1
  generalize H1 = H at hP hS ⊢
  refine lv_icmp_eq (tgt := 892) hx hb dL_law_538 (by decide) (fun hc_141 => ?_) (fun hc_141 => ?_)
  · replace h := h.1 hc_141
    refine lv_iinc (v := (v3_2 + 6)) (lv' := [(3, .int (v3_2 + 6)), (2, .ref (a 0)), (1, .ref (AA 0 0)), (0, .ref b)]) hx hb dL_law_892 hl (k := 0) rfl rfl (by decide) rfl (fun ls hl => ?_)
    refine lv_goto (tgt := 18) hx hb dL_law_895 (by decide) ?_
    exact ih_LL_1 _ _ _ _ _ _ _ _ _ _ _ h _ _ _ hP hD hS (lv_sub hl [0, 1, 2, 3] rfl)
  · replace h := h.2 hc_141
    refine lv_iconst (v := 0) hx hb dL_law_541 (by decide) ?_
    exact h.elim
def wpc_11 (LN : Nat) (xs : Nat → Int32) (LL_1 : Int32 → Ob → Ob → Ob → Ob → Ob → Ob → Ob → Ob → Ob → Ob → Prop) (v3_2 : Int32) (uf_3 : Ob) (um_4 : Ob) (ut_5 : Ob) (uh_6 : Ob) (ug_7 : Ob) (ur_8 : Ob) (uw_9 : Ob) (ux_10 : Ob) (uy_11 : Ob) (u8_12 : Ob) : Prop :=
                              wp_X7_reset uf_3 uh_6 (fun (r_143 : Int32) (uh_144 : Ob) =>
                              wp_X8_reset u8_12 (fun (r_145 : Int32) (u8_146 : Ob) =>
                              ((r_143 = r_145) →
                                LL_1 (v3_2 + 6) uf_3 um_4 ut_5 uh_144 ug_7 ur_8 uw_9 ux_10 uy_11 u8_146) ∧ ((¬ r_143 = r_145) →
                                False)))
set_option maxHeartbeats 4000000 in
set_option maxRecDepth 100000 in
theorem lc_11 {p : Program} {l : Launch} {e : Env} {s : State} {m : MethodId} {below : List Frame} {meth : Method} {c : Code} {dC : Nat → ClassId} {dI : Nat → Nat → Nat} {b LN : Nat} {xs : Nat → Int32} (C0 : lw_At p s m meth c b LN xs) (hN : nw_ok s) (AA : Nat → Nat → Nat) (CA : Nat → Nat → ClassId) (a : Nat → Nat) (ca : Nat → ClassId) (LL_1 : Int32 → Ob → Ob → Ob → Ob → Ob → Ob → Ob → Ob → Ob → Ob → Prop) (ih_LL_1 : ∀ (v3_2 : Int32) (uf_3 : Ob) (um_4 : Ob) (ut_5 : Ob) (uh_6 : Ob) (ug_7 : Ob) (ur_8 : Ob) (uw_9 : Ob) (ux_10 : Ob) (uy_11 : Ob) (u8_12 : Ob), LL_1 v3_2 uf_3 um_4 ut_5 uh_6 ug_7 ur_8 uw_9 ux_10 uy_11 u8_12 → ∀ (H : Heap) (locs : List Loc) (ls : Array Slot), va_P (dC, dI) vwCl (wd_X7 AA CA uf_3 um_4 ut_5 uh_6 ug_7 ur_8 uw_9 ux_10 uy_11 ++ (wd_X8 a ca u8_12)) H → va_D (fun q : Nat => s.heap.size ≤ q) (wd_X7 AA CA uf_3 um_4 ut_5 uh_6 ug_7 ur_8 uw_9 ux_10 uy_11 ++ (wd_X8 a ca u8_12)) → va_S (fun q : Nat => s.heap.size ≤ q) s.heap H locs → lv_has ls 4 [(3, .int v3_2), (2, .ref (a 0)), (1, .ref (AA 0 0)), (0, .ref b)] → W p l e room_1 s m #[Value.ref b] below meth c H locs 46 82621 (lw_Z below #[Value.ref b] s) (F0 m 18 ls [])) (v3_2 : Int32) (uf_3 : Ob) (um_4 : Ob) (ut_5 : Ob) (uh_6 : Ob) (ug_7 : Ob) (ur_8 : Ob) (uw_9 : Ob) (ux_10 : Ob) (uy_11 : Ob) (u8_12 : Ob) (h : wpc_11 LN xs LL_1 v3_2 uf_3 um_4 ut_5 uh_6 ug_7 ur_8 uw_9 ux_10 uy_11 u8_12) (H : Heap) (locs : List Loc) (ls : Array Slot) (hK : va_K (dC, dI) vwCl (ty_X7 CA ++ (ty_X8 ca)) s) (hP : va_P (dC, dI) vwCl (wd_X7 AA CA uf_3 um_4 ut_5 uh_6 ug_7 ur_8 uw_9 ux_10 uy_11 ++ (wd_X8 a ca u8_12)) H) (hD : va_D (fun q : Nat => s.heap.size ≤ q) (wd_X7 AA CA uf_3 um_4 ut_5 uh_6 ug_7 ur_8 uw_9 ux_10 uy_11 ++ (wd_X8 a ca u8_12))) (hS : va_S (fun q : Nat => s.heap.size ≤ q) s.heap H locs) (hl : lv_has ls 4 [(3, .int v3_2), (2, .ref (a 0)), (1, .ref (AA 0 0)), (0, .ref b)]) : W p l e room_1 s m #[Value.ref b] below meth c H locs 46 82621 (lw_Z below #[Value.ref b] s) (F0 m 543 ls []) := by
  obtain ⟨hx, hb, hr, hml, hown, hts0, hX, hbl, hlocks, hgv⟩ := C0
  have hts : ∀ w ∈ wsL_law, w.before #[Value.ref b] s = true := fun w h => hts0 w (wsL_law_in w h)
  have hown : s.vm.findClass RL = some m.cls := hown
  have hA : ∀ q : Nat, s.heap.size ≤ q → (fun q : Nat => s.heap.size ≤ q) q := fun _ h => h
  have hbA : ¬ (fun q : Nat => s.heap.size ≤ q) b := Nat.not_le.mpr hbl
  have lk_0 := hts (.constantLong RL 38 4294967295) (by decide +kernel)
  unfold wpc_11 at h
  refine lv_aload_n hx hb dL_law_543 rfl (lv_at hl 2 rfl) ?_
  have hPc := bk_P1 hP
  have hDc := bk_D1 hD
  have hKc := bk_K1 hK
  have hFc := bk_F hDc hS hA
  refine va_calli (va_runV (As := []) (rest := []) ⟨hx, hb, hml, hown, hts⟩ (c_X7_reset l dC dI AA CA H.size uf_3 um_4 ut_5 uh_6 ug_7 ur_8 uw_9 ux_10 uy_11 _ h) (cwV 0 hts gL_law_X7_reset rfl rfl rfl (by decide +kernel) ⟨Nat.le_of_ble_eq_true rfl, Nat.le_of_ble_eq_true rfl⟩) ⟨fun a U g mk q => by obtain ⟨q0, q1, qP, qK, qD⟩ := q; exact ⟨q0, q1, qP, va_K.moved (u := U) (U := U.calling g mk a) (Vm.Alike.refl U.vm) qK, qD⟩, va_recv hKc hPc (ci := 6) (q0 := 0) rfl rfl, fun U hU hW => ⟨rfl, by rw [hU], by rw [hU]; exact hPc, va_K.moved hW.alike hKc, hDc.weaken (fun _ _ _ _ => trivial)⟩⟩ rfl rfl hl.1 rfl (lv_room (Nat.le_of_ble_eq_true rfl)) dL_law_544 ⟨Nat.le_of_ble_eq_true rfl, Nat.le_of_ble_eq_true rfl⟩) hS (fun q _ h => hFc q h) hFc (fun r_143 zz t H1 locs ht hvm hw hB hz1 hk1 hS => ?_)
  obtain ⟨uh_144, rfl⟩ : ∃ z, z = zz := ⟨_, rfl⟩
  replace h := hw
  obtain ⟨hP1, hD1⟩ := hB
  rw [ht] at hP1
  obtain ⟨hP, hD⟩ := bk_J1 (A1 := (wd_X7 AA CA uf_3 um_4 ut_5 uh_144 ug_7 ur_8 uw_9 ux_10 uy_11)) hP hD hk1 hFc hP1 hD1
  generalize H1 = H at hP hS ⊢
  refine lv_aload_n hx hb dL_law_547 rfl (lv_at hl 1 rfl) ?_
  have hPc := bk_P2 hP
  have hDc := bk_D2 hD
  have hKc := bk_K2 hK
  have hFc := bk_F hDc hS hA
  refine va_calli (va_runV (As := []) (rest := [.int r_143]) ⟨hx, hb, hml, hown, hts⟩ (c_X8_reset l dC dI a ca H.size u8_12 _ h) (cwV 0 hts gL_law_X8_reset rfl rfl rfl (by decide +kernel) ⟨Nat.le_of_ble_eq_true rfl, Nat.le_of_ble_eq_true rfl⟩) ⟨fun a U g mk q => by obtain ⟨q0, q1, qP, qK, qD⟩ := q; exact ⟨q0, q1, qP, va_K.moved (u := U) (U := U.calling g mk a) (Vm.Alike.refl U.vm) qK, qD⟩, va_recv hKc hPc (ci := 7) (q0 := 0) rfl rfl, fun U hU hW => ⟨rfl, by rw [hU], by rw [hU]; exact hPc, va_K.moved hW.alike hKc, hDc.weaken (fun _ _ _ _ => trivial)⟩⟩ rfl rfl hl.1 rfl (lv_room (Nat.le_of_ble_eq_true rfl)) dL_law_548 ⟨Nat.le_of_ble_eq_true rfl, Nat.le_of_ble_eq_true rfl⟩) hS (fun q _ h => hFc q h) hFc (fun r_145 zz t H1 locs ht hvm hw hB hz1 hk1 hS => ?_)
  obtain ⟨u8_146, rfl⟩ : ∃ z, z = zz := ⟨_, rfl⟩
  replace h := hw
  obtain ⟨hP1, hD1⟩ := hB
  rw [ht] at hP1
  obtain ⟨hP, hD⟩ := bk_J2 (B1 := (wd_X8 a ca u8_146)) hP hD hk1 hFc hP1 hD1
  generalize H1 = H at hP hS ⊢
  refine lv_icmp_eq (tgt := 892) hx hb dL_law_551 (by decide) (fun hc_147 => ?_) (fun hc_147 => ?_)
  · replace h := h.1 hc_147
    refine lv_iinc (v := (v3_2 + 6)) (lv' := [(3, .int (v3_2 + 6)), (2, .ref (a 0)), (1, .ref (AA 0 0)), (0, .ref b)]) hx hb dL_law_892 hl (k := 0) rfl rfl (by decide) rfl (fun ls hl => ?_)
    refine lv_goto (tgt := 18) hx hb dL_law_895 (by decide) ?_
    exact ih_LL_1 _ _ _ _ _ _ _ _ _ _ _ h _ _ _ hP hD hS (lv_sub hl [0, 1, 2, 3] rfl)
  · replace h := h.2 hc_147
    refine lv_iconst (v := 0) hx hb dL_law_554 (by decide) ?_
    exact h.elim
