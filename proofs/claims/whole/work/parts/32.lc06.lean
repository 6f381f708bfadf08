def wpc_18 (LN : Nat) (xs : Nat → Int32) (LL_1 : Int32 → Ob → Ob → Ob → Ob → Ob → Ob → Ob → Ob → Ob → Ob → Prop) (v3_2 : Int32) (uf_3 : Ob) (um_4 : Ob) (ut_5 : Ob) (uh_6 : Ob) (ug_7 : Ob) (ur_8 : Ob) (uw_9 : Ob) (ux_10 : Ob) (uy_11 : Ob) (u8_12 : Ob) : Prop :=
                                            wp_X7_far uf_3 um_4 uh_6 ug_7 ur_8 (fun (r_207 : Int32) (uf_208 : Ob) (ur_209 : Ob) =>
                                            wp_X8_far u8_12 (fun (r_210 : Int32) (u8_211 : Ob) =>
                                            ((r_207 = r_210) →
                                              LL_1 (v3_2 + 6) uf_208 um_4 ut_5 uh_6 ug_7 ur_209 uw_9 ux_10 uy_11 u8_211) ∧ ((¬ r_207 = r_210) →
                                              False)))
set_option maxHeartbeats 4000000 in
set_option maxRecDepth 100000 in
theorem lc_18 {p : Program} {l : Launch} {e : Env} {s : State} {m : MethodId} {below : List Frame} {meth : Method} {c : Code} {dC : Nat → ClassId} {dI : Nat → Nat → Nat} {b LN : Nat} {xs : Nat → Int32} (C0 : lw_At p s m meth c b LN xs) (hN : nw_ok s) (AA : Nat → Nat → Nat) (CA : Nat → Nat → ClassId) (a : Nat → Nat) (ca : Nat → ClassId) (LL_1 : Int32 → Ob → Ob → Ob → Ob → Ob → Ob → Ob → Ob → Ob → Ob → Prop) (ih_LL_1 : ∀ (v3_2 : Int32) (uf_3 : Ob) (um_4 : Ob) (ut_5 : Ob) (uh_6 : Ob) (ug_7 : Ob) (ur_8 : Ob) (uw_9 : Ob) (ux_10 : Ob) (uy_11 : Ob) (u8_12 : Ob), LL_1 v3_2 uf_3 um_4 ut_5 uh_6 ug_7 ur_8 uw_9 ux_10 uy_11 u8_12 → ∀ (H : Heap) (locs : List Loc) (ls : Array Slot), va_P (dC, dI) vwCl (wd_X7 AA CA uf_3 um_4 ut_5 uh_6 ug_7 ur_8 uw_9 ux_10 uy_11 ++ (wd_X8 a ca u8_12)) H → va_D (fun q : Nat => s.heap.size ≤ q) (wd_X7 AA CA uf_3 um_4 ut_5 uh_6 ug_7 ur_8 uw_9 ux_10 uy_11 ++ (wd_X8 a ca u8_12)) → va_S (fun q : Nat => s.heap.size ≤ q) s.heap H locs → lv_has ls 4 [(3, .int v3_2), (2, .ref (a 0)), (1, .ref (AA 0 0)), (0, .ref b)] → W p l e room_1 s m #[Value.ref b] below meth c H locs 46 82621 (lw_Z below #[Value.ref b] s) (F0 m 18 ls [])) (v3_2 : Int32) (uf_3 : Ob) (um_4 : Ob) (ut_5 : Ob) (uh_6 : Ob) (ug_7 : Ob) (ur_8 : Ob) (uw_9 : Ob) (ux_10 : Ob) (uy_11 : Ob) (u8_12 : Ob) (h : wpc_18 LN xs LL_1 v3_2 uf_3 um_4 ut_5 uh_6 ug_7 ur_8 uw_9 ux_10 uy_11 u8_12) (H : Heap) (locs : List Loc) (ls : Array Slot) (hK : va_K (dC, dI) vwCl (ty_X7 CA ++ (ty_X8 ca)) s) (hP : va_P (dC, dI) vwCl (wd_X7 AA CA uf_3 um_4 ut_5 uh_6 ug_7 ur_8 uw_9 ux_10 uy_11 ++ (wd_X8 a ca u8_12)) H) (hD : va_D (fun q : Nat => s.heap.size ≤ q) (wd_X7 AA CA uf_3 um_4 ut_5 uh_6 ug_7 ur_8 uw_9 ux_10 uy_11 ++ (wd_X8 a ca u8_12))) (hS : va_S (fun q : Nat => s.heap.size ≤ q) s.heap H locs) (hl : lv_has ls 4 [(3, .int v3_2), (2, .ref (a 0)), (1, .ref (AA 0 0)), (0, .ref b)]) : W p l e room_1 s m #[Value.ref b] below meth c H locs 46 82621 (lw_Z below #[Value.ref b] s) (F0 m 714 ls []) := by
  obtain ⟨hx, hb, hr, hml, hown, hts0, hX, hbl, hlocks, hgv⟩ := C0
  have hts : ∀ w ∈ wsL_law, w.before #[Value.ref b] s = true := fun w h => hts0 w (wsL_law_in w h)
  have hown : s.vm.findClass RL = some m.cls := hown
  have hA : ∀ q : Nat, s.heap.size ≤ q → (fun q : Nat => s.heap.size ≤ q) q := fun _ h => h
  have hbA : ¬ (fun q : Nat => s.heap.size ≤ q) b := Nat.not_le.mpr hbl
  have lk_0 := hts (.constantLong RL 38 4294967295) (by decide +kernel)
  unfold wpc_18 at h
  refine lv_aload_n hx hb dL_law_714 rfl (lv_at hl 2 rfl) ?_
  have hPc := bk_P1 hP
  have hDc := bk_D1 hD
  have hKc := bk_K1 hK
  have hFc := bk_F hDc hS hA
  refine va_calli (va_runV (As := []) (rest := []) ⟨hx, hb, hml, hown, hts⟩ (c_X7_far l dC dI AA CA H.size uf_3 um_4 ut_5 uh_6 ug_7 ur_8 uw_9 ux_10 uy_11 _ h) (cwV 0 hts gL_law_X7_far rfl rfl rfl (by decide +kernel) ⟨Nat.le_of_ble_eq_true rfl, Nat.le_of_ble_eq_true rfl⟩) ⟨fun a U g mk q => by obtain ⟨q0, q1, qP, qK, qD⟩ := q; exact ⟨q0, q1, qP, va_K.moved (u := U) (U := U.calling g mk a) (Vm.Alike.refl U.vm) qK, qD⟩, va_recv hKc hPc (ci := 6) (q0 := 0) rfl rfl, fun U hU hW => ⟨rfl, by rw [hU], by rw [hU]; exact hPc, va_K.moved hW.alike hKc, hDc.weaken (fun _ _ _ _ => trivial)⟩⟩ rfl rfl hl.1 rfl (lv_room (Nat.le_of_ble_eq_true rfl)) dL_law_715 ⟨Nat.le_of_ble_eq_true rfl, Nat.le_of_ble_eq_true rfl⟩) hS (fun q _ h => hFc q h) hFc (fun r_207 zz t H1 locs ht hvm hw hB hz1 hk1 hS => ?_)
  obtain ⟨uf_208, ur_209⟩ := zz
  replace h := hw
  obtain ⟨hP1, hD1⟩ := hB
  rw [ht] at hP1
  obtain ⟨hP, hD⟩ := bk_J1 (A1 := (wd_X7 AA CA uf_208 um_4 ut_5 uh_6 ug_7 ur_209 uw_9 ux_10 uy_11)) hP hD hk1 hFc hP1 hD1
  generalize H1 = H at hP hS ⊢
  refine lv_aload_n hx hb dL_law_718 rfl (lv_at hl 1 rfl) ?_
  have hPc := bk_P2 hP
  have hDc := bk_D2 hD
  have hKc := bk_K2 hK
  have hFc := bk_F hDc hS hA
  refine va_calli (va_runV (As := []) (rest := [.int r_207]) ⟨hx, hb, hml, hown, hts⟩ (c_X8_far l dC dI a ca H.size u8_12 _ h) (cwV 0 hts gL_law_X8_far rfl rfl rfl (by decide +kernel) ⟨Nat.le_of_ble_eq_true rfl, Nat.le_of_ble_eq_true rfl⟩) ⟨fun a U g mk q => by obtain ⟨q0, q1, qP, qK, qD⟩ := q; exact ⟨q0, q1, qP, va_K.moved (u := U) (U := U.calling g mk a) (Vm.Alike.refl U.vm) qK, qD⟩, va_recv hKc hPc (ci := 7) (q0 := 0) rfl rfl, fun U hU hW => ⟨rfl, by rw [hU], by rw [hU]; exact hPc, va_K.moved hW.alike hKc, hDc.weaken (fun _ _ _ _ => trivial)⟩⟩ rfl rfl hl.1 rfl (lv_room (Nat.le_of_ble_eq_true rfl)) dL_law_719 ⟨Nat.le_of_ble_eq_true rfl, Nat.le_of_ble_eq_true rfl⟩) hS (fun q _ h => hFc q h) hFc (fun r_210 zz t H1 locs ht hvm hw hB hz1 hk1 hS => ?_)
  obtain ⟨u8_211, rfl⟩ : ∃ z, z = zz := ⟨_, rfl⟩
  replace h := hw
  obtain ⟨hP1, hD1⟩ := hB
  rw [ht] at hP1
  obtain ⟨hP, hD⟩ := bk_J2 (B1 := (wd_X8 a ca u8_211)) hP hD hk1 hFc hP1 hD1
  generalize H1 = H at hP hS ⊢
  refine lv_icmp_eq (tgt := 892) hx hb dL_law_722 (by decide) (fun hc_212 => ?_) (fun hc_212 => ?_)
  · replace h := h.1 hc_212
    refine lv_iinc (v := (v3_2 + 6)) (lv' := [(3, .int (v3_2 + 6)), (2, .ref (a 0)), (1, .ref (AA 0 0)), (0, .ref b)]) hx hb dL_law_892 hl (k := 0) rfl rfl (by decide) rfl (fun ls hl => ?_)
    refine lv_goto (tgt := 18) hx hb dL_law_895 (by decide) ?_
    exact ih_LL_1 _ _ _ _ _ _ _ _ _ _ _ h _ _ _ hP hD hS (lv_sub hl [0, 1, 2, 3] rfl)
  · replace h := h.2 hc_212
    refine lv_iconst (v := 0) hx hb dL_law_725 (by decide) ?_
    exact h.elim
def wpc_19 (LN : Nat) (xs : Nat → Int32) (LL_1 : Int32 → Ob → Ob → Ob → Ob → Ob → Ob → Ob → Ob → Ob → Ob → Prop) (v3_2 : Int32) (uf_3 : Ob) (um_4 : Ob) (ut_5 : Ob) (uh_6 : Ob) (ug_7 : Ob) (ur_8 : Ob) (uw_9 : Ob) (ux_10 : Ob) (uy_11 : Ob) (u8_12 : Ob) : Prop :=
                                              vp_in (v3_2 + 1) LN ∧
                                              wp_X7_way uf_3 um_4 uh_6 ug_7 ur_8 (xs (v3_2 + 1).toNatClampNeg) (fun (r_215 : Int32) (uf_216 : Ob) (ur_217 : Ob) =>
                                              vp_in (v3_2 + 1) LN ∧
                                              wp_X8_way u8_12 (xs (v3_2 + 1).toNatClampNeg) (fun (r_219 : Int32) (u8_220 : Ob) =>
                                              ((r_215 = r_219) →
                                                LL_1 (v3_2 + 6) uf_216 um_4 ut_5 uh_6 ug_7 ur_217 uw_9 ux_10 uy_11 u8_220) ∧ ((¬ r_215 = r_219) →
                                                False)))
set_option maxHeartbeats 4000000 in
set_option maxRecDepth 100000 in
theorem lc_19 {p : Program} {l : Launch} {e : Env} {s : State} {m : MethodId} {below : List Frame} {meth : Method} {c : Code} {dC : Nat → ClassId} {dI : Nat → Nat → Nat} {b LN : Nat} {xs : Nat → Int32} (C0 : lw_At p s m meth c b LN xs) (hN : nw_ok s) (AA : Nat → Nat → Nat) (CA : Nat → Nat → ClassId) (a : Nat → Nat) (ca : Nat → ClassId) (LL_1 : Int32 → Ob → Ob → Ob → Ob → Ob → Ob → Ob → Ob → Ob → Ob → Prop) (ih_LL_1 : ∀ (v3_2 : Int32) (uf_3 : Ob) (um_4 : Ob) (ut_5 : Ob) (uh_6 : Ob) (ug_7 : Ob) (ur_8 : Ob) (uw_9 : Ob) (ux_10 : Ob) (uy_11 : Ob) (u8_12 : Ob), LL_1 v3_2 uf_3 um_4 ut_5 uh_6 ug_7 ur_8 uw_9 ux_10 uy_11 u8_12 → ∀ (H : Heap) (locs : List Loc) (ls : Array Slot), va_P (dC, dI) vwCl (wd_X7 AA CA uf_3 um_4 ut_5 uh_6 ug_7 ur_8 uw_9 ux_10 uy_11 ++ (wd_X8 a ca u8_12)) H → va_D (fun q : Nat => s.heap.size ≤ q) (wd_X7 AA CA uf_3 um_4 ut_5 uh_6 ug_7 ur_8 uw_9 ux_10 uy_11 ++ (wd_X8 a ca u8_12)) → va_S (fun q : Nat => s.heap.size ≤ q) s.heap H locs → lv_has ls 4 [(3, .int v3_2), (2, .ref (a 0)), (1, .ref (AA 0 0)), (0, .ref b)] → W p l e room_1 s m #[Value.ref b] below meth c H locs 46 82621 (lw_Z below #[Value.ref b] s) (F0 m 18 ls [])) (v3_2 : Int32) (uf_3 : Ob) (um_4 : Ob) (ut_5 : Ob) (uh_6 : Ob) (ug_7 : Ob) (ur_8 : Ob) (uw_9 : Ob) (ux_10 : Ob) (uy_11 : Ob) (u8_12 : Ob) (h : wpc_19 LN xs LL_1 v3_2 uf_3 um_4 ut_5 uh_6 ug_7 ur_8 uw_9 ux_10 uy_11 u8_12) (H : Heap) (locs : List Loc) (ls : Array Slot) (hK : va_K (dC, dI) vwCl (ty_X7 CA ++ (ty_X8 ca)) s) (hP : va_P (dC, dI) vwCl (wd_X7 AA CA uf_3 um_4 ut_5 uh_6 ug_7 ur_8 uw_9 ux_10 uy_11 ++ (wd_X8 a ca u8_12)) H) (hD : va_D (fun q : Nat => s.heap.size ≤ q) (wd_X7 AA CA uf_3 um_4 ut_5 uh_6 ug_7 ur_8 uw_9 ux_10 uy_11 ++ (wd_X8 a ca u8_12))) (hS : va_S (fun q : Nat => s.heap.size ≤ q) s.heap H locs) (hl : lv_has ls 4 [(3, .int v3_2), (2, .ref (a 0)), (1, .ref (AA 0 0)), (0, .ref b)]) : W p l e room_1 s m #[Value.ref b] below meth c H locs 46 82621 (lw_Z below #[Value.ref b] s) (F0 m 727 ls []) := by
  obtain ⟨hx, hb, hr, hml, hown, hts0, hX, hbl, hlocks, hgv⟩ := C0
  have hts : ∀ w ∈ wsL_law, w.before #[Value.ref b] s = true := fun w h => hts0 w (wsL_law_in w h)
  have hown : s.vm.findClass RL = some m.cls := hown
  have hA : ∀ q : Nat, s.heap.size ≤ q → (fun q : Nat => s.heap.size ≤ q) q := fun _ h => h
  have hbA : ¬ (fun q : Nat => s.heap.size ≤ q) b := Nat.not_le.mpr hbl
  have lk_0 := hts (.constantLong RL 38 4294967295) (by decide +kernel)
  unfold wpc_19 at h
  refine lv_aload_n hx hb dL_law_727 rfl (lv_at hl 2 rfl) ?_
  refine lv_aload_n hx hb dL_law_728 rfl (lv_at hl 3 rfl) ?_
  refine lv_iload_n hx hb dL_law_729 rfl (lv_at hl 0 rfl) ?_
  refine lv_iconst (v := 1) hx hb dL_law_730 (by decide) ?_
  refine lv_iadd hx hb dL_law_731 ?_
  obtain ⟨hi_214, h⟩ := h
  refine va_sld hx hb hX hbl hbA hS hi_214 dL_law_732 ?_
  have hPc := bk_P1 hP
  have hDc := bk_D1 hD
  have hKc := bk_K1 hK
  have hFc := bk_F hDc hS hA
  refine va_calli (va_runV (As := [.int (xs (v3_2 + 1).toNatClampNeg)]) (rest := []) ⟨hx, hb, hml, hown, hts⟩ (c_X7_way l dC dI AA CA H.size uf_3 um_4 ut_5 uh_6 ug_7 ur_8 uw_9 ux_10 uy_11 (xs (v3_2 + 1).toNatClampNeg) _ h) (cwV 1 hts gL_law_X7_way rfl rfl rfl (by decide +kernel) ⟨Nat.le_of_ble_eq_true rfl, Nat.le_of_ble_eq_true rfl⟩) ⟨fun a U g mk q => by obtain ⟨q0, q1, qP, qK, qD⟩ := q; exact ⟨q0, q1, qP, va_K.moved (u := U) (U := U.calling g mk a) (Vm.Alike.refl U.vm) qK, qD⟩, va_recv hKc hPc (ci := 6) (q0 := 0) rfl rfl, fun U hU hW => ⟨rfl, by rw [hU], by rw [hU]; exact hPc, va_K.moved hW.alike hKc, hDc.weaken (fun _ _ _ _ => trivial)⟩⟩ rfl rfl hl.1 rfl (lv_room (Nat.le_of_ble_eq_true rfl)) dL_law_733 ⟨Nat.le_of_ble_eq_true rfl, Nat.le_of_ble_eq_true rfl⟩) hS (fun q _ h => hFc q h) hFc (fun r_215 zz t H1 locs ht hvm hw hB hz1 hk1 hS => ?_)
  obtain ⟨uf_216, ur_217⟩ := zz
  replace h := hw
  obtain ⟨hP1, hD1⟩ := hB
  rw [ht] at hP1
  obtain ⟨hP, hD⟩ := bk_J1 (A1 := (wd_X7 AA CA uf_216 um_4 ut_5 uh_6 ug_7 ur_217 uw_9 ux_10 uy_11)) hP hD hk1 hFc hP1 hD1
  generalize H1 = H at hP hS ⊢
  refine lv_aload_n hx hb dL_law_736 rfl (lv_at hl 1 rfl) ?_
  refine lv_aload_n hx hb dL_law_737 rfl (lv_at hl 3 rfl) ?_
  refine lv_iload_n hx hb dL_law_738 rfl (lv_at hl 0 rfl) ?_
  refine lv_iconst (v := 1) hx hb dL_law_739 (by decide) ?_
  refine lv_iadd hx hb dL_law_740 ?_
  obtain ⟨hi_218, h⟩ := h
  refine va_sld hx hb hX hbl hbA hS hi_218 dL_law_741 ?_
  have hPc := bk_P2 hP
  have hDc := bk_D2 hD
  have hKc := bk_K2 hK
  have hFc := bk_F hDc hS hA
  refine va_calli (va_runV (As := [.int (xs (v3_2 + 1).toNatClampNeg)]) (rest := [.int r_215]) ⟨hx, hb, hml, hown, hts⟩ (c_X8_way l dC dI a ca H.size u8_12 (xs (v3_2 + 1).toNatClampNeg) _ h) (cwV 1 hts gL_law_X8_way rfl rfl rfl (by decide +kernel) ⟨Nat.le_of_ble_eq_true rfl, Nat.le_of_ble_eq_true rfl⟩) ⟨fun a U g mk q => by obtain ⟨q0, q1, qP, qK, qD⟩ := q; exact ⟨q0, q1, qP, va_K.moved (u := U) (U := U.calling g mk a) (Vm.Alike.refl U.vm) qK, qD⟩, va_recv hKc hPc (ci := 7) (q0 := 0) rfl rfl, fun U hU hW => ⟨rfl, by rw [hU], by rw [hU]; exact hPc, va_K.moved hW.alike hKc, hDc.weaken (fun _ _ _ _ => trivial)⟩⟩ rfl rfl hl.1 rfl (lv_room (Nat.le_of_ble_eq_true rfl)) dL_law_742 ⟨Nat.le_of_ble_eq_true rfl, Nat.le_of_ble_eq_true rfl⟩) hS (fun q _ h => hFc q h) hFc (fun r_219 zz t H1 locs ht hvm hw hB hz1 hk1 hS => ?_)
  obtain ⟨u8_220, rfl⟩ : ∃ z, z = zz := ⟨_, rfl⟩
  replace h := hw
  obtain ⟨hP1, hD1⟩ := hB
  rw [ht] at hP1
  obtain ⟨hP, hD⟩ := bk_J2 (B1 := (wd_X8 a ca u8_220)) hP hD hk1 hFc hP1 hD1
  generalize H1 = H at hP hS ⊢
  refine lv_icmp_eq (tgt := 892) hx hb dL_law_745 (by decide) (fun hc_221 => ?_) (fun hc_221 => ?_)
  · replace h := h.1 hc_221
    refine lv_iinc (v := (v3_2 + 6)) (lv' := [(3, .int (v3_2 + 6)), (2, .ref (a 0)), (1, .ref (AA 0 0)), (0, .ref b)]) hx hb dL_law_892 hl (k := 0) rfl rfl (by decide) rfl (fun ls hl => ?_)
    refine lv_goto (tgt := 18) hx hb dL_law_895 (by decide) ?_
    exact ih_LL_1 _ _ _ _ _ _ _ _ _ _ _ h _ _ _ hP hD hS (lv_sub hl [0, 1, 2, 3] rfl)
  · replace h := h.2 hc_221
    refine lv_iconst (v := 0) hx hb dL_law_748 (by decide) ?_
    exact h.elim
def wpc_20 (LN : Nat) (xs : Nat → Int32) (LL_1 : Int32 → Ob → Ob → Ob → Ob → Ob → Ob → Ob → Ob → Ob → Ob → Prop) (v3_2 : Int32) (uf_3 : Ob) (um_4 : Ob) (ut_5 : Ob) (uh_6 : Ob) (ug_7 : Ob) (ur_8 : Ob) (uw_9 : Ob) (ux_10 : Ob) (uy_11 : Ob) (u8_12 : Ob) : Prop :=
                                                vp_in (v3_2 + 1) LN ∧
                                                wp_X7_strict uf_3 um_4 uh_6 ug_7 uw_9 (xs (v3_2 + 1).toNatClampNeg) (fun (r_224 : Int32) (uw_225 : Ob) =>
                                                vp_in (v3_2 + 1) LN ∧
                                                wp_X8_strict u8_12 (xs (v3_2 + 1).toNatClampNeg) (fun (r_227 : Int32) (u8_228 : Ob) =>
                                                ((r_224 = r_227) →
                                                  LL_1 (v3_2 + 6) uf_3 um_4 ut_5 uh_6 ug_7 ur_8 uw_225 ux_10 uy_11 u8_228) ∧ ((¬ r_224 = r_227) →
                                                  False)))
set_option maxHeartbeats 4000000 in
set_option maxRecDepth 100000 in
theorem lc_20 {p : Program} {l : Launch} {e : Env} {s : State} {m : MethodId} {below : List Frame} {meth : Method} {c : Code} {dC : Nat → ClassId} {dI : Nat → Nat → Nat} {b LN : Nat} {xs : Nat → Int32} (C0 : lw_At p s m meth c b LN xs) (hN : nw_ok s) (AA : Nat → Nat → Nat) (CA : Nat → Nat → ClassId) (a : Nat → Nat) (ca : Nat → ClassId) (LL_1 : Int32 → Ob → Ob → Ob → Ob → Ob → Ob → Ob → Ob → Ob → Ob → Prop) (ih_LL_1 : ∀ (v3_2 : Int32) (uf_3 : Ob) (um_4 : Ob) (ut_5 : Ob) (uh_6 : Ob) (ug_7 : Ob) (ur_8 : Ob) (uw_9 : Ob) (ux_10 : Ob) (uy_11 : Ob) (u8_12 : Ob), LL_1 v3_2 uf_3 um_4 ut_5 uh_6 ug_7 ur_8 uw_9 ux_10 uy_11 u8_12 → ∀ (H : Heap) (locs : List Loc) (ls : Array Slot), va_P (dC, dI) vwCl (wd_X7 AA CA uf_3 um_4 ut_5 uh_6 ug_7 ur_8 uw_9 ux_10 uy_11 ++ (wd_X8 a ca u8_12)) H → va_D (fun q : Nat => s.heap.size ≤ q) (wd_X7 AA CA uf_3 um_4 ut_5 uh_6 ug_7 ur_8 uw_9 ux_10 uy_11 ++ (wd_X8 a ca u8_12)) → va_S (fun q : Nat => s.heap.size ≤ q) s.heap H locs → lv_has ls 4 [(3, .int v3_2), (2, .ref (a 0)), (1, .ref (AA 0 0)), (0, .ref b)] → W p l e room_1 s m #[Value.ref b] below meth c H locs 46 82621 (lw_Z below #[Value.ref b] s) (F0 m 18 ls [])) (v3_2 : Int32) (uf_3 : Ob) (um_4 : Ob) (ut_5 : Ob) (uh_6 : Ob) (ug_7 : Ob) (ur_8 : Ob) (uw_9 : Ob) (ux_10 : Ob) (uy_11 : Ob) (u8_12 : Ob) (h : wpc_20 LN xs LL_1 v3_2 uf_3 um_4 ut_5 uh_6 ug_7 ur_8 uw_9 ux_10 uy_11 u8_12) (H : Heap) (locs : List Loc) (ls : Array Slot) (hK : va_K (dC, dI) vwCl (ty_X7 CA ++ (ty_X8 ca)) s) (hP : va_P (dC, dI) vwCl (wd_X7 AA CA uf_3 um_4 ut_5 uh_6 ug_7 ur_8 uw_9 ux_10 uy_11 ++ (wd_X8 a ca u8_12)) H) (hD : va_D (fun q : Nat => s.heap.size ≤ q) (wd_X7 AA CA uf_3 um_4 ut_5 uh_6 ug_7 ur_8 uw_9 ux_10 uy_11 ++ (wd_X8 a ca u8_12))) (hS : va_S (fun q : Nat => s.heap.size ≤ q) s.heap H locs) (hl : lv_has ls 4 [(3, .int v3_2), (2, .ref (a 0)), (1, .ref (AA 0 0)), (0, .ref b)]) : W p l e room_1 s m #[Value.ref b] below meth c H locs 46 82621 (lw_Z below #[Value.ref b] s) (F0 m 750 ls []) := by
  obtain ⟨hx, hb, hr, hml, hown, hts0, hX, hbl, hlocks, hgv⟩ := C0
  have hts : ∀ w ∈ wsL_law, w.before #[Value.ref b] s = true := fun w h => hts0 w (wsL_law_in w h)
  have hown : s.vm.findClass RL = some m.cls := hown
  have hA : ∀ q : Nat, s.heap.size ≤ q → (fun q : Nat => s.heap.size ≤ q) q := fun _ h => h
  have hbA : ¬ (fun q : Nat => s.heap.size ≤ q) b := Nat.not_le.mpr hbl
  have lk_0 := hts (.constantLong RL 38 4294967295) (by decide +kernel)
  unfold wpc_20 at h
  refine lv_aload_n hx hb dL_law_750 rfl (lv_at hl 2 rfl) ?_
  refine lv_aload_n hx hb dL_law_751 rfl (lv_at hl 3 rfl) ?_
  refine lv_iload_n hx hb dL_law_752 rfl (lv_at hl 0 rfl) ?_
  refine lv_iconst (v := 1) hx hb dL_law_753 (by decide) ?_
  refine lv_iadd hx hb dL_law_754 ?_
  obtain ⟨hi_223, h⟩ := h
  refine va_sld hx hb hX hbl hbA hS hi_223 dL_law_755 ?_
  have hPc := bk_P1 hP
  have hDc := bk_D1 hD
  have hKc := bk_K1 hK
  have hFc := bk_F hDc hS hA
  refine va_calli (va_runV (As := [.int (xs (v3_2 + 1).toNatClampNeg)]) (rest := []) ⟨hx, hb, hml, hown, hts⟩ (c_X7_strict l dC dI AA CA H.size uf_3 um_4 ut_5 uh_6 ug_7 ur_8 uw_9 ux_10 uy_11 (xs (v3_2 + 1).toNatClampNeg) _ h) (cwV 1 hts gL_law_X7_strict rfl rfl rfl (by decide +kernel) ⟨Nat.le_of_ble_eq_true rfl, Nat.le_of_ble_eq_true rfl⟩) ⟨fun a U g mk q => by obtain ⟨q0, q1, qP, qK, qD⟩ := q; exact ⟨q0, q1, qP, va_K.moved (u := U) (U := U.calling g mk a) (Vm.Alike.refl U.vm) qK, qD⟩, va_recv hKc hPc (ci := 6) (q0 := 0) rfl rfl, fun U hU hW => ⟨rfl, by rw [hU], by rw [hU]; exact hPc, va_K.moved hW.alike hKc, hDc.weaken (fun _ _ _ _ => trivial)⟩⟩ rfl rfl hl.1 rfl (lv_room (Nat.le_of_ble_eq_true rfl)) dL_law_756 ⟨Nat.le_of_ble_eq_true rfl, Nat.le_of_ble_eq_true rfl⟩) hS (fun q _ h => hFc q h) hFc (fun r_224 zz t H1 locs ht hvm hw hB hz1 hk1 hS => ?_)
  obtain ⟨uw_225, rfl⟩ : ∃ z, z = zz := ⟨_, rfl⟩
  replace h := hw
  obtain ⟨hP1, hD1⟩ := hB
  rw [ht] at hP1
  obtain ⟨hP, hD⟩ := bk_J1 (A1 := (wd_X7 AA CA uf_3 um_4 ut_5 uh_6 ug_7 ur_8 uw_225 ux_10 uy_11)) hP hD hk1 hFc hP1 hD1
  generalize H1 = H at hP hS ⊢
  refine lv_aload_n hx hb dL_law_759 rfl (lv_at hl 1 rfl) ?_
  refine lv_aload_n hx hb dL_law_760 rfl (lv_at hl 3 rfl) ?_
  refine lv_iload_n hx hb dL_law_761 rfl (lv_at hl 0 rfl) ?_
  refine lv_iconst (v := 1) hx hb dL_law_762 (by decide) ?_
  refine lv_iadd hx hb dL_law_763 ?_
  obtain ⟨hi_226, h⟩ := h
  refine va_sld hx hb hX hbl hbA hS hi_226 dL_law_764 ?_
  have hPc := bk_P2 hP
  have hDc := bk_D2 hD
  have hKc := bk_K2 hK
  have hFc := bk_F hDc hS hA
  refine va_calli (va_runV (As := [.int (xs (v3_2 + 1).toNatClampNeg)]) (rest := [.int r_224]) ⟨hx, hb, hml, hown, hts⟩ (c_X8_strict l dC dI a ca H.size u8_12 (xs (v3_2 + 1).toNatClampNeg) _ h) (cwV 1 hts gL_law_X8_strict rfl rfl rfl (by decide +kernel) ⟨Nat.le_of_ble_eq_true rfl, Nat.le_of_ble_eq_true rfl⟩) ⟨fun a U g mk q => by obtain ⟨q0, q1, qP, qK, qD⟩ := q; exact ⟨q0, q1, qP, va_K.moved (u := U) (U := U.calling g mk a) (Vm.Alike.refl U.vm) qK, qD⟩, va_recv hKc hPc (ci := 7) (q0 := 0) rfl rfl, fun U hU hW => ⟨rfl, by rw [hU], by rw [hU]; exact hPc, va_K.moved hW.alike hKc, hDc.weaken (fun _ _ _ _ => trivial)⟩⟩ rfl rfl hl.1 rfl (lv_room (Nat.le_of_ble_eq_true rfl)) dL_law_765 ⟨Nat.le_of_ble_eq_true rfl, Nat.le_of_ble_eq_true rfl⟩) hS (fun q _ h => hFc q h) hFc (fun r_227 zz t H1 locs ht hvm hw hB hz1 hk1 hS => ?_)
  obtain ⟨u8_228, rfl⟩ : ∃ z, z = zz := ⟨_, rfl⟩
  replace h := hw
  obtain ⟨hP1, hD1⟩ := hB
  rw [ht] at hP1
  obtain ⟨hP, hD⟩ := bk_J2 (B1 := (wd_X8 a ca u8_228)) hP hD hk1 hFc hP1 hD1
  generalize H1 = H at hP hS ⊢
  refine lv_icmp_eq (tgt := 892) hx hb dL_law_768 (by decide) (fun hc_229 => ?_) (fun hc_229 => ?_)
  · replace h := h.1 hc_229
    refine lv_iinc (v := (v3_2 + 6)) (lv' := [(3, .int (v3_2 + 6)), (2, .ref (a 0)), (1, .ref (AA 0 0)), (0, .ref b)]) hx hb dL_law_892 hl (k := 0) rfl rfl (by decide) rfl (fun ls hl => ?_)
    refine lv_goto (tgt := 18) hx hb dL_law_895 (by decide) ?_
    exact ih_LL_1 _ _ _ _ _ _ _ _ _ _ _ h _ _ _ hP hD hS (lv_sub hl [0, 1, 2, 3] rfl)
  · replace h := h.2 hc_229
    refine lv_iconst (v := 0) hx hb dL_law_771 (by decide) ?_
    exact h.elim
