def wpc_0 (LN : Nat) (xs : Nat → Int32) (LL_1 : Int32 → Ob → Ob → Ob → Ob → Ob → Ob → Ob → Ob → Ob → Ob → Prop) (v3_2 : Int32) (uf_3 : Ob) (um_4 : Ob) (ut_5 : Ob) (uh_6 : Ob) (ug_7 : Ob) (ur_8 : Ob) (uw_9 : Ob) (ux_10 : Ob) (uy_11 : Ob) (u8_12 : Ob) : Prop :=
        vp_in (v3_2 + 1) LN ∧
        wp_X7_states uf_3 um_4 uh_6 ug_7 (xs (v3_2 + 1).toNatClampNeg) (fun (r_17 : Int32) (uf_18 : Ob) (um_19 : Ob) (uh_20 : Ob) (ug_21 : Ob) =>
        vp_in (v3_2 + 1) LN ∧
        wp_X8_states u8_12 (xs (v3_2 + 1).toNatClampNeg) (fun (r_23 : Int32) (u8_24 : Ob) =>
        ((r_17 = r_23) →
          LL_1 (v3_2 + 6) uf_18 um_19 ut_5 uh_20 ug_21 ur_8 uw_9 ux_10 uy_11 u8_24) ∧ ((¬ r_17 = r_23) →
          False)))
set_option maxHeartbeats 4000000 in
set_option maxRecDepth 100000 in
theorem lc_0 {p : Program} {l : Launch} {e : Env} {s : State} {m : MethodId} {below : List Frame} {meth : Method} {c : Code} {dC : Nat → ClassId} {dI : Nat → Nat → Nat} {b LN : Nat} {xs : Nat → Int32} (C0 : lw_At p s m meth c b LN xs) (hN : nw_ok s) (AA : Nat → Nat → Nat) (CA : Nat → Nat → ClassId) (a : Nat → Nat) (ca : Nat → ClassId) (LL_1 : Int32 → Ob → Ob → Ob → Ob → Ob → Ob → Ob → Ob → Ob → Ob → Prop) (ih_LL_1 : ∀ (v3_2 : Int32) (uf_3 : Ob) (um_4 : Ob) (ut_5 : Ob) (uh_6 : Ob) (ug_7 : Ob) (ur_8 : Ob) (uw_9 : Ob) (ux_10 : Ob) (uy_11 : Ob) (u8_12 : Ob), LL_1 v3_2 uf_3 um_4 ut_5 uh_6 ug_7 ur_8 uw_9 ux_10 uy_11 u8_12 → ∀ (H : Heap) (locs : List Loc) (ls : Array Slot), va_P (dC, dI) vwCl (wd_X7 AA CA uf_3 um_4 ut_5 uh_6 ug_7 ur_8 uw_9 ux_10 uy_11 ++ (wd_X8 a ca u8_12)) H → va_D (fun q : Nat => s.heap.size ≤ q) (wd_X7 AA CA uf_3 um_4 ut_5 uh_6 ug_7 ur_8 uw_9 ux_10 uy_11 ++ (wd_X8 a ca u8_12)) → va_S (fun q : Nat => s.heap.size ≤ q) s.heap H locs → lv_has ls 4 [(3, .int v3_2), (2, .ref (a 0)), (1, .ref (AA 0 0)), (0, .ref b)] → W p l e room_1 s m #[Value.ref b] below meth c H locs 46 82621 (lw_Z below #[Value.ref b] s) (F0 m 18 ls [])) (v3_2 : Int32) (uf_3 : Ob) (um_4 : Ob) (ut_5 : Ob) (uh_6 : Ob) (ug_7 : Ob) (ur_8 : Ob) (uw_9 : Ob) (ux_10 : Ob) (uy_11 : Ob) (u8_12 : Ob) (h : wpc_0 LN xs LL_1 v3_2 uf_3 um_4 ut_5 uh_6 ug_7 ur_8 uw_9 ux_10 uy_11 u8_12) (H : Heap) (locs : List Loc) (ls : Array Slot) (hK : va_K (dC, dI) vwCl (ty_X7 CA ++ (ty_X8 ca)) s) (hP : va_P (dC, dI) vwCl (wd_X7 AA CA uf_3 um_4 ut_5 uh_6 ug_7 ur_8 uw_9 ux_10 uy_11 ++ (wd_X8 a ca u8_12)) H) (hD : va_D (fun q : Nat => s.heap.size ≤ q) (wd_X7 AA CA uf_3 um_4 ut_5 uh_6 ug_7 ur_8 uw_9 ux_10 uy_11 ++ (wd_X8 a ca u8_12))) (hS : va_S (fun q : Nat => s.heap.size ≤ q) s.heap H locs) (hl : lv_has ls 4 [(3, .int v3_2), (2, .ref (a 0)), (1, .ref (AA 0 0)), (0, .ref b)]) : W p l e room_1 s m #[Value.ref b] below meth c H locs 46 82621 (lw_Z below #[Value.ref b] s) (F0 m 144 ls []) := by
  obtain ⟨hx, hb, hr, hml, hown, hts0, hX, hbl, hlocks, hgv⟩ := C0
  have hts : ∀ w ∈ wsL_law, w.before #[Value.ref b] s = true := fun w h => hts0 w (wsL_law_in w h)
  have hown : s.vm.findClass RL = some m.cls := hown
  have hA : ∀ q : Nat, s.heap.size ≤ q → (fun q : Nat => s.heap.size ≤ q) q := fun _ h => h
  have hbA : ¬ (fun q : Nat => s.heap.size ≤ q) b := Nat.not_le.mpr hbl
  have lk_0 := hts (.constantLong RL 38 4294967295) (by decide +kernel)
  unfold wpc_0 at h
  refine lv_aload_n hx hb dL_law_144 rfl (lv_at hl 2 rfl) ?_
  refine lv_aload_n hx hb dL_law_145 rfl (lv_at hl 3 rfl) ?_
  refine lv_iload_n hx hb dL_law_146 rfl (lv_at hl 0 rfl) ?_
  refine lv_iconst (v := 1) hx hb dL_law_147 (by decide) ?_
  refine lv_iadd hx hb dL_law_148 ?_
  obtain ⟨hi_16, h⟩ := h
  refine va_sld hx hb hX hbl hbA hS hi_16 dL_law_149 ?_
  have hPc := bk_P1 hP
  have hDc := bk_D1 hD
  have hKc := bk_K1 hK
  have hFc := bk_F hDc hS hA
  refine va_calli (va_runV (As := [.int (xs (v3_2 + 1).toNatClampNeg)]) (rest := []) ⟨hx, hb, hml, hown, hts⟩ (c_X7_states l dC dI AA CA H.size uf_3 um_4 ut_5 uh_6 ug_7 ur_8 uw_9 ux_10 uy_11 (xs (v3_2 + 1).toNatClampNeg) _ h) (cwV 1 hts gL_law_X7_states rfl rfl rfl (by decide +kernel) ⟨Nat.le_of_ble_eq_true rfl, Nat.le_of_ble_eq_true rfl⟩) ⟨fun a U g mk q => by obtain ⟨q0, q1, qP, qK, qD⟩ := q; exact ⟨q0, q1, qP, va_K.moved (u := U) (U := U.calling g mk a) (Vm.Alike.refl U.vm) qK, qD⟩, va_recv hKc hPc (ci := 6) (q0 := 0) rfl rfl, fun U hU hW => ⟨rfl, by rw [hU], by rw [hU]; exact hPc, va_K.moved hW.alike hKc, hDc.weaken (fun _ _ _ _ => trivial)⟩⟩ rfl rfl hl.1 rfl (lv_room (Nat.le_of_ble_eq_true rfl)) dL_law_150 ⟨Nat.le_of_ble_eq_true rfl, Nat.le_of_ble_eq_true rfl⟩) hS (fun q _ h => hFc q h) hFc (fun r_17 zz t H1 locs ht hvm hw hB hz1 hk1 hS => ?_)
  obtain ⟨uf_18, um_19, uh_20, ug_21⟩ := zz
  replace h := hw
  obtain ⟨hP1, hD1⟩ := hB
  rw [ht] at hP1
  obtain ⟨hP, hD⟩ := bk_J1 (A1 := (wd_X7 AA CA uf_18 um_19 ut_5 uh_20 ug_21 ur_8 uw_9 ux_10 uy_11)) hP hD hk1 hFc hP1 hD1
  generalize H1 = H at hP hS ⊢
  refine lv_aload_n hx hb dL_law_153 rfl (lv_at hl 1 rfl) ?_
  refine lv_aload_n hx hb dL_law_154 rfl (lv_at hl 3 rfl) ?_
  refine lv_iload_n hx hb dL_law_155 rfl (lv_at hl 0 rfl) ?_
  refine lv_iconst (v := 1) hx hb dL_law_156 (by decide) ?_
  refine lv_iadd hx hb dL_law_157 ?_
  obtain ⟨hi_22, h⟩ := h
  refine va_sld hx hb hX hbl hbA hS hi_22 dL_law_158 ?_
  have hPc := bk_P2 hP
  have hDc := bk_D2 hD
  have hKc := bk_K2 hK
  have hFc := bk_F hDc hS hA
  refine va_calli (va_runV (As := [.int (xs (v3_2 + 1).toNatClampNeg)]) (rest := [.int r_17]) ⟨hx, hb, hml, hown, hts⟩ (c_X8_states l dC dI a ca H.size u8_12 (xs (v3_2 + 1).toNatClampNeg) _ h) (cwV 1 hts gL_law_X8_states rfl rfl rfl (by decide +kernel) ⟨Nat.le_of_ble_eq_true rfl, Nat.le_of_ble_eq_true rfl⟩) ⟨fun a U g mk q => by obtain ⟨q0, q1, qP, qK, qD⟩ := q; exact ⟨q0, q1, qP, va_K.moved (u := U) (U := U.calling g mk a) (Vm.Alike.refl U.vm) qK, qD⟩, va_recv hKc hPc (ci := 7) (q0 := 0) rfl rfl, fun U hU hW => ⟨rfl, by rw [hU], by rw [hU]; exact hPc, va_K.moved hW.alike hKc, hDc.weaken (fun _ _ _ _ => trivial)⟩⟩ rfl rfl hl.1 rfl (lv_room (Nat.le_of_ble_eq_true rfl)) dL_law_159 ⟨Nat.le_of_ble_eq_true rfl, Nat.le_of_ble_eq_true rfl⟩) hS (fun q _ h => hFc q h) hFc (fun r_23 zz t H1 locs ht hvm hw hB hz1 hk1 hS => ?_)
  obtain ⟨u8_24, rfl⟩ : ∃ z, z = zz := ⟨_, rfl⟩
  replace h := hw
  obtain ⟨hP1, hD1⟩ := hB
  rw [ht] at hP1
  obtain ⟨hP, hD⟩ := bk_J2 (B1 := (wd_X8 a ca u8_24)) hP hD hk1 hFc hP1 hD1
  generalize H1 = H at hP hS ⊢
  refine lv_icmp_eq (tgt := 892) hx hb dL_law_162 (by decide) (fun hc_25 => ?_) (fun hc_25 => ?_)
  · replace h := h.1 hc_25
    refine lv_iinc (v := (v3_2 + 6)) (lv' := [(3, .int (v3_2 + 6)), (2, .ref (a 0)), (1, .ref (AA 0 0)), (0, .ref b)]) hx hb dL_law_892 hl (k := 0) rfl rfl (by decide) rfl (fun ls hl => ?_)
    refine lv_goto (tgt := 18) hx hb dL_law_895 (by decide) ?_
    exact ih_LL_1 _ _ _ _ _ _ _ _ _ _ _ h _ _ _ hP hD hS (lv_sub hl [0, 1, 2, 3] rfl)
  · replace h := h.2 hc_25
    refine lv_iconst (v := 0) hx hb dL_law_165 (by decide) ?_
    exact h.elim
def wpc_1 (LN : Nat) (xs : Nat → Int32) (LL_1 : Int32 → Ob → Ob → Ob → Ob → Ob → Ob → Ob → Ob → Ob → Ob → Prop) (v3_2 : Int32) (uf_3 : Ob) (um_4 : Ob) (ut_5 : Ob) (uh_6 : Ob) (ug_7 : Ob) (ur_8 : Ob) (uw_9 : Ob) (ux_10 : Ob) (uy_11 : Ob) (u8_12 : Ob) : Prop :=
          vp_in (v3_2 + 1) LN ∧
          vp_in (v3_2 + 2) LN ∧
          jn (fun (w_30 : Int32) =>
            wp_X7_bag uf_3 um_4 uh_6 ug_7 (xs (v3_2 + 1).toNatClampNeg) w_30 (fun (r_31 : Int32) (uf_32 : Ob) (um_33 : Ob) (uh_34 : Ob) (ug_35 : Ob) =>
            vp_in (v3_2 + 1) LN ∧
            vp_in (v3_2 + 2) LN ∧
            jn (fun (w_39 : Int32) =>
              wp_X8_bag u8_12 (xs (v3_2 + 1).toNatClampNeg) w_39 (fun (r_40 : Int32) (u8_41 : Ob) =>
              ((r_31 = r_40) →
                LL_1 (v3_2 + 6) uf_32 um_33 ut_5 uh_34 ug_35 ur_8 uw_9 ux_10 uy_11 u8_41) ∧ ((¬ r_31 = r_40) →
                False))) (fun (JJ_38 : Int32 → Prop) =>
              (((xs (v3_2 + 2).toNatClampNeg) = 0) →
                JJ_38 0) ∧ ((¬ (xs (v3_2 + 2).toNatClampNeg) = 0) →
                JJ_38 1)))) (fun (JJ_29 : Int32 → Prop) =>
            (((xs (v3_2 + 2).toNatClampNeg) = 0) →
              JJ_29 0) ∧ ((¬ (xs (v3_2 + 2).toNatClampNeg) = 0) →
              JJ_29 1))
set_option maxHeartbeats 4000000 in
set_option maxRecDepth 100000 in
theorem lc_1 {p : Program} {l : Launch} {e : Env} {s : State} {m : MethodId} {below : List Frame} {meth : Method} {c : Code} {dC : Nat → ClassId} {dI : Nat → Nat → Nat} {b LN : Nat} {xs : Nat → Int32} (C0 : lw_At p s m meth c b LN xs) (hN : nw_ok s) (AA : Nat → Nat → Nat) (CA : Nat → Nat → ClassId) (a : Nat → Nat) (ca : Nat → ClassId) (LL_1 : Int32 → Ob → Ob → Ob → Ob → Ob → Ob → Ob → Ob → Ob → Ob → Prop) (ih_LL_1 : ∀ (v3_2 : Int32) (uf_3 : Ob) (um_4 : Ob) (ut_5 : Ob) (uh_6 : Ob) (ug_7 : Ob) (ur_8 : Ob) (uw_9 : Ob) (ux_10 : Ob) (uy_11 : Ob) (u8_12 : Ob), LL_1 v3_2 uf_3 um_4 ut_5 uh_6 ug_7 ur_8 uw_9 ux_10 uy_11 u8_12 → ∀ (H : Heap) (locs : List Loc) (ls : Array Slot), va_P (dC, dI) vwCl (wd_X7 AA CA uf_3 um_4 ut_5 uh_6 ug_7 ur_8 uw_9 ux_10 uy_11 ++ (wd_X8 a ca u8_12)) H → va_D (fun q : Nat => s.heap.size ≤ q) (wd_X7 AA CA uf_3 um_4 ut_5 uh_6 ug_7 ur_8 uw_9 ux_10 uy_11 ++ (wd_X8 a ca u8_12)) → va_S (fun q : Nat => s.heap.size ≤ q) s.heap H locs → lv_has ls 4 [(3, .int v3_2), (2, .ref (a 0)), (1, .ref (AA 0 0)), (0, .ref b)] → W p l e room_1 s m #[Value.ref b] below meth c H locs 46 82621 (lw_Z below #[Value.ref b] s) (F0 m 18 ls [])) (v3_2 : Int32) (uf_3 : Ob) (um_4 : Ob) (ut_5 : Ob) (uh_6 : Ob) (ug_7 : Ob) (ur_8 : Ob) (uw_9 : Ob) (ux_10 : Ob) (uy_11 : Ob) (u8_12 : Ob) (h : wpc_1 LN xs LL_1 v3_2 uf_3 um_4 ut_5 uh_6 ug_7 ur_8 uw_9 ux_10 uy_11 u8_12) (H : Heap) (locs : List Loc) (ls : Array Slot) (hK : va_K (dC, dI) vwCl (ty_X7 CA ++ (ty_X8 ca)) s) (hP : va_P (dC, dI) vwCl (wd_X7 AA CA uf_3 um_4 ut_5 uh_6 ug_7 ur_8 uw_9 ux_10 uy_11 ++ (wd_X8 a ca u8_12)) H) (hD : va_D (fun q : Nat => s.heap.size ≤ q) (wd_X7 AA CA uf_3 um_4 ut_5 uh_6 ug_7 ur_8 uw_9 ux_10 uy_11 ++ (wd_X8 a ca u8_12))) (hS : va_S (fun q : Nat => s.heap.size ≤ q) s.heap H locs) (hl : lv_has ls 4 [(3, .int v3_2), (2, .ref (a 0)), (1, .ref (AA 0 0)), (0, .ref b)]) : W p l e room_1 s m #[Value.ref b] below meth c H locs 46 82621 (lw_Z below #[Value.ref b] s) (F0 m 167 ls []) := by
  obtain ⟨hx, hb, hr, hml, hown, hts0, hX, hbl, hlocks, hgv⟩ := C0
  have hts : ∀ w ∈ wsL_law, w.before #[Value.ref b] s = true := fun w h => hts0 w (wsL_law_in w h)
  have hown : s.vm.findClass RL = some m.cls := hown
  have hA : ∀ q : Nat, s.heap.size ≤ q → (fun q : Nat => s.heap.size ≤ q) q := fun _ h => h
  have hbA : ¬ (fun q : Nat => s.heap.size ≤ q) b := Nat.not_le.mpr hbl
  have lk_0 := hts (.constantLong RL 38 4294967295) (by decide +kernel)
  unfold wpc_1 at h
  refine lv_aload_n hx hb dL_law_167 rfl (lv_at hl 2 rfl) ?_
  refine lv_aload_n hx hb dL_law_168 rfl (lv_at hl 3 rfl) ?_
  refine lv_iload_n hx hb dL_law_169 rfl (lv_at hl 0 rfl) ?_
  refine lv_iconst (v := 1) hx hb dL_law_170 (by decide) ?_
  refine lv_iadd hx hb dL_law_171 ?_
  obtain ⟨hi_27, h⟩ := h
  refine va_sld hx hb hX hbl hbA hS hi_27 dL_law_172 ?_
  refine lv_aload_n hx hb dL_law_173 rfl (lv_at hl 3 rfl) ?_
  refine lv_iload_n hx hb dL_law_174 rfl (lv_at hl 0 rfl) ?_
  refine lv_iconst (v := 2) hx hb dL_law_175 (by decide) ?_
  refine lv_iadd hx hb dL_law_176 ?_
  obtain ⟨hi_28, h⟩ := h
  refine va_sld hx hb hX hbl hbA hS hi_28 dL_law_177 ?_
  refine jn1_ind (GG := (fun (w_30 : Int32) => ∀ (H : Heap) (locs : List Loc) (ls : Array Slot), va_P (dC, dI) vwCl (wd_X7 AA CA uf_3 um_4 ut_5 uh_6 ug_7 ur_8 uw_9 ux_10 uy_11 ++ (wd_X8 a ca u8_12)) H → va_D (fun q : Nat => s.heap.size ≤ q) (wd_X7 AA CA uf_3 um_4 ut_5 uh_6 ug_7 ur_8 uw_9 ux_10 uy_11 ++ (wd_X8 a ca u8_12)) → va_S (fun q : Nat => s.heap.size ≤ q) s.heap H locs → lv_has ls 4 [(3, .int v3_2), (2, .ref (a 0)), (1, .ref (AA 0 0)), (0, .ref b)] → W p l e room_1 s m #[Value.ref b] below meth c H locs 46 82621 (lw_Z below #[Value.ref b] s) (F0 m 186 ls [.int w_30, .int (xs (v3_2 + 1).toNatClampNeg), .ref (AA 0 0)]))) h (fun w_30 h H locs ls hP hD hS hl => ?_) (fun JJ_29 ih_JJ_29 h => ?_)
  · have hPc := bk_P1 hP
    have hDc := bk_D1 hD
    have hKc := bk_K1 hK
    have hFc := bk_F hDc hS hA
    refine va_calli (va_runV (As := [.int (xs (v3_2 + 1).toNatClampNeg), .int w_30]) (rest := []) ⟨hx, hb, hml, hown, hts⟩ (c_X7_bag l dC dI AA CA H.size uf_3 um_4 ut_5 uh_6 ug_7 ur_8 uw_9 ux_10 uy_11 (xs (v3_2 + 1).toNatClampNeg) w_30 _ h) (cwV 2 hts gL_law_X7_bag rfl rfl rfl (by decide +kernel) ⟨Nat.le_of_ble_eq_true rfl, Nat.le_of_ble_eq_true rfl⟩) ⟨fun a U g mk q => by obtain ⟨q0, q1, qP, qK, qD⟩ := q; exact ⟨q0, q1, qP, va_K.moved (u := U) (U := U.calling g mk a) (Vm.Alike.refl U.vm) qK, qD⟩, va_recv hKc hPc (ci := 6) (q0 := 0) rfl rfl, fun U hU hW => ⟨rfl, by rw [hU], by rw [hU]; exact hPc, va_K.moved hW.alike hKc, hDc.weaken (fun _ _ _ _ => trivial)⟩⟩ rfl rfl hl.1 rfl (lv_room (Nat.le_of_ble_eq_true rfl)) dL_law_186 ⟨Nat.le_of_ble_eq_true rfl, Nat.le_of_ble_eq_true rfl⟩) hS (fun q _ h => hFc q h) hFc (fun r_31 zz t H1 locs ht hvm hw hB hz1 hk1 hS => ?_)
    obtain ⟨uf_32, um_33, uh_34, ug_35⟩ := zz
    replace h := hw
    obtain ⟨hP1, hD1⟩ := hB
    rw [ht] at hP1
    obtain ⟨hP, hD⟩ := bk_J1 (A1 := (wd_X7 AA CA uf_32 um_33 ut_5 uh_34 ug_35 ur_8 uw_9 ux_10 uy_11)) hP hD hk1 hFc hP1 hD1
    generalize H1 = H at hP hS ⊢
    refine lv_aload_n hx hb dL_law_189 rfl (lv_at hl 1 rfl) ?_
    refine lv_aload_n hx hb dL_law_190 rfl (lv_at hl 3 rfl) ?_
    refine lv_iload_n hx hb dL_law_191 rfl (lv_at hl 0 rfl) ?_
    refine lv_iconst (v := 1) hx hb dL_law_192 (by decide) ?_
    refine lv_iadd hx hb dL_law_193 ?_
    obtain ⟨hi_36, h⟩ := h
    refine va_sld hx hb hX hbl hbA hS hi_36 dL_law_194 ?_
    refine lv_aload_n hx hb dL_law_195 rfl (lv_at hl 3 rfl) ?_
    refine lv_iload_n hx hb dL_law_196 rfl (lv_at hl 0 rfl) ?_
    refine lv_iconst (v := 2) hx hb dL_law_197 (by decide) ?_
    refine lv_iadd hx hb dL_law_198 ?_
    obtain ⟨hi_37, h⟩ := h
    refine va_sld hx hb hX hbl hbA hS hi_37 dL_law_199 ?_
    refine jn1_ind (GG := (fun (w_39 : Int32) => ∀ (H : Heap) (locs : List Loc) (ls : Array Slot), va_P (dC, dI) vwCl (wd_X7 AA CA uf_32 um_33 ut_5 uh_34 ug_35 ur_8 uw_9 ux_10 uy_11 ++ (wd_X8 a ca u8_12)) H → va_D (fun q : Nat => s.heap.size ≤ q) (wd_X7 AA CA uf_32 um_33 ut_5 uh_34 ug_35 ur_8 uw_9 ux_10 uy_11 ++ (wd_X8 a ca u8_12)) → va_S (fun q : Nat => s.heap.size ≤ q) s.heap H locs → lv_has ls 4 [(3, .int v3_2), (2, .ref (a 0)), (1, .ref (AA 0 0)), (0, .ref b)] → W p l e room_1 s m #[Value.ref b] below meth c H locs 46 82621 (lw_Z below #[Value.ref b] s) (F0 m 208 ls [.int w_39, .int (xs (v3_2 + 1).toNatClampNeg), .ref (a 0), .int r_31]))) h (fun w_39 h H locs ls hP hD hS hl => ?_) (fun JJ_38 ih_JJ_38 h => ?_)
    · have hPc := bk_P2 hP
      have hDc := bk_D2 hD
      have hKc := bk_K2 hK
      have hFc := bk_F hDc hS hA
      refine va_calli (va_runV (As := [.int (xs (v3_2 + 1).toNatClampNeg), .int w_39]) (rest := [.int r_31]) ⟨hx, hb, hml, hown, hts⟩ (c_X8_bag l dC dI a ca H.size u8_12 (xs (v3_2 + 1).toNatClampNeg) w_39 _ h) (cwV 2 hts gL_law_X8_bag rfl rfl rfl (by decide +kernel) ⟨Nat.le_of_ble_eq_true rfl, Nat.le_of_ble_eq_true rfl⟩) ⟨fun a U g mk q => by obtain ⟨q0, q1, qP, qK, qD⟩ := q; exact ⟨q0, q1, qP, va_K.moved (u := U) (U := U.calling g mk a) (Vm.Alike.refl U.vm) qK, qD⟩, va_recv hKc hPc (ci := 7) (q0 := 0) rfl rfl, fun U hU hW => ⟨rfl, by rw [hU], by rw [hU]; exact hPc, va_K.moved hW.alike hKc, hDc.weaken (fun _ _ _ _ => trivial)⟩⟩ rfl rfl hl.1 rfl (lv_room (Nat.le_of_ble_eq_true rfl)) dL_law_208 ⟨Nat.le_of_ble_eq_true rfl, Nat.le_of_ble_eq_true rfl⟩) hS (fun q _ h => hFc q h) hFc (fun r_40 zz t H1 locs ht hvm hw hB hz1 hk1 hS => ?_)
      obtain ⟨u8_41, rfl⟩ : ∃ z, z = zz := ⟨_, rfl⟩
      replace h := hw
      obtain ⟨hP1, hD1⟩ := hB
      rw [ht] at hP1
      obtain ⟨hP, hD⟩ := bk_J2 (B1 := (wd_X8 a ca u8_41)) hP hD hk1 hFc hP1 hD1
      generalize H1 = H at hP hS ⊢
      refine lv_icmp_eq (tgt := 892) hx hb dL_law_211 (by decide) (fun hc_42 => ?_) (fun hc_42 => ?_)
      · replace h := h.1 hc_42
        refine lv_iinc (v := (v3_2 + 6)) (lv' := [(3, .int (v3_2 + 6)), (2, .ref (a 0)), (1, .ref (AA 0 0)), (0, .ref b)]) hx hb dL_law_892 hl (k := 0) rfl rfl (by decide) rfl (fun ls hl => ?_)
        refine lv_goto (tgt := 18) hx hb dL_law_895 (by decide) ?_
        exact ih_LL_1 _ _ _ _ _ _ _ _ _ _ _ h _ _ _ hP hD hS (lv_sub hl [0, 1, 2, 3] rfl)
      · replace h := h.2 hc_42
        refine lv_iconst (v := 0) hx hb dL_law_214 (by decide) ?_
        exact h.elim
    · refine lv_if_eq (tgt := 207) hx hb dL_law_200 (by decide) (fun hc_43 => ?_) (fun hc_43 => ?_)
      · replace h := h.1 hc_43
        refine lv_iconst (v := 0) hx hb dL_law_207 (by decide) ?_
        exact ih_JJ_38 _ h _ _ _ hP hD hS (lv_sub hl [0, 1, 2, 3] rfl)
      · replace h := h.2 hc_43
        refine lv_iconst (v := 1) hx hb dL_law_203 (by decide) ?_
        refine lv_goto (tgt := 208) hx hb dL_law_204 (by decide) ?_
        exact ih_JJ_38 _ h _ _ _ hP hD hS (lv_sub hl [0, 1, 2, 3] rfl)
  · refine lv_if_eq (tgt := 185) hx hb dL_law_178 (by decide) (fun hc_44 => ?_) (fun hc_44 => ?_)
    · replace h := h.1 hc_44
      refine lv_iconst (v := 0) hx hb dL_law_185 (by decide) ?_
      exact ih_JJ_29 _ h _ _ _ hP hD hS (lv_sub hl [0, 1, 2, 3] rfl)
    · replace h := h.2 hc_44
      refine lv_iconst (v := 1) hx hb dL_law_181 (by decide) ?_
      refine lv_goto (tgt := 186) hx hb dL_law_182 (by decide) ?_
      exact ih_JJ_29 _ h _ _ _ hP hD hS (lv_sub hl [0, 1, 2, 3] rfl)
def wpc_2 (LN : Nat) (xs : Nat → Int32) (LL_1 : Int32 → Ob → Ob → Ob → Ob → Ob → Ob → Ob → Ob → Ob → Ob → Prop) (v3_2 : Int32) (uf_3 : Ob) (um_4 : Ob) (ut_5 : Ob) (uh_6 : Ob) (ug_7 : Ob) (ur_8 : Ob) (uw_9 : Ob) (ux_10 : Ob) (uy_11 : Ob) (u8_12 : Ob) : Prop :=
            vp_in (v3_2 + 1) LN ∧
            vp_in (v3_2 + 2) LN ∧
            vp_in (v3_2 + 3) LN ∧
            vp_in (v3_2 + 4) LN ∧
            vp_in (v3_2 + 5) LN ∧
            wp_X7_arc uf_3 um_4 uh_6 (xs (v3_2 + 1).toNatClampNeg) (xs (v3_2 + 2).toNatClampNeg) (xs (v3_2 + 3).toNatClampNeg) (xs (v3_2 + 4).toNatClampNeg) (xs (v3_2 + 5).toNatClampNeg) (fun (r_51 : Int32) (uf_52 : Ob) (um_53 : Ob) (uh_54 : Ob) =>
            vp_in (v3_2 + 1) LN ∧
            vp_in (v3_2 + 2) LN ∧
            vp_in (v3_2 + 3) LN ∧
            vp_in (v3_2 + 4) LN ∧
            vp_in (v3_2 + 5) LN ∧
            wp_X8_arc u8_12 (xs (v3_2 + 1).toNatClampNeg) (xs (v3_2 + 2).toNatClampNeg) (xs (v3_2 + 3).toNatClampNeg) (xs (v3_2 + 4).toNatClampNeg) (xs (v3_2 + 5).toNatClampNeg) (fun (r_60 : Int32) (u8_61 : Ob) =>
            ((r_51 = r_60) →
              LL_1 (v3_2 + 6) uf_52 um_53 ut_5 uh_54 ug_7 ur_8 uw_9 ux_10 uy_11 u8_61) ∧ ((¬ r_51 = r_60) →
              False)))
set_option maxHeartbeats 4000000 in
set_option maxRecDepth 100000 in
theorem lc_2 {p : Program} {l : Launch} {e : Env} {s : State} {m : MethodId} {below : List Frame} {meth : Method} {c : Code} {dC : Nat → ClassId} {dI : Nat → Nat → Nat} {b LN : Nat} {xs : Nat → Int32} (C0 : lw_At p s m meth c b LN xs) (hN : nw_ok s) (AA : Nat → Nat → Nat) (CA : Nat → Nat → ClassId) (a : Nat → Nat) (ca : Nat → ClassId) (LL_1 : Int32 → Ob → Ob → Ob → Ob → Ob → Ob → Ob → Ob → Ob → Ob → Prop) (ih_LL_1 : ∀ (v3_2 : Int32) (uf_3 : Ob) (um_4 : Ob) (ut_5 : Ob) (uh_6 : Ob) (ug_7 : Ob) (ur_8 : Ob) (uw_9 : Ob) (ux_10 : Ob) (uy_11 : Ob) (u8_12 : Ob), LL_1 v3_2 uf_3 um_4 ut_5 uh_6 ug_7 ur_8 uw_9 ux_10 uy_11 u8_12 → ∀ (H : Heap) (locs : List Loc) (ls : Array Slot), va_P (dC, dI) vwCl (wd_X7 AA CA uf_3 um_4 ut_5 uh_6 ug_7 ur_8 uw_9 ux_10 uy_11 ++ (wd_X8 a ca u8_12)) H → va_D (fun q : Nat => s.heap.size ≤ q) (wd_X7 AA CA uf_3 um_4 ut_5 uh_6 ug_7 ur_8 uw_9 ux_10 uy_11 ++ (wd_X8 a ca u8_12)) → va_S (fun q : Nat => s.heap.size ≤ q) s.heap H locs → lv_has ls 4 [(3, .int v3_2), (2, .ref (a 0)), (1, .ref (AA 0 0)), (0, .ref b)] → W p l e room_1 s m #[Value.ref b] below meth c H locs 46 82621 (lw_Z below #[Value.ref b] s) (F0 m 18 ls [])) (v3_2 : Int32) (uf_3 : Ob) (um_4 : Ob) (ut_5 : Ob) (uh_6 : Ob) (ug_7 : Ob) (ur_8 : Ob) (uw_9 : Ob) (ux_10 : Ob) (uy_11 : Ob) (u8_12 : Ob) (h : wpc_2 LN xs LL_1 v3_2 uf_3 um_4 ut_5 uh_6 ug_7 ur_8 uw_9 ux_10 uy_11 u8_12) (H : Heap) (locs : List Loc) (ls : Array Slot) (hK : va_K (dC, dI) vwCl (ty_X7 CA ++ (ty_X8 ca)) s) (hP : va_P (dC, dI) vwCl (wd_X7 AA CA uf_3 um_4 ut_5 uh_6 ug_7 ur_8 uw_9 ux_10 uy_11 ++ (wd_X8 a ca u8_12)) H) (hD : va_D (fun q : Nat => s.heap.size ≤ q) (wd_X7 AA CA uf_3 um_4 ut_5 uh_6 ug_7 ur_8 uw_9 ux_10 uy_11 ++ (wd_X8 a ca u8_12))) (hS : va_S (fun q : Nat => s.heap.size ≤ q) s.heap H locs) (hl : lv_has ls 4 [(3, .int v3_2), (2, .ref (a 0)), (1, .ref (AA 0 0)), (0, .ref b)]) : W p l e room_1 s m #[Value.ref b] below meth c H locs 46 82621 (lw_Z below #[Value.ref b] s) (F0 m 216 ls []) := by
  obtain ⟨hx, hb, hr, hml, hown, hts0, hX, hbl, hlocks, hgv⟩ := C0
  have hts : ∀ w ∈ wsL_law, w.before #[Value.ref b] s = true := fun w h => hts0 w (wsL_law_in w h)
  have hown : s.vm.findClass RL = some m.cls := hown
  have hA : ∀ q : Nat, s.heap.size ≤ q → (fun q : Nat => s.heap.size ≤ q) q := fun _ h => h
  have hbA : ¬ (fun q : Nat => s.heap.size ≤ q) b := Nat.not_le.mpr hbl
  have lk_0 := hts (.constantLong RL 38 4294967295) (by decide +kernel)
  unfold wpc_2 at h
  refine lv_aload_n hx hb dL_law_216 rfl (lv_at hl 2 rfl) ?_
  refine lv_aload_n hx hb dL_law_217 rfl (lv_at hl 3 rfl) ?_
  refine lv_iload_n hx hb dL_law_218 rfl (lv_at hl 0 rfl) ?_
  refine lv_iconst (v := 1) hx hb dL_law_219 (by decide) ?_
  refine lv_iadd hx hb dL_law_220 ?_
  obtain ⟨hi_46, h⟩ := h
  refine va_sld hx hb hX hbl hbA hS hi_46 dL_law_221 ?_
  refine lv_aload_n hx hb dL_law_222 rfl (lv_at hl 3 rfl) ?_
  refine lv_iload_n hx hb dL_law_223 rfl (lv_at hl 0 rfl) ?_
  refine lv_iconst (v := 2) hx hb dL_law_224 (by decide) ?_
  refine lv_iadd hx hb dL_law_225 ?_
  obtain ⟨hi_47, h⟩ := h
  refine va_sld hx hb hX hbl hbA hS hi_47 dL_law_226 ?_
  refine lv_aload_n hx hb dL_law_227 rfl (lv_at hl 3 rfl) ?_
  refine lv_iload_n hx hb dL_law_228 rfl (lv_at hl 0 rfl) ?_
  refine lv_iconst (v := 3) hx hb dL_law_229 (by decide) ?_
  refine lv_iadd hx hb dL_law_230 ?_
  obtain ⟨hi_48, h⟩ := h
  refine va_sld hx hb hX hbl hbA hS hi_48 dL_law_231 ?_
  refine lv_aload_n hx hb dL_law_232 rfl (lv_at hl 3 rfl) ?_
  refine lv_iload_n hx hb dL_law_233 rfl (lv_at hl 0 rfl) ?_
  refine lv_iconst (v := 4) hx hb dL_law_234 (by decide) ?_
  refine lv_iadd hx hb dL_law_235 ?_
  obtain ⟨hi_49, h⟩ := h
  refine va_sld hx hb hX hbl hbA hS hi_49 dL_law_236 ?_
  refine lv_aload_n hx hb dL_law_237 rfl (lv_at hl 3 rfl) ?_
  refine lv_iload_n hx hb dL_law_238 rfl (lv_at hl 0 rfl) ?_
  refine lv_iconst (v := 5) hx hb dL_law_239 (by decide) ?_
  refine lv_iadd hx hb dL_law_240 ?_
  obtain ⟨hi_50, h⟩ := h
  refine va_sld hx hb hX hbl hbA hS hi_50 dL_law_241 ?_
  have hPc := bk_P1 hP
  have hDc := bk_D1 hD
  have hKc := bk_K1 hK
  have hFc := bk_F hDc hS hA
  refine va_calli (va_runV (As := [.int (xs (v3_2 + 1).toNatClampNeg), .int (xs (v3_2 + 2).toNatClampNeg), .int (xs (v3_2 + 3).toNatClampNeg), .int (xs (v3_2 + 4).toNatClampNeg), .int (xs (v3_2 + 5).toNatClampNeg)]) (rest := []) ⟨hx, hb, hml, hown, hts⟩ (c_X7_arc l dC dI AA CA H.size uf_3 um_4 ut_5 uh_6 ug_7 ur_8 uw_9 ux_10 uy_11 (xs (v3_2 + 1).toNatClampNeg) (xs (v3_2 + 2).toNatClampNeg) (xs (v3_2 + 3).toNatClampNeg) (xs (v3_2 + 4).toNatClampNeg) (xs (v3_2 + 5).toNatClampNeg) _ h) (cwV 5 hts gL_law_X7_arc rfl rfl rfl (by decide +kernel) ⟨Nat.le_of_ble_eq_true rfl, Nat.le_of_ble_eq_true rfl⟩) ⟨fun a U g mk q => by obtain ⟨q0, q1, qP, qK, qD, qN⟩ := q; exact ⟨q0, q1, qP, va_K.moved (u := U) (U := U.calling g mk a) (Vm.Alike.refl U.vm) qK, qD, qN.call⟩, va_recv hKc hPc (ci := 6) (q0 := 0) rfl rfl, fun U hU hW => ⟨rfl, by rw [hU], by rw [hU]; exact hPc, va_K.moved hW.alike hKc, hDc.weaken (fun _ _ _ _ => trivial), hN.warm hW⟩⟩ rfl rfl hl.1 rfl (lv_room (Nat.le_of_ble_eq_true rfl)) dL_law_242 ⟨Nat.le_of_ble_eq_true rfl, Nat.le_of_ble_eq_true rfl⟩) hS (fun q _ h => hFc q h) hFc (fun r_51 zz t H1 locs ht hvm hw hB hz1 hk1 hS => ?_)
  obtain ⟨uf_52, um_53, uh_54⟩ := zz
  replace h := hw
  obtain ⟨hP1, hD1⟩ := hB
  rw [ht] at hP1
  obtain ⟨hP, hD⟩ := bk_J1 (A1 := (wd_X7 AA CA uf_52 um_53 ut_5 uh_54 ug_7 ur_8 uw_9 ux_10 uy_11)) hP hD hk1 hFc hP1 hD1
  generalize H1 = H at hP hS ⊢
  refine lv_aload_n hx hb dL_law_245 rfl (lv_at hl 1 rfl) ?_
  refine lv_aload_n hx hb dL_law_246 rfl (lv_at hl 3 rfl) ?_
  refine lv_iload_n hx hb dL_law_247 rfl (lv_at hl 0 rfl) ?_
  refine lv_iconst (v := 1) hx hb dL_law_248 (by decide) ?_
  refine lv_iadd hx hb dL_law_249 ?_
  obtain ⟨hi_55, h⟩ := h
  refine va_sld hx hb hX hbl hbA hS hi_55 dL_law_250 ?_
  refine lv_aload_n hx hb dL_law_251 rfl (lv_at hl 3 rfl) ?_
  refine lv_iload_n hx hb dL_law_252 rfl (lv_at hl 0 rfl) ?_
  refine lv_iconst (v := 2) hx hb dL_law_253 (by decide) ?_
  refine lv_iadd hx hb dL_law_254 ?_
  obtain ⟨hi_56, h⟩ := h
  refine va_sld hx hb hX hbl hbA hS hi_56 dL_law_255 ?_
  refine lv_aload_n hx hb dL_law_256 rfl (lv_at hl 3 rfl) ?_
  refine lv_iload_n hx hb dL_law_257 rfl (lv_at hl 0 rfl) ?_
  refine lv_iconst (v := 3) hx hb dL_law_258 (by decide) ?_
  refine lv_iadd hx hb dL_law_259 ?_
  obtain ⟨hi_57, h⟩ := h
  refine va_sld hx hb hX hbl hbA hS hi_57 dL_law_260 ?_
  refine lv_aload_n hx hb dL_law_261 rfl (lv_at hl 3 rfl) ?_
  refine lv_iload_n hx hb dL_law_262 rfl (lv_at hl 0 rfl) ?_
  refine lv_iconst (v := 4) hx hb dL_law_263 (by decide) ?_
  refine lv_iadd hx hb dL_law_264 ?_
  obtain ⟨hi_58, h⟩ := h
  refine va_sld hx hb hX hbl hbA hS hi_58 dL_law_265 ?_
  refine lv_aload_n hx hb dL_law_266 rfl (lv_at hl 3 rfl) ?_
  refine lv_iload_n hx hb dL_law_267 rfl (lv_at hl 0 rfl) ?_
  refine lv_iconst (v := 5) hx hb dL_law_268 (by decide) ?_
  refine lv_iadd hx hb dL_law_269 ?_
  obtain ⟨hi_59, h⟩ := h
  refine va_sld hx hb hX hbl hbA hS hi_59 dL_law_270 ?_
  have hPc := bk_P2 hP
  have hDc := bk_D2 hD
  have hKc := bk_K2 hK
  have hFc := bk_F hDc hS hA
  refine va_calli (va_runV (As := [.int (xs (v3_2 + 1).toNatClampNeg), .int (xs (v3_2 + 2).toNatClampNeg), .int (xs (v3_2 + 3).toNatClampNeg), .int (xs (v3_2 + 4).toNatClampNeg), .int (xs (v3_2 + 5).toNatClampNeg)]) (rest := [.int r_51]) ⟨hx, hb, hml, hown, hts⟩ (c_X8_arc l dC dI a ca H.size u8_12 (xs (v3_2 + 1).toNatClampNeg) (xs (v3_2 + 2).toNatClampNeg) (xs (v3_2 + 3).toNatClampNeg) (xs (v3_2 + 4).toNatClampNeg) (xs (v3_2 + 5).toNatClampNeg) _ h) (cwV 5 hts gL_law_X8_arc rfl rfl rfl (by decide +kernel) ⟨Nat.le_of_ble_eq_true rfl, Nat.le_of_ble_eq_true rfl⟩) ⟨fun a U g mk q => by obtain ⟨q0, q1, qP, qK, qD⟩ := q; exact ⟨q0, q1, qP, va_K.moved (u := U) (U := U.calling g mk a) (Vm.Alike.refl U.vm) qK, qD⟩, va_recv hKc hPc (ci := 7) (q0 := 0) rfl rfl, fun U hU hW => ⟨rfl, by rw [hU], by rw [hU]; exact hPc, va_K.moved hW.alike hKc, hDc.weaken (fun _ _ _ _ => trivial)⟩⟩ rfl rfl hl.1 rfl (lv_room (Nat.le_of_ble_eq_true rfl)) dL_law_271 ⟨Nat.le_of_ble_eq_true rfl, Nat.le_of_ble_eq_true rfl⟩) hS (fun q _ h => hFc q h) hFc (fun r_60 zz t H1 locs ht hvm hw hB hz1 hk1 hS => ?_)
  obtain ⟨u8_61, rfl⟩ : ∃ z, z = zz := ⟨_, rfl⟩
  replace h := hw
  obtain ⟨hP1, hD1⟩ := hB
  rw [ht] at hP1
  obtain ⟨hP, hD⟩ := bk_J2 (B1 := (wd_X8 a ca u8_61)) hP hD hk1 hFc hP1 hD1
  generalize H1 = H at hP hS ⊢
  refine lv_icmp_eq (tgt := 892) hx hb dL_law_274 (by decide) (fun hc_62 => ?_) (fun hc_62 => ?_)
  · replace h := h.1 hc_62
    refine lv_iinc (v := (v3_2 + 6)) (lv' := [(3, .int (v3_2 + 6)), (2, .ref (a 0)), (1, .ref (AA 0 0)), (0, .ref b)]) hx hb dL_law_892 hl (k := 0) rfl rfl (by decide) rfl (fun ls hl => ?_)
    refine lv_goto (tgt := 18) hx hb dL_law_895 (by decide) ?_
    exact ih_LL_1 _ _ _ _ _ _ _ _ _ _ _ h _ _ _ hP hD hS (lv_sub hl [0, 1, 2, 3] rfl)
  · replace h := h.2 hc_62
    refine lv_iconst (v := 0) hx hb dL_law_277 (by decide) ?_
    exact h.elim
