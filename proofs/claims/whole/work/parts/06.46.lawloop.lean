set_option maxHeartbeats 40000000 in
set_option maxRecDepth 100000 in
theorem law_loop {p : Program} {l : Launch} {e : Env} {s : State} {m : MethodId} {below : List Frame} {meth : Method} {c : Code} {dC : Nat → ClassId} {dI : Nat → Nat → Nat} {b LN : Nat} {xs : Nat → Int32} (C0 : lw_At p s m meth c b LN xs) (hN : nw_ok s) (AA : Nat → Nat → Nat) (CA : Nat → Nat → ClassId) (a : Nat → Nat) (ca : Nat → ClassId) (uf : Ob) (um : Ob) (ut : Ob) (uh : Ob) (ug : Ob) (ur : Ob) (uw : Ob) (ux : Ob) (uy : Ob) (u8 : Ob) (h : wp_law LN xs uf um ut uh ug ur uw ux uy u8) (H : Heap) (locs : List Loc) (ls : Array Slot) (hK : va_K (dC, dI) vwCl (ty_X7 CA ++ (ty_X8 ca)) s) (hP : va_P (dC, dI) vwCl (wd_X7 AA CA uf um ut uh ug ur uw ux uy ++ (wd_X8 a ca u8)) H) (hD : va_D (fun q : Nat => s.heap.size ≤ q) (wd_X7 AA CA uf um ut uh ug ur uw ux uy ++ (wd_X8 a ca u8))) (hS : va_S (fun q : Nat => s.heap.size ≤ q) s.heap H locs) (hl : lv_has ls 4 [(2, .ref (a 0)), (1, .ref (AA 0 0)), (0, .ref b)]) : W p l e room_1 s m #[Value.ref b] below meth c H locs 46 82621 (lw_Z below #[Value.ref b] s) (F0 m 16 ls []) := by
  obtain ⟨hx, hb, hr, hml, hown, hts0, hX, hbl, hlocks, hgv⟩ := C0
  have hts : ∀ w ∈ wsL_law, w.before #[Value.ref b] s = true := fun w h => hts0 w (wsL_law_in w h)
  have hown : s.vm.findClass RL = some m.cls := hown
  have hA : ∀ q : Nat, s.heap.size ≤ q → (fun q : Nat => s.heap.size ≤ q) q := fun _ h => h
  have hbA : ¬ (fun q : Nat => s.heap.size ≤ q) b := Nat.not_le.mpr hbl
  have lk_0 := hts (.constantLong RL 38 4294967295) (by decide +kernel)
  unfold wp_law at h
  refine lv_iconst (v := 0) hx hb dL_law_16 (by decide) ?_
  refine lv_istore_n (lv' := [(3, .int 0), (2, .ref (a 0)), (1, .ref (AA 0 0)), (0, .ref b)]) hx hb dL_law_17 rfl hl (by decide) rfl (fun ls hl => ?_)
  obtain ⟨n_267, h⟩ := h
  refine lq11_ind (GG := (fun (v3_2 : Int32) (uf_3 : Ob) (um_4 : Ob) (ut_5 : Ob) (uh_6 : Ob) (ug_7 : Ob) (ur_8 : Ob) (uw_9 : Ob) (ux_10 : Ob) (uy_11 : Ob) (u8_12 : Ob) => ∀ (H : Heap) (locs : List Loc) (ls : Array Slot), va_P (dC, dI) vwCl (wd_X7 AA CA uf_3 um_4 ut_5 uh_6 ug_7 ur_8 uw_9 ux_10 uy_11 ++ (wd_X8 a ca u8_12)) H → va_D (fun q : Nat => s.heap.size ≤ q) (wd_X7 AA CA uf_3 um_4 ut_5 uh_6 ug_7 ur_8 uw_9 ux_10 uy_11 ++ (wd_X8 a ca u8_12)) → va_S (fun q : Nat => s.heap.size ≤ q) s.heap H locs → lv_has ls 4 [(3, .int v3_2), (2, .ref (a 0)), (1, .ref (AA 0 0)), (0, .ref b)] → W p l e room_1 s m #[Value.ref b] below meth c H locs 46 82621 (lw_Z below #[Value.ref b] s) (F0 m 18 ls []))) (fun LL_1 ih_LL_1 v3_2 uf_3 um_4 ut_5 uh_6 ug_7 ur_8 uw_9 ux_10 uy_11 u8_12 h H locs ls hP hD hS hl => ?_) n_267 _ _ _ _ _ _ _ _ _ _ _ h _ _ _ hP hD hS (lv_sub hl [0, 1, 2, 3] rfl)
  refine lv_iload_n hx hb dL_law_18 rfl (lv_at hl 0 rfl) ?_
  refine lv_aload_n hx hb dL_law_19 rfl (lv_at hl 3 rfl) ?_
  refine va_slen hx hb hX hbl hbA hS dL_law_20 ?_
  refine lv_bipush (v := 6) hx hb dL_law_21 (by decide) ?_
  refine lv_isub hx hb dL_law_23 ?_
  refine lv_icmp_gt (tgt := 898) hx hb dL_law_24 (by decide) (fun hc_13 => ?_) (fun hc_13 => ?_)
  · replace h := h.1 hc_13
    refine lv_iconst (v := 1) hx hb dL_law_898 (by decide) ?_
    refine va_forget (fun q hq => hS.2.2 q hq) ?_
    refine W.widen (k := 600000) (n := 7302250) (Nat.le_of_ble_eq_true rfl) (Nat.le_of_ble_eq_true rfl) ?_
    exact lw_ret hx hb hr hlocks dL_law_899
  · replace h := h.2 hc_13
    refine lv_aload_n hx hb dL_law_27 rfl (lv_at hl 3 rfl) ?_
    refine lv_iload_n hx hb dL_law_28 rfl (lv_at hl 0 rfl) ?_
    obtain ⟨hi_14, h⟩ := h
    refine va_sld hx hb hX hbl hbA hS hi_14 dL_law_29 ?_
    refine lv_bipush (v := 31) hx hb dL_law_30 (by decide) ?_
    refine lv_iand hx hb dL_law_32 ?_
    by_cases hs_15 : ((xs v3_2.toNatClampNeg) &&& 31) = 0
    · replace h := h.1 hs_15
      refine lv_tableIn (tgt := 144) hx hb dL_law_33 (by rw [hs_15]; decide) (by rw [hs_15]; decide) (by rw [hs_15]; rfl) (by decide) ?_
      refine lv_aload_n hx hb dL_law_144 rfl (lv_at hl 2 rfl) ?_
      refine lv_aload_n hx hb dL_law_145 rfl (lv_at hl 3 rfl) ?_
      refine lv_iload_n hx hb dL_law_146 rfl (lv_at hl 0 rfl) ?_
      refine lv_iconst (v := 1) hx hb dL_law_147 (by decide) ?_
      refine lv_iadd hx hb dL_law_148 ?_
      obtain ⟨hi_16, h⟩ := h
      refine va_sld hx hb hX hbl hbA hS hi_16 dL_law_149 ?_
      have hPc := hP.sub (ws' := (wd_X7 AA CA uf_3 um_4 ut_5 uh_6 ug_7 ur_8 uw_9 ux_10 uy_11)) [0, 1, 2, 3, 4, 5, 6, 7, 8, 9, 10, 11, 12, 13, 14, 15, 16, 17, 18, 19, 20, 21, 22, 23, 24, 25] rfl
      have hDc := hD.sub (ws' := (wd_X7 AA CA uf_3 um_4 ut_5 uh_6 ug_7 ur_8 uw_9 ux_10 uy_11)) [0, 1, 2, 3, 4, 5, 6, 7, 8, 9, 10, 11, 12, 13, 14, 15, 16, 17, 18, 19, 20, 21, 22, 23, 24, 25] (by decide) rfl
      have hKc := hK.sub (tys' := (ty_X7 CA)) [0, 1, 2, 3, 4, 5, 6, 7, 8, 9, 10, 11, 12, 13, 14, 15, 16] rfl
      have hFc := va_free (wc := (wd_X7 AA CA uf_3 um_4 ut_5 uh_6 ug_7 ur_8 uw_9 ux_10 uy_11)) hD hS hA [0, 1, 2, 3, 4, 5, 6, 7, 8, 9, 10, 11, 12, 13, 14, 15, 16, 17, 18, 19, 20, 21, 22, 23, 24, 25] rfl
      refine va_calli (va_runV (As := [.int (xs (v3_2 + 1).toNatClampNeg)]) (rest := []) ⟨hx, hb, hml, hown, hts⟩ (c_X7_states l dC dI AA CA H.size uf_3 um_4 ut_5 uh_6 ug_7 ur_8 uw_9 ux_10 uy_11 (xs (v3_2 + 1).toNatClampNeg) _ h) (cwV 1 hts gL_law_X7_states rfl rfl rfl (by decide +kernel) ⟨Nat.le_of_ble_eq_true rfl, Nat.le_of_ble_eq_true rfl⟩) ⟨fun a U g mk q => by obtain ⟨q0, q1, qP, qK, qD⟩ := q; exact ⟨q0, q1, qP, va_K.moved (u := U) (U := U.calling g mk a) (Vm.Alike.refl U.vm) qK, qD⟩, va_recv hKc hPc (ci := 6) (q0 := 0) rfl rfl, fun U hU hW => ⟨rfl, by rw [hU], by rw [hU]; exact hPc, va_K.moved hW.alike hKc, hDc.weaken (fun _ _ _ _ => trivial)⟩⟩ rfl rfl hl.1 rfl (lv_room (Nat.le_of_ble_eq_true rfl)) dL_law_150 ⟨Nat.le_of_ble_eq_true rfl, Nat.le_of_ble_eq_true rfl⟩) hS (fun q _ h => hFc q h) hFc (fun r_17 zz t H1 locs ht hvm hw hB hz1 hk1 hS => ?_)
      obtain ⟨uf_18, um_19, uh_20, ug_21⟩ := zz
      replace h := hw
      obtain ⟨hP1, hD1⟩ := hB
      rw [ht] at hP1
      obtain ⟨hP, hD⟩ := va_join (wr := [26, 27, 28, 29, 30, 31, 32, 33, 34, 35, 36, 37, 38, 39, 40, 41, 42, 43, 44, 45].filterMap (fun i => (wd_X7 AA CA uf_3 um_4 ut_5 uh_6 ug_7 ur_8 uw_9 ux_10 uy_11 ++ (wd_X8 a ca u8_12))[i]?)) (w1 := (wd_X7 AA CA uf_18 um_19 ut_5 uh_20 ug_21 ur_8 uw_9 ux_10 uy_11)) hP hD [0, 1, 2, 3, 4, 5, 6, 7, 8, 9, 10, 11, 12, 13, 14, 15, 16, 17, 18, 19, 20, 21, 22, 23, 24, 25] [26, 27, 28, 29, 30, 31, 32, 33, 34, 35, 36, 37, 38, 39, 40, 41, 42, 43, 44, 45] rfl rfl (by decide) (by decide) hk1 hFc hP1 hD1
      replace hP : va_P (dC, dI) vwCl (wd_X7 AA CA uf_18 um_19 ut_5 uh_20 ug_21 ur_8 uw_9 ux_10 uy_11 ++ (wd_X8 a ca u8_12)) H1 := (hP.sub [20, 21, 22, 23, 24, 25, 26, 27, 28, 29, 30, 31, 32, 33, 34, 35, 36, 37, 38, 39, 40, 41, 42, 43, 44, 45, 0, 1, 2, 3, 4, 5, 6, 7, 8, 9, 10, 11, 12, 13, 14, 15, 16, 17, 18, 19] rfl)
      replace hD : va_D (fun q : Nat => s.heap.size ≤ q) (wd_X7 AA CA uf_18 um_19 ut_5 uh_20 ug_21 ur_8 uw_9 ux_10 uy_11 ++ (wd_X8 a ca u8_12)) := (hD.sub [20, 21, 22, 23, 24, 25, 26, 27, 28, 29, 30, 31, 32, 33, 34, 35, 36, 37, 38, 39, 40, 41, 42, 43, 44, 45, 0, 1, 2, 3, 4, 5, 6, 7, 8, 9, 10, 11, 12, 13, 14, 15, 16, 17, 18, 19] (by decide) rfl)
      generalize H1 = H at hP hS ⊢
      refine lv_aload_n hx hb dL_law_153 rfl (lv_at hl 1 rfl) ?_
      refine lv_aload_n hx hb dL_law_154 rfl (lv_at hl 3 rfl) ?_
      refine lv_iload_n hx hb dL_law_155 rfl (lv_at hl 0 rfl) ?_
      refine lv_iconst (v := 1) hx hb dL_law_156 (by decide) ?_
      refine lv_iadd hx hb dL_law_157 ?_
      obtain ⟨hi_22, h⟩ := h
      refine va_sld hx hb hX hbl hbA hS hi_22 dL_law_158 ?_
      have hPc := hP.sub (ws' := (wd_X8 a ca u8_12)) [26, 27, 28, 29, 30, 31, 32, 33, 34, 35, 36, 37, 38, 39, 40, 41, 42, 43, 44, 45] rfl
      have hDc := hD.sub (ws' := (wd_X8 a ca u8_12)) [26, 27, 28, 29, 30, 31, 32, 33, 34, 35, 36, 37, 38, 39, 40, 41, 42, 43, 44, 45] (by decide) rfl
      have hKc := hK.sub (tys' := (ty_X8 ca)) [17, 18, 19, 20, 21, 22, 23, 24, 25, 26, 27, 28, 29, 30, 31, 32, 33, 34, 35] rfl
      have hFc := va_free (wc := (wd_X8 a ca u8_12)) hD hS hA [26, 27, 28, 29, 30, 31, 32, 33, 34, 35, 36, 37, 38, 39, 40, 41, 42, 43, 44, 45] rfl
      refine va_calli (va_runV (As := [.int (xs (v3_2 + 1).toNatClampNeg)]) (rest := [.int r_17]) ⟨hx, hb, hml, hown, hts⟩ (c_X8_states l dC dI a ca H.size u8_12 (xs (v3_2 + 1).toNatClampNeg) _ h) (cwV 1 hts gL_law_X8_states rfl rfl rfl (by decide +kernel) ⟨Nat.le_of_ble_eq_true rfl, Nat.le_of_ble_eq_true rfl⟩) ⟨fun a U g mk q => by obtain ⟨q0, q1, qP, qK, qD⟩ := q; exact ⟨q0, q1, qP, va_K.moved (u := U) (U := U.calling g mk a) (Vm.Alike.refl U.vm) qK, qD⟩, va_recv hKc hPc (ci := 7) (q0 := 0) rfl rfl, fun U hU hW => ⟨rfl, by rw [hU], by rw [hU]; exact hPc, va_K.moved hW.alike hKc, hDc.weaken (fun _ _ _ _ => trivial)⟩⟩ rfl rfl hl.1 rfl (lv_room (Nat.le_of_ble_eq_true rfl)) dL_law_159 ⟨Nat.le_of_ble_eq_true rfl, Nat.le_of_ble_eq_true rfl⟩) hS (fun q _ h => hFc q h) hFc (fun r_23 zz t H1 locs ht hvm hw hB hz1 hk1 hS => ?_)
      obtain ⟨u8_24, rfl⟩ : ∃ z, z = zz := ⟨_, rfl⟩
      replace h := hw
      obtain ⟨hP1, hD1⟩ := hB
      rw [ht] at hP1
      obtain ⟨hP, hD⟩ := va_join (wr := [0, 1, 2, 3, 4, 5, 6, 7, 8, 9, 10, 11, 12, 13, 14, 15, 16, 17, 18, 19, 20, 21, 22, 23, 24, 25].filterMap (fun i => (wd_X7 AA CA uf_18 um_19 ut_5 uh_20 ug_21 ur_8 uw_9 ux_10 uy_11 ++ (wd_X8 a ca u8_12))[i]?)) (w1 := (wd_X8 a ca u8_24)) hP hD [26, 27, 28, 29, 30, 31, 32, 33, 34, 35, 36, 37, 38, 39, 40, 41, 42, 43, 44, 45] [0, 1, 2, 3, 4, 5, 6, 7, 8, 9, 10, 11, 12, 13, 14, 15, 16, 17, 18, 19, 20, 21, 22, 23, 24, 25] rfl rfl (by decide) (by decide) hk1 hFc hP1 hD1
      replace hP : va_P (dC, dI) vwCl (wd_X7 AA CA uf_18 um_19 ut_5 uh_20 ug_21 ur_8 uw_9 ux_10 uy_11 ++ (wd_X8 a ca u8_24)) H1 := (hP.sub [0, 1, 2, 3, 4, 5, 6, 7, 8, 9, 10, 11, 12, 13, 14, 15, 16, 17, 18, 19, 20, 21, 22, 23, 24, 25, 26, 27, 28, 29, 30, 31, 32, 33, 34, 35, 36, 37, 38, 39, 40, 41, 42, 43, 44, 45] rfl)
      replace hD : va_D (fun q : Nat => s.heap.size ≤ q) (wd_X7 AA CA uf_18 um_19 ut_5 uh_20 ug_21 ur_8 uw_9 ux_10 uy_11 ++ (wd_X8 a ca u8_24)) := (hD.sub [0, 1, 2, 3, 4, 5, 6, 7, 8, 9, 10, 11, 12, 13, 14, 15, 16, 17, 18, 19, 20, 21, 22, 23, 24, 25, 26, 27, 28, 29, 30, 31, 32, 33, 34, 35, 36, 37, 38, 39, 40, 41, 42, 43, 44, 45] (by decide) rfl)
      generalize H1 = H at hP hS ⊢
      refine lv_icmp_eq (tgt := 892) hx hb dL_law_162 (by decide) (fun hc_25 => ?_) (fun hc_25 => ?_)
      · replace h := h.1 hc_25
        refine lv_iinc (v := (v3_2 + 6)) (lv' := [(3, .int (v3_2 + 6)), (2, .ref (a 0)), (1, .ref (AA 0 0)), (0, .ref b)]) hx hb dL_law_892 hl (k := 0) rfl rfl (by decide) rfl (fun ls hl => ?_)
        refine lv_goto (tgt := 18) hx hb dL_law_895 (by decide) ?_
        exact ih_LL_1 _ _ _ _ _ _ _ _ _ _ _ h _ _ _ hP hD hS (lv_sub hl [0, 1, 2, 3] rfl)
      · replace h := h.2 hc_25
        refine lv_iconst (v := 0) hx hb dL_law_165 (by decide) ?_
        exact h.elim
    · replace h := h.2 hs_15
      by_cases hs_26 : ((xs v3_2.toNatClampNeg) &&& 31) = 1
      · replace h := h.1 hs_26
        refine lv_tableIn (tgt := 167) hx hb dL_law_33 (by rw [hs_26]; decide) (by rw [hs_26]; decide) (by rw [hs_26]; rfl) (by decide) ?_
        refine lv_aload_n hx hb dL_law_167 rfl (lv_at hl 2 rfl) ?_
        refine lv_aload_n hx hb dL_law_168 rfl (lv_at hl 3 rfl) ?_
        refine lv_iload_n hx hb dL_law_169 rfl (lv_at hl 0 rfl) ?_
        refine lv_iconst (v := 1) hx hb dL_law_170 (by decide) ?_
        refine lv_iadd hx hb dL_law_171 ?_
        obtain ⟨hi_27, h⟩ := h
        refine va_sld hx hb hX hbl hbA hS hi_27 dL_law_172 ?_
        refine lv_aload_n hx hb dL_law_173 rfl (lv_at hl 3 rfl) ?_
        refine lv_iload_n hx hb dL_law_174 rfl (lv_at hl 0 rfl) ?_
        refine lv_iconst (v := 2) hx hb dL_law_175 (by decide) ?_
        refine lv_iadd hx hb dL_law_176 ?_
        obtain ⟨hi_28, h⟩ := h
        refine va_sld hx hb hX hbl hbA hS hi_28 dL_law_177 ?_
        refine jn1_ind (GG := (fun (w_30 : Int32) => ∀ (H : Heap) (locs : List Loc) (ls : Array Slot), va_P (dC, dI) vwCl (wd_X7 AA CA uf_3 um_4 ut_5 uh_6 ug_7 ur_8 uw_9 ux_10 uy_11 ++ (wd_X8 a ca u8_12)) H → va_D (fun q : Nat => s.heap.size ≤ q) (wd_X7 AA CA uf_3 um_4 ut_5 uh_6 ug_7 ur_8 uw_9 ux_10 uy_11 ++ (wd_X8 a ca u8_12)) → va_S (fun q : Nat => s.heap.size ≤ q) s.heap H locs → lv_has ls 4 [(3, .int v3_2), (2, .ref (a 0)), (1, .ref (AA 0 0)), (0, .ref b)] → W p l e room_1 s m #[Value.ref b] below meth c H locs 46 82621 (lw_Z below #[Value.ref b] s) (F0 m 186 ls [.int w_30, .int (xs (v3_2 + 1).toNatClampNeg), .ref (AA 0 0)]))) h (fun w_30 h H locs ls hP hD hS hl => ?_) (fun JJ_29 ih_JJ_29 h => ?_)
        · have hPc := hP.sub (ws' := (wd_X7 AA CA uf_3 um_4 ut_5 uh_6 ug_7 ur_8 uw_9 ux_10 uy_11)) [0, 1, 2, 3, 4, 5, 6, 7, 8, 9, 10, 11, 12, 13, 14, 15, 16, 17, 18, 19, 20, 21, 22, 23, 24, 25] rfl
          have hDc := hD.sub (ws' := (wd_X7 AA CA uf_3 um_4 ut_5 uh_6 ug_7 ur_8 uw_9 ux_10 uy_11)) [0, 1, 2, 3, 4, 5, 6, 7, 8, 9, 10, 11, 12, 13, 14, 15, 16, 17, 18, 19, 20, 21, 22, 23, 24, 25] (by decide) rfl
          have hKc := hK.sub (tys' := (ty_X7 CA)) [0, 1, 2, 3, 4, 5, 6, 7, 8, 9, 10, 11, 12, 13, 14, 15, 16] rfl
          have hFc := va_free (wc := (wd_X7 AA CA uf_3 um_4 ut_5 uh_6 ug_7 ur_8 uw_9 ux_10 uy_11)) hD hS hA [0, 1, 2, 3, 4, 5, 6, 7, 8, 9, 10, 11, 12, 13, 14, 15, 16, 17, 18, 19, 20, 21, 22, 23, 24, 25] rfl
          refine va_calli (va_runV (As := [.int (xs (v3_2 + 1).toNatClampNeg), .int w_30]) (rest := []) ⟨hx, hb, hml, hown, hts⟩ (c_X7_bag l dC dI AA CA H.size uf_3 um_4 ut_5 uh_6 ug_7 ur_8 uw_9 ux_10 uy_11 (xs (v3_2 + 1).toNatClampNeg) w_30 _ h) (cwV 2 hts gL_law_X7_bag rfl rfl rfl (by decide +kernel) ⟨Nat.le_of_ble_eq_true rfl, Nat.le_of_ble_eq_true rfl⟩) ⟨fun a U g mk q => by obtain ⟨q0, q1, qP, qK, qD⟩ := q; exact ⟨q0, q1, qP, va_K.moved (u := U) (U := U.calling g mk a) (Vm.Alike.refl U.vm) qK, qD⟩, va_recv hKc hPc (ci := 6) (q0 := 0) rfl rfl, fun U hU hW => ⟨rfl, by rw [hU], by rw [hU]; exact hPc, va_K.moved hW.alike hKc, hDc.weaken (fun _ _ _ _ => trivial)⟩⟩ rfl rfl hl.1 rfl (lv_room (Nat.le_of_ble_eq_true rfl)) dL_law_186 ⟨Nat.le_of_ble_eq_true rfl, Nat.le_of_ble_eq_true rfl⟩) hS (fun q _ h => hFc q h) hFc (fun r_31 zz t H1 locs ht hvm hw hB hz1 hk1 hS => ?_)
          obtain ⟨uf_32, um_33, uh_34, ug_35⟩ := zz
          replace h := hw
          obtain ⟨hP1, hD1⟩ := hB
          rw [ht] at hP1
          obtain ⟨hP, hD⟩ := va_join (wr := [26, 27, 28, 29, 30, 31, 32, 33, 34, 35, 36, 37, 38, 39, 40, 41, 42, 43, 44, 45].filterMap (fun i => (wd_X7 AA CA uf_3 um_4 ut_5 uh_6 ug_7 ur_8 uw_9 ux_10 uy_11 ++ (wd_X8 a ca u8_12))[i]?)) (w1 := (wd_X7 AA CA uf_32 um_33 ut_5 uh_34 ug_35 ur_8 uw_9 ux_10 uy_11)) hP hD [0, 1, 2, 3, 4, 5, 6, 7, 8, 9, 10, 11, 12, 13, 14, 15, 16, 17, 18, 19, 20, 21, 22, 23, 24, 25] [26, 27, 28, 29, 30, 31, 32, 33, 34, 35, 36, 37, 38, 39, 40, 41, 42, 43, 44, 45] rfl rfl (by decide) (by decide) hk1 hFc hP1 hD1
          replace hP : va_P (dC, dI) vwCl (wd_X7 AA CA uf_32 um_33 ut_5 uh_34 ug_35 ur_8 uw_9 ux_10 uy_11 ++ (wd_X8 a ca u8_12)) H1 := (hP.sub [20, 21, 22, 23, 24, 25, 26, 27, 28, 29, 30, 31, 32, 33, 34, 35, 36, 37, 38, 39, 40, 41, 42, 43, 44, 45, 0, 1, 2, 3, 4, 5, 6, 7, 8, 9, 10, 11, 12, 13, 14, 15, 16, 17, 18, 19] rfl)
          replace hD : va_D (fun q : Nat => s.heap.size ≤ q) (wd_X7 AA CA uf_32 um_33 ut_5 uh_34 ug_35 ur_8 uw_9 ux_10 uy_11 ++ (wd_X8 a ca u8_12)) := (hD.sub [20, 21, 22, 23, 24, 25, 26, 27, 28, 29, 30, 31, 32, 33, 34, 35, 36, 37, 38, 39, 40, 41, 42, 43, 44, 45, 0, 1, 2, 3, 4, 5, 6, 7, 8, 9, 10, 11, 12, 13, 14, 15, 16, 17, 18, 19] (by decide) rfl)
          generalize H1 = H at hP hS ⊢
          refine lv_aload_n hx hb dL_law_189 rfl (lv_at hl 1 rfl) ?_
          refine lv_aload_n hx hb dL_law_190 rfl (lv_at hl 3 rfl) ?_
          refine lv_iload_n hx hb dL_law_191 rfl (lv_at hl 0 rfl) ?_
          refine lv_iconst (v := 1) hx hb dL_law_192 (by decide) ?_
          refine lv_iadd hx hb dL_law_193 ?_
          obtain ⟨hi_36, h⟩ := h
          refine va_sld hx hb hX hbl hbA hS hi_36 dL_law_194 ?_
          refine lv_aload_n hx hb dL_law_195 rfl (lv_at hl 3 rfl) ?_
          refine lv_iload_n hx hb dL_law_196 rfl (lv_at hl 0 rfl) ?_
          refine lv_iconst (v := 2) hx hb dL_law_197 (by decide) ?_
          refine lv_iadd hx hb dL_law_198 ?_
          obtain ⟨hi_37, h⟩ := h
          refine va_sld hx hb hX hbl hbA hS hi_37 dL_law_199 ?_
          refine jn1_ind (GG := (fun (w_39 : Int32) => ∀ (H : Heap) (locs : List Loc) (ls : Array Slot), va_P (dC, dI) vwCl (wd_X7 AA CA uf_32 um_33 ut_5 uh_34 ug_35 ur_8 uw_9 ux_10 uy_11 ++ (wd_X8 a ca u8_12)) H → va_D (fun q : Nat => s.heap.size ≤ q) (wd_X7 AA CA uf_32 um_33 ut_5 uh_34 ug_35 ur_8 uw_9 ux_10 uy_11 ++ (wd_X8 a ca u8_12)) → va_S (fun q : Nat => s.heap.size ≤ q) s.heap H locs → lv_has ls 4 [(3, .int v3_2), (2, .ref (a 0)), (1, .ref (AA 0 0)), (0, .ref b)] → W p l e room_1 s m #[Value.ref b] below meth c H locs 46 82621 (lw_Z below #[Value.ref b] s) (F0 m 208 ls [.int w_39, .int (xs (v3_2 + 1).toNatClampNeg), .ref (a 0), .int r_31]))) h (fun w_39 h H locs ls hP hD hS hl => ?_) (fun JJ_38 ih_JJ_38 h => ?_)
          · have hPc := hP.sub (ws' := (wd_X8 a ca u8_12)) [26, 27, 28, 29, 30, 31, 32, 33, 34, 35, 36, 37, 38, 39, 40, 41, 42, 43, 44, 45] rfl
            have hDc := hD.sub (ws' := (wd_X8 a ca u8_12)) [26, 27, 28, 29, 30, 31, 32, 33, 34, 35, 36, 37, 38, 39, 40, 41, 42, 43, 44, 45] (by decide) rfl
            have hKc := hK.sub (tys' := (ty_X8 ca)) [17, 18, 19, 20, 21, 22, 23, 24, 25, 26, 27, 28, 29, 30, 31, 32, 33, 34, 35] rfl
            have hFc := va_free (wc := (wd_X8 a ca u8_12)) hD hS hA [26, 27, 28, 29, 30, 31, 32, 33, 34, 35, 36, 37, 38, 39, 40, 41, 42, 43, 44, 45] rfl
            refine va_calli (va_runV (As := [.int (xs (v3_2 + 1).toNatClampNeg), .int w_39]) (rest := [.int r_31]) ⟨hx, hb, hml, hown, hts⟩ (c_X8_bag l dC dI a ca H.size u8_12 (xs (v3_2 + 1).toNatClampNeg) w_39 _ h) (cwV 2 hts gL_law_X8_bag rfl rfl rfl (by decide +kernel) ⟨Nat.le_of_ble_eq_true rfl, Nat.le_of_ble_eq_true rfl⟩) ⟨fun a U g mk q => by obtain ⟨q0, q1, qP, qK, qD⟩ := q; exact ⟨q0, q1, qP, va_K.moved (u := U) (U := U.calling g mk a) (Vm.Alike.refl U.vm) qK, qD⟩, va_recv hKc hPc (ci := 7) (q0 := 0) rfl rfl, fun U hU hW => ⟨rfl, by rw [hU], by rw [hU]; exact hPc, va_K.moved hW.alike hKc, hDc.weaken (fun _ _ _ _ => trivial)⟩⟩ rfl rfl hl.1 rfl (lv_room (Nat.le_of_ble_eq_true rfl)) dL_law_208 ⟨Nat.le_of_ble_eq_true rfl, Nat.le_of_ble_eq_true rfl⟩) hS (fun q _ h => hFc q h) hFc (fun r_40 zz t H1 locs ht hvm hw hB hz1 hk1 hS => ?_)
            obtain ⟨u8_41, rfl⟩ : ∃ z, z = zz := ⟨_, rfl⟩
            replace h := hw
            obtain ⟨hP1, hD1⟩ := hB
            rw [ht] at hP1
            obtain ⟨hP, hD⟩ := va_join (wr := [0, 1, 2, 3, 4, 5, 6, 7, 8, 9, 10, 11, 12, 13, 14, 15, 16, 17, 18, 19, 20, 21, 22, 23, 24, 25].filterMap (fun i => (wd_X7 AA CA uf_32 um_33 ut_5 uh_34 ug_35 ur_8 uw_9 ux_10 uy_11 ++ (wd_X8 a ca u8_12))[i]?)) (w1 := (wd_X8 a ca u8_41)) hP hD [26, 27, 28, 29, 30, 31, 32, 33, 34, 35, 36, 37, 38, 39, 40, 41, 42, 43, 44, 45] [0, 1, 2, 3, 4, 5, 6, 7, 8, 9, 10, 11, 12, 13, 14, 15, 16, 17, 18, 19, 20, 21, 22, 23, 24, 25] rfl rfl (by decide) (by decide) hk1 hFc hP1 hD1
            replace hP : va_P (dC, dI) vwCl (wd_X7 AA CA uf_32 um_33 ut_5 uh_34 ug_35 ur_8 uw_9 ux_10 uy_11 ++ (wd_X8 a ca u8_41)) H1 := (hP.sub [0, 1, 2, 3, 4, 5, 6, 7, 8, 9, 10, 11, 12, 13, 14, 15, 16, 17, 18, 19, 20, 21, 22, 23, 24, 25, 26, 27, 28, 29, 30, 31, 32, 33, 34, 35, 36, 37, 38, 39, 40, 41, 42, 43, 44, 45] rfl)
            replace hD : va_D (fun q : Nat => s.heap.size ≤ q) (wd_X7 AA CA uf_32 um_33 ut_5 uh_34 ug_35 ur_8 uw_9 ux_10 uy_11 ++ (wd_X8 a ca u8_41)) := (hD.sub [0, 1, 2, 3, 4, 5, 6, 7, 8, 9, 10, 11, 12, 13, 14, 15, 16, 17, 18, 19, 20, 21, 22, 23, 24, 25, 26, 27, 28, 29, 30, 31, 32, 33, 34, 35, 36, 37, 38, 39, 40, 41, 42, 43, 44, 45] (by decide) rfl)
            generalize H1 = H at hP hS ⊢
            refine lv_icmp_eq (tgt := 892) hx hb dL_law_211 (by decide) (fun hc_42 => ?_) (fun hc_42 => ?_)
            · replace h := h.1 hc_42
              refine lv_iinc (v := (v3_2 + 6)) (lv' := [(3, .int (v3_2 + 6)), (2, .ref (a 0)), (1, .ref (AA 0 0)), (0, .ref b)]) hx hb dL_law_892 hl (k := 0) rfl rfl (by decide) rfl (fun ls hl => ?_)
              refine lv_goto (tgt := 18) hx hb dL_law_895 (by decide) ?_
              exact ih_LL_1 _ _ _ _ _ _ _ _ _ _ _ h _ _ _ hP hD hS (lv_sub hl [0, 1, 2, 3] rfl)
            · replace h := h.2 hc_42
              refine lv_iconst (v := 0) hx hb dL_law_214 (by decide) ?_
              exact h.elim
          · refine lv_if_eq (tgt := 207) hx hb dL_law_200 (by decide) (fun hc_43 => ?_) (fun hc_43 => ?_)
            · replace h := h.1 hc_43
              refine lv_iconst (v := 0) hx hb dL_law_207 (by decide) ?_
              exact ih_JJ_38 _ h _ _ _ hP hD hS (lv_sub hl [0, 1, 2, 3] rfl)
            · replace h := h.2 hc_43
              refine lv_iconst (v := 1) hx hb dL_law_203 (by decide) ?_
              refine lv_goto (tgt := 208) hx hb dL_law_204 (by decide) ?_
              exact ih_JJ_38 _ h _ _ _ hP hD hS (lv_sub hl [0, 1, 2, 3] rfl)
        · refine lv_if_eq (tgt := 185) hx hb dL_law_178 (by decide) (fun hc_44 => ?_) (fun hc_44 => ?_)
          · replace h := h.1 hc_44
            refine lv_iconst (v := 0) hx hb dL_law_185 (by decide) ?_
            exact ih_JJ_29 _ h _ _ _ hP hD hS (lv_sub hl [0, 1, 2, 3] rfl)
          · replace h := h.2 hc_44
            refine lv_iconst (v := 1) hx hb dL_law_181 (by decide) ?_
            refine lv_goto (tgt := 186) hx hb dL_law_182 (by decide) ?_
            exact ih_JJ_29 _ h _ _ _ hP hD hS (lv_sub hl [0, 1, 2, 3] rfl)
      · replace h := h.2 hs_26
        by_cases hs_45 : ((xs v3_2.toNatClampNeg) &&& 31) = 2
        · replace h := h.1 hs_45
          refine lv_tableIn (tgt := 216) hx hb dL_law_33 (by rw [hs_45]; decide) (by rw [hs_45]; decide) (by rw [hs_45]; rfl) (by decide) ?_
          refine lv_aload_n hx hb dL_law_216 rfl (lv_at hl 2 rfl) ?_
          refine lv_aload_n hx hb dL_law_217 rfl (lv_at hl 3 rfl) ?_
          refine lv_iload_n hx hb dL_law_218 rfl (lv_at hl 0 rfl) ?_
          refine lv_iconst (v := 1) hx hb dL_law_219 (by decide) ?_
          refine lv_iadd hx hb dL_law_220 ?_
          obtain ⟨hi_46, h⟩ := h
          refine va_sld hx hb hX hbl hbA hS hi_46 dL_law_221 ?_
          refine lv_aload_n hx hb dL_law_222 rfl (lv_at hl 3 rfl) ?_
          refine lv_iload_n hx hb dL_law_223 rfl (lv_at hl 0 rfl) ?_
          refine lv_iconst (v := 2) hx hb dL_law_224 (by decide) ?_
          refine lv_iadd hx hb dL_law_225 ?_
          obtain ⟨hi_47, h⟩ := h
          refine va_sld hx hb hX hbl hbA hS hi_47 dL_law_226 ?_
          refine lv_aload_n hx hb dL_law_227 rfl (lv_at hl 3 rfl) ?_
          refine lv_iload_n hx hb dL_law_228 rfl (lv_at hl 0 rfl) ?_
          refine lv_iconst (v := 3) hx hb dL_law_229 (by decide) ?_
          refine lv_iadd hx hb dL_law_230 ?_
          obtain ⟨hi_48, h⟩ := h
          refine va_sld hx hb hX hbl hbA hS hi_48 dL_law_231 ?_
          refine lv_aload_n hx hb dL_law_232 rfl (lv_at hl 3 rfl) ?_
          refine lv_iload_n hx hb dL_law_233 rfl (lv_at hl 0 rfl) ?_
          refine lv_iconst (v := 4) hx hb dL_law_234 (by decide) ?_
          refine lv_iadd hx hb dL_law_235 ?_
          obtain ⟨hi_49, h⟩ := h
          refine va_sld hx hb hX hbl hbA hS hi_49 dL_law_236 ?_
          refine lv_aload_n hx hb dL_law_237 rfl (lv_at hl 3 rfl) ?_
          refine lv_iload_n hx hb dL_law_238 rfl (lv_at hl 0 rfl) ?_
          refine lv_iconst (v := 5) hx hb dL_law_239 (by decide) ?_
          refine lv_iadd hx hb dL_law_240 ?_
          obtain ⟨hi_50, h⟩ := h
          refine va_sld hx hb hX hbl hbA hS hi_50 dL_law_241 ?_
          have hPc := hP.sub (ws' := (wd_X7 AA CA uf_3 um_4 ut_5 uh_6 ug_7 ur_8 uw_9 ux_10 uy_11)) [0, 1, 2, 3, 4, 5, 6, 7, 8, 9, 10, 11, 12, 13, 14, 15, 16, 17, 18, 19, 20, 21, 22, 23, 24, 25] rfl
          have hDc := hD.sub (ws' := (wd_X7 AA CA uf_3 um_4 ut_5 uh_6 ug_7 ur_8 uw_9 ux_10 uy_11)) [0, 1, 2, 3, 4, 5, 6, 7, 8, 9, 10, 11, 12, 13, 14, 15, 16, 17, 18, 19, 20, 21, 22, 23, 24, 25] (by decide) rfl
          have hKc := hK.sub (tys' := (ty_X7 CA)) [0, 1, 2, 3, 4, 5, 6, 7, 8, 9, 10, 11, 12, 13, 14, 15, 16] rfl
          have hFc := va_free (wc := (wd_X7 AA CA uf_3 um_4 ut_5 uh_6 ug_7 ur_8 uw_9 ux_10 uy_11)) hD hS hA [0, 1, 2, 3, 4, 5, 6, 7, 8, 9, 10, 11, 12, 13, 14, 15, 16, 17, 18, 19, 20, 21, 22, 23, 24, 25] rfl
          refine va_calli (va_runV (As := [.int (xs (v3_2 + 1).toNatClampNeg), .int (xs (v3_2 + 2).toNatClampNeg), .int (xs (v3_2 + 3).toNatClampNeg), .int (xs (v3_2 + 4).toNatClampNeg), .int (xs (v3_2 + 5).toNatClampNeg)]) (rest := []) ⟨hx, hb, hml, hown, hts⟩ (c_X7_arc l dC dI AA CA H.size uf_3 um_4 ut_5 uh_6 ug_7 ur_8 uw_9 ux_10 uy_11 (xs (v3_2 + 1).toNatClampNeg) (xs (v3_2 + 2).toNatClampNeg) (xs (v3_2 + 3).toNatClampNeg) (xs (v3_2 + 4).toNatClampNeg) (xs (v3_2 + 5).toNatClampNeg) _ h) (cwV 5 hts gL_law_X7_arc rfl rfl rfl (by decide +kernel) ⟨Nat.le_of_ble_eq_true rfl, Nat.le_of_ble_eq_true rfl⟩) ⟨fun a U g mk q => by obtain ⟨q0, q1, qP, qK, qD, qN⟩ := q; exact ⟨q0, q1, qP, va_K.moved (u := U) (U := U.calling g mk a) (Vm.Alike.refl U.vm) qK, qD, qN.call⟩, va_recv hKc hPc (ci := 6) (q0 := 0) rfl rfl, fun U hU hW => ⟨rfl, by rw [hU], by rw [hU]; exact hPc, va_K.moved hW.alike hKc, hDc.weaken (fun _ _ _ _ => trivial), hN.warm hW⟩⟩ rfl rfl hl.1 rfl (lv_room (Nat.le_of_ble_eq_true rfl)) dL_law_242 ⟨Nat.le_of_ble_eq_true rfl, Nat.le_of_ble_eq_true rfl⟩) hS (fun q _ h => hFc q h) hFc (fun r_51 zz t H1 locs ht hvm hw hB hz1 hk1 hS => ?_)
          obtain ⟨uf_52, um_53, uh_54⟩ := zz
          replace h := hw
          obtain ⟨hP1, hD1⟩ := hB
          rw [ht] at hP1
          obtain ⟨hP, hD⟩ := va_join (wr := [26, 27, 28, 29, 30, 31, 32, 33, 34, 35, 36, 37, 38, 39, 40, 41, 42, 43, 44, 45].filterMap (fun i => (wd_X7 AA CA uf_3 um_4 ut_5 uh_6 ug_7 ur_8 uw_9 ux_10 uy_11 ++ (wd_X8 a ca u8_12))[i]?)) (w1 := (wd_X7 AA CA uf_52 um_53 ut_5 uh_54 ug_7 ur_8 uw_9 ux_10 uy_11)) hP hD [0, 1, 2, 3, 4, 5, 6, 7, 8, 9, 10, 11, 12, 13, 14, 15, 16, 17, 18, 19, 20, 21, 22, 23, 24, 25] [26, 27, 28, 29, 30, 31, 32, 33, 34, 35, 36, 37, 38, 39, 40, 41, 42, 43, 44, 45] rfl rfl (by decide) (by decide) hk1 hFc hP1 hD1
          replace hP : va_P (dC, dI) vwCl (wd_X7 AA CA uf_52 um_53 ut_5 uh_54 ug_7 ur_8 uw_9 ux_10 uy_11 ++ (wd_X8 a ca u8_12)) H1 := (hP.sub [20, 21, 22, 23, 24, 25, 26, 27, 28, 29, 30, 31, 32, 33, 34, 35, 36, 37, 38, 39, 40, 41, 42, 43, 44, 45, 0, 1, 2, 3, 4, 5, 6, 7, 8, 9, 10, 11, 12, 13, 14, 15, 16, 17, 18, 19] rfl)
          replace hD : va_D (fun q : Nat => s.heap.size ≤ q) (wd_X7 AA CA uf_52 um_53 ut_5 uh_54 ug_7 ur_8 uw_9 ux_10 uy_11 ++ (wd_X8 a ca u8_12)) := (hD.sub [20, 21, 22, 23, 24, 25, 26, 27, 28, 29, 30, 31, 32, 33, 34, 35, 36, 37, 38, 39, 40, 41, 42, 43, 44, 45, 0, 1, 2, 3, 4, 5, 6, 7, 8, 9, 10, 11, 12, 13, 14, 15, 16, 17, 18, 19] (by decide) rfl)
          generalize H1 = H at hP hS ⊢
          refine lv_aload_n hx hb dL_law_245 rfl (lv_at hl 1 rfl) ?_
          refine lv_aload_n hx hb dL_law_246 rfl (lv_at hl 3 rfl) ?_
          refine lv_iload_n hx hb dL_law_247 rfl (lv_at hl 0 rfl) ?_
          refine lv_iconst (v := 1) hx hb dL_law_248 (by decide) ?_
          refine lv_iadd hx hb dL_law_249 ?_
          obtain ⟨hi_55, h⟩ := h
          refine va_sld hx hb hX hbl hbA hS hi_55 dL_law_250 ?_
          refine lv_aload_n hx hb dL_law_251 rfl (lv_at hl 3 rfl) ?_
          refine lv_iload_n hx hb dL_law_252 rfl (lv_at hl 0 rfl) ?_
          refine lv_iconst (v := 2) hx hb dL_law_253 (by decide) ?_
          refine lv_iadd hx hb dL_law_254 ?_
          obtain ⟨hi_56, h⟩ := h
          refine va_sld hx hb hX hbl hbA hS hi_56 dL_law_255 ?_
          refine lv_aload_n hx hb dL_law_256 rfl (lv_at hl 3 rfl) ?_
          refine lv_iload_n hx hb dL_law_257 rfl (lv_at hl 0 rfl) ?_
          refine lv_iconst (v := 3) hx hb dL_law_258 (by decide) ?_
          refine lv_iadd hx hb dL_law_259 ?_
          obtain ⟨hi_57, h⟩ := h
          refine va_sld hx hb hX hbl hbA hS hi_57 dL_law_260 ?_
          refine lv_aload_n hx hb dL_law_261 rfl (lv_at hl 3 rfl) ?_
          refine lv_iload_n hx hb dL_law_262 rfl (lv_at hl 0 rfl) ?_
          refine lv_iconst (v := 4) hx hb dL_law_263 (by decide) ?_
          refine lv_iadd hx hb dL_law_264 ?_
          obtain ⟨hi_58, h⟩ := h
          refine va_sld hx hb hX hbl hbA hS hi_58 dL_law_265 ?_
          refine lv_aload_n hx hb dL_law_266 rfl (lv_at hl 3 rfl) ?_
          refine lv_iload_n hx hb dL_law_267 rfl (lv_at hl 0 rfl) ?_
          refine lv_iconst (v := 5) hx hb dL_law_268 (by decide) ?_
          refine lv_iadd hx hb dL_law_269 ?_
          obtain ⟨hi_59, h⟩ := h
          refine va_sld hx hb hX hbl hbA hS hi_59 dL_law_270 ?_
          have hPc := hP.sub (ws' := (wd_X8 a ca u8_12)) [26, 27, 28, 29, 30, 31, 32, 33, 34, 35, 36, 37, 38, 39, 40, 41, 42, 43, 44, 45] rfl
          have hDc := hD.sub (ws' := (wd_X8 a ca u8_12)) [26, 27, 28, 29, 30, 31, 32, 33, 34, 35, 36, 37, 38, 39, 40, 41, 42, 43, 44, 45] (by decide) rfl
          have hKc := hK.sub (tys' := (ty_X8 ca)) [17, 18, 19, 20, 21, 22, 23, 24, 25, 26, 27, 28, 29, 30, 31, 32, 33, 34, 35] rfl
          have hFc := va_free (wc := (wd_X8 a ca u8_12)) hD hS hA [26, 27, 28, 29, 30, 31, 32, 33, 34, 35, 36, 37, 38, 39, 40, 41, 42, 43, 44, 45] rfl
          refine va_calli (va_runV (As := [.int (xs (v3_2 + 1).toNatClampNeg), .int (xs (v3_2 + 2).toNatClampNeg), .int (xs (v3_2 + 3).toNatClampNeg), .int (xs (v3_2 + 4).toNatClampNeg), .int (xs (v3_2 + 5).toNatClampNeg)]) (rest := [.int r_51]) ⟨hx, hb, hml, hown, hts⟩ (c_X8_arc l dC dI a ca H.size u8_12 (xs (v3_2 + 1).toNatClampNeg) (xs (v3_2 + 2).toNatClampNeg) (xs (v3_2 + 3).toNatClampNeg) (xs (v3_2 + 4).toNatClampNeg) (xs (v3_2 + 5).toNatClampNeg) _ h) (cwV 5 hts gL_law_X8_arc rfl rfl rfl (by decide +kernel) ⟨Nat.le_of_ble_eq_true rfl, Nat.le_of_ble_eq_true rfl⟩) ⟨fun a U g mk q => by obtain ⟨q0, q1, qP, qK, qD⟩ := q; exact ⟨q0, q1, qP, va_K.moved (u := U) (U := U.calling g mk a) (Vm.Alike.refl U.vm) qK, qD⟩, va_recv hKc hPc (ci := 7) (q0 := 0) rfl rfl, fun U hU hW => ⟨rfl, by rw [hU], by rw [hU]; exact hPc, va_K.moved hW.alike hKc, hDc.weaken (fun _ _ _ _ => trivial)⟩⟩ rfl rfl hl.1 rfl (lv_room (Nat.le_of_ble_eq_true rfl)) dL_law_271 ⟨Nat.le_of_ble_eq_true rfl, Nat.le_of_ble_eq_true rfl⟩) hS (fun q _ h => hFc q h) hFc (fun r_60 zz t H1 locs ht hvm hw hB hz1 hk1 hS => ?_)
          obtain ⟨u8_61, rfl⟩ : ∃ z, z = zz := ⟨_, rfl⟩
          replace h := hw
          obtain ⟨hP1, hD1⟩ := hB
          rw [ht] at hP1
          obtain ⟨hP, hD⟩ := va_join (wr := [0, 1, 2, 3, 4, 5, 6, 7, 8, 9, 10, 11, 12, 13, 14, 15, 16, 17, 18, 19, 20, 21, 22, 23, 24, 25].filterMap (fun i => (wd_X7 AA CA uf_52 um_53 ut_5 uh_54 ug_7 ur_8 uw_9 ux_10 uy_11 ++ (wd_X8 a ca u8_12))[i]?)) (w1 := (wd_X8 a ca u8_61)) hP hD [26, 27, 28, 29, 30, 31, 32, 33, 34, 35, 36, 37, 38, 39, 40, 41, 42, 43, 44, 45] [0, 1, 2, 3, 4, 5, 6, 7, 8, 9, 10, 11, 12, 13, 14, 15, 16, 17, 18, 19, 20, 21, 22, 23, 24, 25] rfl rfl (by decide) (by decide) hk1 hFc hP1 hD1
          replace hP : va_P (dC, dI) vwCl (wd_X7 AA CA uf_52 um_53 ut_5 uh_54 ug_7 ur_8 uw_9 ux_10 uy_11 ++ (wd_X8 a ca u8_61)) H1 := (hP.sub [0, 1, 2, 3, 4, 5, 6, 7, 8, 9, 10, 11, 12, 13, 14, 15, 16, 17, 18, 19, 20, 21, 22, 23, 24, 25, 26, 27, 28, 29, 30, 31, 32, 33, 34, 35, 36, 37, 38, 39, 40, 41, 42, 43, 44, 45] rfl)
          replace hD : va_D (fun q : Nat => s.heap.size ≤ q) (wd_X7 AA CA uf_52 um_53 ut_5 uh_54 ug_7 ur_8 uw_9 ux_10 uy_11 ++ (wd_X8 a ca u8_61)) := (hD.sub [0, 1, 2, 3, 4, 5, 6, 7, 8, 9, 10, 11, 12, 13, 14, 15, 16, 17, 18, 19, 20, 21, 22, 23, 24, 25, 26, 27, 28, 29, 30, 31, 32, 33, 34, 35, 36, 37, 38, 39, 40, 41, 42, 43, 44, 45] (by decide) rfl)
          generalize H1 = H at hP hS ⊢
          refine lv_icmp_eq (tgt := 892) hx hb dL_law_274 (by decide) (fun hc_62 => ?_) (fun hc_62 => ?_)
          · replace h := h.1 hc_62
            refine lv_iinc (v := (v3_2 + 6)) (lv' := [(3, .int (v3_2 + 6)), (2, .ref (a 0)), (1, .ref (AA 0 0)), (0, .ref b)]) hx hb dL_law_892 hl (k := 0) rfl rfl (by decide) rfl (fun ls hl => ?_)
            refine lv_goto (tgt := 18) hx hb dL_law_895 (by decide) ?_
            exact ih_LL_1 _ _ _ _ _ _ _ _ _ _ _ h _ _ _ hP hD hS (lv_sub hl [0, 1, 2, 3] rfl)
          · replace h := h.2 hc_62
            refine lv_iconst (v := 0) hx hb dL_law_277 (by decide) ?_
            exact h.elim
        · replace h := h.2 hs_45
          by_cases hs_63 : ((xs v3_2.toNatClampNeg) &&& 31) = 3
          · replace h := h.1 hs_63
            refine lv_tableIn (tgt := 279) hx hb dL_law_33 (by rw [hs_63]; decide) (by rw [hs_63]; decide) (by rw [hs_63]; rfl) (by decide) ?_
            refine lv_aload_n hx hb dL_law_279 rfl (lv_at hl 2 rfl) ?_
            have hPc := hP.sub (ws' := (wd_X7 AA CA uf_3 um_4 ut_5 uh_6 ug_7 ur_8 uw_9 ux_10 uy_11)) [0, 1, 2, 3, 4, 5, 6, 7, 8, 9, 10, 11, 12, 13, 14, 15, 16, 17, 18, 19, 20, 21, 22, 23, 24, 25] rfl
            have hDc := hD.sub (ws' := (wd_X7 AA CA uf_3 um_4 ut_5 uh_6 ug_7 ur_8 uw_9 ux_10 uy_11)) [0, 1, 2, 3, 4, 5, 6, 7, 8, 9, 10, 11, 12, 13, 14, 15, 16, 17, 18, 19, 20, 21, 22, 23, 24, 25] (by decide) rfl
            have hKc := hK.sub (tys' := (ty_X7 CA)) [0, 1, 2, 3, 4, 5, 6, 7, 8, 9, 10, 11, 12, 13, 14, 15, 16] rfl
            have hFc := va_free (wc := (wd_X7 AA CA uf_3 um_4 ut_5 uh_6 ug_7 ur_8 uw_9 ux_10 uy_11)) hD hS hA [0, 1, 2, 3, 4, 5, 6, 7, 8, 9, 10, 11, 12, 13, 14, 15, 16, 17, 18, 19, 20, 21, 22, 23, 24, 25] rfl
            refine va_calli (va_runV (As := []) (rest := []) ⟨hx, hb, hml, hown, hts⟩ (c_X7_unarc l dC dI AA CA H.size uf_3 um_4 ut_5 uh_6 ug_7 ur_8 uw_9 ux_10 uy_11 _ h) (cwV 0 hts gL_law_X7_unarc rfl rfl rfl (by decide +kernel) ⟨Nat.le_of_ble_eq_true rfl, Nat.le_of_ble_eq_true rfl⟩) ⟨fun a U g mk q => by obtain ⟨q0, q1, qP, qK, qD⟩ := q; exact ⟨q0, q1, qP, va_K.moved (u := U) (U := U.calling g mk a) (Vm.Alike.refl U.vm) qK, qD⟩, va_recv hKc hPc (ci := 6) (q0 := 0) rfl rfl, fun U hU hW => ⟨rfl, by rw [hU], by rw [hU]; exact hPc, va_K.moved hW.alike hKc, hDc.weaken (fun _ _ _ _ => trivial)⟩⟩ rfl rfl hl.1 rfl (lv_room (Nat.le_of_ble_eq_true rfl)) dL_law_280 ⟨Nat.le_of_ble_eq_true rfl, Nat.le_of_ble_eq_true rfl⟩) hS (fun q _ h => hFc q h) hFc (fun r_64 zz t H1 locs ht hvm hw hB hz1 hk1 hS => ?_)
            obtain ⟨uf_65, um_66, uh_67⟩ := zz
            replace h := hw
            obtain ⟨hP1, hD1⟩ := hB
            rw [ht] at hP1
            obtain ⟨hP, hD⟩ := va_join (wr := [26, 27, 28, 29, 30, 31, 32, 33, 34, 35, 36, 37, 38, 39, 40, 41, 42, 43, 44, 45].filterMap (fun i => (wd_X7 AA CA uf_3 um_4 ut_5 uh_6 ug_7 ur_8 uw_9 ux_10 uy_11 ++ (wd_X8 a ca u8_12))[i]?)) (w1 := (wd_X7 AA CA uf_65 um_66 ut_5 uh_67 ug_7 ur_8 uw_9 ux_10 uy_11)) hP hD [0, 1, 2, 3, 4, 5, 6, 7, 8, 9, 10, 11, 12, 13, 14, 15, 16, 17, 18, 19, 20, 21, 22, 23, 24, 25] [26, 27, 28, 29, 30, 31, 32, 33, 34, 35, 36, 37, 38, 39, 40, 41, 42, 43, 44, 45] rfl rfl (by decide) (by decide) hk1 hFc hP1 hD1
            replace hP : va_P (dC, dI) vwCl (wd_X7 AA CA uf_65 um_66 ut_5 uh_67 ug_7 ur_8 uw_9 ux_10 uy_11 ++ (wd_X8 a ca u8_12)) H1 := (hP.sub [20, 21, 22, 23, 24, 25, 26, 27, 28, 29, 30, 31, 32, 33, 34, 35, 36, 37, 38, 39, 40, 41, 42, 43, 44, 45, 0, 1, 2, 3, 4, 5, 6, 7, 8, 9, 10, 11, 12, 13, 14, 15, 16, 17, 18, 19] rfl)
            replace hD : va_D (fun q : Nat => s.heap.size ≤ q) (wd_X7 AA CA uf_65 um_66 ut_5 uh_67 ug_7 ur_8 uw_9 ux_10 uy_11 ++ (wd_X8 a ca u8_12)) := (hD.sub [20, 21, 22, 23, 24, 25, 26, 27, 28, 29, 30, 31, 32, 33, 34, 35, 36, 37, 38, 39, 40, 41, 42, 43, 44, 45, 0, 1, 2, 3, 4, 5, 6, 7, 8, 9, 10, 11, 12, 13, 14, 15, 16, 17, 18, 19] (by decide) rfl)
            generalize H1 = H at hP hS ⊢
            refine lv_aload_n hx hb dL_law_283 rfl (lv_at hl 1 rfl) ?_
            have hPc := hP.sub (ws' := (wd_X8 a ca u8_12)) [26, 27, 28, 29, 30, 31, 32, 33, 34, 35, 36, 37, 38, 39, 40, 41, 42, 43, 44, 45] rfl
            have hDc := hD.sub (ws' := (wd_X8 a ca u8_12)) [26, 27, 28, 29, 30, 31, 32, 33, 34, 35, 36, 37, 38, 39, 40, 41, 42, 43, 44, 45] (by decide) rfl
            have hKc := hK.sub (tys' := (ty_X8 ca)) [17, 18, 19, 20, 21, 22, 23, 24, 25, 26, 27, 28, 29, 30, 31, 32, 33, 34, 35] rfl
            have hFc := va_free (wc := (wd_X8 a ca u8_12)) hD hS hA [26, 27, 28, 29, 30, 31, 32, 33, 34, 35, 36, 37, 38, 39, 40, 41, 42, 43, 44, 45] rfl
            refine va_calli (va_runV (As := []) (rest := [.int r_64]) ⟨hx, hb, hml, hown, hts⟩ (c_X8_unarc l dC dI a ca H.size u8_12 _ h) (cwV 0 hts gL_law_X8_unarc rfl rfl rfl (by decide +kernel) ⟨Nat.le_of_ble_eq_true rfl, Nat.le_of_ble_eq_true rfl⟩) ⟨fun a U g mk q => by obtain ⟨q0, q1, qP, qK, qD⟩ := q; exact ⟨q0, q1, qP, va_K.moved (u := U) (U := U.calling g mk a) (Vm.Alike.refl U.vm) qK, qD⟩, va_recv hKc hPc (ci := 7) (q0 := 0) rfl rfl, fun U hU hW => ⟨rfl, by rw [hU], by rw [hU]; exact hPc, va_K.moved hW.alike hKc, hDc.weaken (fun _ _ _ _ => trivial)⟩⟩ rfl rfl hl.1 rfl (lv_room (Nat.le_of_ble_eq_true rfl)) dL_law_284 ⟨Nat.le_of_ble_eq_true rfl, Nat.le_of_ble_eq_true rfl⟩) hS (fun q _ h => hFc q h) hFc (fun r_68 zz t H1 locs ht hvm hw hB hz1 hk1 hS => ?_)
            obtain ⟨u8_69, rfl⟩ : ∃ z, z = zz := ⟨_, rfl⟩
            replace h := hw
            obtain ⟨hP1, hD1⟩ := hB
            rw [ht] at hP1
            obtain ⟨hP, hD⟩ := va_join (wr := [0, 1, 2, 3, 4, 5, 6, 7, 8, 9, 10, 11, 12, 13, 14, 15, 16, 17, 18, 19, 20, 21, 22, 23, 24, 25].filterMap (fun i => (wd_X7 AA CA uf_65 um_66 ut_5 uh_67 ug_7 ur_8 uw_9 ux_10 uy_11 ++ (wd_X8 a ca u8_12))[i]?)) (w1 := (wd_X8 a ca u8_69)) hP hD [26, 27, 28, 29, 30, 31, 32, 33, 34, 35, 36, 37, 38, 39, 40, 41, 42, 43, 44, 45] [0, 1, 2, 3, 4, 5, 6, 7, 8, 9, 10, 11, 12, 13, 14, 15, 16, 17, 18, 19, 20, 21, 22, 23, 24, 25] rfl rfl (by decide) (by decide) hk1 hFc hP1 hD1
            replace hP : va_P (dC, dI) vwCl (wd_X7 AA CA uf_65 um_66 ut_5 uh_67 ug_7 ur_8 uw_9 ux_10 uy_11 ++ (wd_X8 a ca u8_69)) H1 := (hP.sub [0, 1, 2, 3, 4, 5, 6, 7, 8, 9, 10, 11, 12, 13, 14, 15, 16, 17, 18, 19, 20, 21, 22, 23, 24, 25, 26, 27, 28, 29, 30, 31, 32, 33, 34, 35, 36, 37, 38, 39, 40, 41, 42, 43, 44, 45] rfl)
            replace hD : va_D (fun q : Nat => s.heap.size ≤ q) (wd_X7 AA CA uf_65 um_66 ut_5 uh_67 ug_7 ur_8 uw_9 ux_10 uy_11 ++ (wd_X8 a ca u8_69)) := (hD.sub [0, 1, 2, 3, 4, 5, 6, 7, 8, 9, 10, 11, 12, 13, 14, 15, 16, 17, 18, 19, 20, 21, 22, 23, 24, 25, 26, 27, 28, 29, 30, 31, 32, 33, 34, 35, 36, 37, 38, 39, 40, 41, 42, 43, 44, 45] (by decide) rfl)
            generalize H1 = H at hP hS ⊢
            refine lv_icmp_eq (tgt := 892) hx hb dL_law_287 (by decide) (fun hc_70 => ?_) (fun hc_70 => ?_)
            · replace h := h.1 hc_70
              refine lv_iinc (v := (v3_2 + 6)) (lv' := [(3, .int (v3_2 + 6)), (2, .ref (a 0)), (1, .ref (AA 0 0)), (0, .ref b)]) hx hb dL_law_892 hl (k := 0) rfl rfl (by decide) rfl (fun ls hl => ?_)
              refine lv_goto (tgt := 18) hx hb dL_law_895 (by decide) ?_
              exact ih_LL_1 _ _ _ _ _ _ _ _ _ _ _ h _ _ _ hP hD hS (lv_sub hl [0, 1, 2, 3] rfl)
            · replace h := h.2 hc_70
              refine lv_iconst (v := 0) hx hb dL_law_290 (by decide) ?_
              exact h.elim
          · replace h := h.2 hs_63
            by_cases hs_71 : ((xs v3_2.toNatClampNeg) &&& 31) = 4
            · replace h := h.1 hs_71
              refine lv_tableIn (tgt := 292) hx hb dL_law_33 (by rw [hs_71]; decide) (by rw [hs_71]; decide) (by rw [hs_71]; rfl) (by decide) ?_
              refine lv_aload_n hx hb dL_law_292 rfl (lv_at hl 2 rfl) ?_
              refine lv_aload_n hx hb dL_law_293 rfl (lv_at hl 3 rfl) ?_
              refine lv_iload_n hx hb dL_law_294 rfl (lv_at hl 0 rfl) ?_
              refine lv_iconst (v := 1) hx hb dL_law_295 (by decide) ?_
              refine lv_iadd hx hb dL_law_296 ?_
              obtain ⟨hi_72, h⟩ := h
              refine va_sld hx hb hX hbl hbA hS hi_72 dL_law_297 ?_
              refine lv_aload_n hx hb dL_law_298 rfl (lv_at hl 3 rfl) ?_
              refine lv_iload_n hx hb dL_law_299 rfl (lv_at hl 0 rfl) ?_
              refine lv_iconst (v := 2) hx hb dL_law_300 (by decide) ?_
              refine lv_iadd hx hb dL_law_301 ?_
              obtain ⟨hi_73, h⟩ := h
              refine va_sld hx hb hX hbl hbA hS hi_73 dL_law_302 ?_
              have hPc := hP.sub (ws' := (wd_X7 AA CA uf_3 um_4 ut_5 uh_6 ug_7 ur_8 uw_9 ux_10 uy_11)) [0, 1, 2, 3, 4, 5, 6, 7, 8, 9, 10, 11, 12, 13, 14, 15, 16, 17, 18, 19, 20, 21, 22, 23, 24, 25] rfl
              have hDc := hD.sub (ws' := (wd_X7 AA CA uf_3 um_4 ut_5 uh_6 ug_7 ur_8 uw_9 ux_10 uy_11)) [0, 1, 2, 3, 4, 5, 6, 7, 8, 9, 10, 11, 12, 13, 14, 15, 16, 17, 18, 19, 20, 21, 22, 23, 24, 25] (by decide) rfl
              have hKc := hK.sub (tys' := (ty_X7 CA)) [0, 1, 2, 3, 4, 5, 6, 7, 8, 9, 10, 11, 12, 13, 14, 15, 16] rfl
              have hFc := va_free (wc := (wd_X7 AA CA uf_3 um_4 ut_5 uh_6 ug_7 ur_8 uw_9 ux_10 uy_11)) hD hS hA [0, 1, 2, 3, 4, 5, 6, 7, 8, 9, 10, 11, 12, 13, 14, 15, 16, 17, 18, 19, 20, 21, 22, 23, 24, 25] rfl
              refine va_calli (va_runV (As := [.int (xs (v3_2 + 1).toNatClampNeg), .int (xs (v3_2 + 2).toNatClampNeg)]) (rest := []) ⟨hx, hb, hml, hown, hts⟩ (c_X7_told l dC dI AA CA H.size uf_3 um_4 ut_5 uh_6 ug_7 ur_8 uw_9 ux_10 uy_11 (xs (v3_2 + 1).toNatClampNeg) (xs (v3_2 + 2).toNatClampNeg) _ h) (cwV 2 hts gL_law_X7_told rfl rfl rfl (by decide +kernel) ⟨Nat.le_of_ble_eq_true rfl, Nat.le_of_ble_eq_true rfl⟩) ⟨fun a U g mk q => by obtain ⟨q0, q1, qP, qK, qD⟩ := q; exact ⟨q0, q1, qP, va_K.moved (u := U) (U := U.calling g mk a) (Vm.Alike.refl U.vm) qK, qD⟩, va_recv hKc hPc (ci := 6) (q0 := 0) rfl rfl, fun U hU hW => ⟨rfl, by rw [hU], by rw [hU]; exact hPc, va_K.moved hW.alike hKc, hDc.weaken (fun _ _ _ _ => trivial)⟩⟩ rfl rfl hl.1 rfl (lv_room (Nat.le_of_ble_eq_true rfl)) dL_law_303 ⟨Nat.le_of_ble_eq_true rfl, Nat.le_of_ble_eq_true rfl⟩) hS (fun q _ h => hFc q h) hFc (fun r_74 zz t H1 locs ht hvm hw hB hz1 hk1 hS => ?_)
              replace h := hw
              obtain ⟨hP1, hD1⟩ := hB
              rw [ht] at hP1
              obtain ⟨hP, hD⟩ := va_join (wr := [26, 27, 28, 29, 30, 31, 32, 33, 34, 35, 36, 37, 38, 39, 40, 41, 42, 43, 44, 45].filterMap (fun i => (wd_X7 AA CA uf_3 um_4 ut_5 uh_6 ug_7 ur_8 uw_9 ux_10 uy_11 ++ (wd_X8 a ca u8_12))[i]?)) (w1 := (wd_X7 AA CA uf_3 um_4 ut_5 uh_6 ug_7 ur_8 uw_9 ux_10 uy_11)) hP hD [0, 1, 2, 3, 4, 5, 6, 7, 8, 9, 10, 11, 12, 13, 14, 15, 16, 17, 18, 19, 20, 21, 22, 23, 24, 25] [26, 27, 28, 29, 30, 31, 32, 33, 34, 35, 36, 37, 38, 39, 40, 41, 42, 43, 44, 45] rfl rfl (by decide) (by decide) hk1 hFc hP1 hD1
              replace hP : va_P (dC, dI) vwCl (wd_X7 AA CA uf_3 um_4 ut_5 uh_6 ug_7 ur_8 uw_9 ux_10 uy_11 ++ (wd_X8 a ca u8_12)) H1 := (hP.sub [20, 21, 22, 23, 24, 25, 26, 27, 28, 29, 30, 31, 32, 33, 34, 35, 36, 37, 38, 39, 40, 41, 42, 43, 44, 45, 0, 1, 2, 3, 4, 5, 6, 7, 8, 9, 10, 11, 12, 13, 14, 15, 16, 17, 18, 19] rfl)
              replace hD : va_D (fun q : Nat => s.heap.size ≤ q) (wd_X7 AA CA uf_3 um_4 ut_5 uh_6 ug_7 ur_8 uw_9 ux_10 uy_11 ++ (wd_X8 a ca u8_12)) := (hD.sub [20, 21, 22, 23, 24, 25, 26, 27, 28, 29, 30, 31, 32, 33, 34, 35, 36, 37, 38, 39, 40, 41, 42, 43, 44, 45, 0, 1, 2, 3, 4, 5, 6, 7, 8, 9, 10, 11, 12, 13, 14, 15, 16, 17, 18, 19] (by decide) rfl)
              generalize H1 = H at hP hS ⊢
              refine lv_aload_n hx hb dL_law_306 rfl (lv_at hl 1 rfl) ?_
              refine lv_aload_n hx hb dL_law_307 rfl (lv_at hl 3 rfl) ?_
              refine lv_iload_n hx hb dL_law_308 rfl (lv_at hl 0 rfl) ?_
              refine lv_iconst (v := 1) hx hb dL_law_309 (by decide) ?_
              refine lv_iadd hx hb dL_law_310 ?_
              obtain ⟨hi_75, h⟩ := h
              refine va_sld hx hb hX hbl hbA hS hi_75 dL_law_311 ?_
              refine lv_aload_n hx hb dL_law_312 rfl (lv_at hl 3 rfl) ?_
              refine lv_iload_n hx hb dL_law_313 rfl (lv_at hl 0 rfl) ?_
              refine lv_iconst (v := 2) hx hb dL_law_314 (by decide) ?_
              refine lv_iadd hx hb dL_law_315 ?_
              obtain ⟨hi_76, h⟩ := h
              refine va_sld hx hb hX hbl hbA hS hi_76 dL_law_316 ?_
              have hPc := hP.sub (ws' := (wd_X8 a ca u8_12)) [26, 27, 28, 29, 30, 31, 32, 33, 34, 35, 36, 37, 38, 39, 40, 41, 42, 43, 44, 45] rfl
              have hDc := hD.sub (ws' := (wd_X8 a ca u8_12)) [26, 27, 28, 29, 30, 31, 32, 33, 34, 35, 36, 37, 38, 39, 40, 41, 42, 43, 44, 45] (by decide) rfl
              have hKc := hK.sub (tys' := (ty_X8 ca)) [17, 18, 19, 20, 21, 22, 23, 24, 25, 26, 27, 28, 29, 30, 31, 32, 33, 34, 35] rfl
              have hFc := va_free (wc := (wd_X8 a ca u8_12)) hD hS hA [26, 27, 28, 29, 30, 31, 32, 33, 34, 35, 36, 37, 38, 39, 40, 41, 42, 43, 44, 45] rfl
              refine va_calli (va_runV (As := [.int (xs (v3_2 + 1).toNatClampNeg), .int (xs (v3_2 + 2).toNatClampNeg)]) (rest := [.int r_74]) ⟨hx, hb, hml, hown, hts⟩ (c_X8_told l dC dI a ca H.size u8_12 (xs (v3_2 + 1).toNatClampNeg) (xs (v3_2 + 2).toNatClampNeg) _ h) (cwV 2 hts gL_law_X8_told rfl rfl rfl (by decide +kernel) ⟨Nat.le_of_ble_eq_true rfl, Nat.le_of_ble_eq_true rfl⟩) ⟨fun a U g mk q => by obtain ⟨q0, q1, qP, qK, qD⟩ := q; exact ⟨q0, q1, qP, va_K.moved (u := U) (U := U.calling g mk a) (Vm.Alike.refl U.vm) qK, qD⟩, va_recv hKc hPc (ci := 7) (q0 := 0) rfl rfl, fun U hU hW => ⟨rfl, by rw [hU], by rw [hU]; exact hPc, va_K.moved hW.alike hKc, hDc.weaken (fun _ _ _ _ => trivial)⟩⟩ rfl rfl hl.1 rfl (lv_room (Nat.le_of_ble_eq_true rfl)) dL_law_317 ⟨Nat.le_of_ble_eq_true rfl, Nat.le_of_ble_eq_true rfl⟩) hS (fun q _ h => hFc q h) hFc (fun r_77 zz t H1 locs ht hvm hw hB hz1 hk1 hS => ?_)
              replace h := hw
              obtain ⟨hP1, hD1⟩ := hB
              rw [ht] at hP1
              obtain ⟨hP, hD⟩ := va_join (wr := [0, 1, 2, 3, 4, 5, 6, 7, 8, 9, 10, 11, 12, 13, 14, 15, 16, 17, 18, 19, 20, 21, 22, 23, 24, 25].filterMap (fun i => (wd_X7 AA CA uf_3 um_4 ut_5 uh_6 ug_7 ur_8 uw_9 ux_10 uy_11 ++ (wd_X8 a ca u8_12))[i]?)) (w1 := (wd_X8 a ca u8_12)) hP hD [26, 27, 28, 29, 30, 31, 32, 33, 34, 35, 36, 37, 38, 39, 40, 41, 42, 43, 44, 45] [0, 1, 2, 3, 4, 5, 6, 7, 8, 9, 10, 11, 12, 13, 14, 15, 16, 17, 18, 19, 20, 21, 22, 23, 24, 25] rfl rfl (by decide) (by decide) hk1 hFc hP1 hD1
              replace hP : va_P (dC, dI) vwCl (wd_X7 AA CA uf_3 um_4 ut_5 uh_6 ug_7 ur_8 uw_9 ux_10 uy_11 ++ (wd_X8 a ca u8_12)) H1 := (hP.sub [0, 1, 2, 3, 4, 5, 6, 7, 8, 9, 10, 11, 12, 13, 14, 15, 16, 17, 18, 19, 20, 21, 22, 23, 24, 25, 26, 27, 28, 29, 30, 31, 32, 33, 34, 35, 36, 37, 38, 39, 40, 41, 42, 43, 44, 45] rfl)
              replace hD : va_D (fun q : Nat => s.heap.size ≤ q) (wd_X7 AA CA uf_3 um_4 ut_5 uh_6 ug_7 ur_8 uw_9 ux_10 uy_11 ++ (wd_X8 a ca u8_12)) := (hD.sub [0, 1, 2, 3, 4, 5, 6, 7, 8, 9, 10, 11, 12, 13, 14, 15, 16, 17, 18, 19, 20, 21, 22, 23, 24, 25, 26, 27, 28, 29, 30, 31, 32, 33, 34, 35, 36, 37, 38, 39, 40, 41, 42, 43, 44, 45] (by decide) rfl)
              generalize H1 = H at hP hS ⊢
              refine lv_icmp_eq (tgt := 892) hx hb dL_law_320 (by decide) (fun hc_78 => ?_) (fun hc_78 => ?_)
              · replace h := h.1 hc_78
                refine lv_iinc (v := (v3_2 + 6)) (lv' := [(3, .int (v3_2 + 6)), (2, .ref (a 0)), (1, .ref (AA 0 0)), (0, .ref b)]) hx hb dL_law_892 hl (k := 0) rfl rfl (by decide) rfl (fun ls hl => ?_)
                refine lv_goto (tgt := 18) hx hb dL_law_895 (by decide) ?_
                exact ih_LL_1 _ _ _ _ _ _ _ _ _ _ _ h _ _ _ hP hD hS (lv_sub hl [0, 1, 2, 3] rfl)
              · replace h := h.2 hc_78
                refine lv_iconst (v := 0) hx hb dL_law_323 (by decide) ?_
                exact h.elim
            · replace h := h.2 hs_71
              by_cases hs_79 : ((xs v3_2.toNatClampNeg) &&& 31) = 5
              · replace h := h.1 hs_79
                refine lv_tableIn (tgt := 325) hx hb dL_law_33 (by rw [hs_79]; decide) (by rw [hs_79]; decide) (by rw [hs_79]; rfl) (by decide) ?_
                refine lv_aload_n hx hb dL_law_325 rfl (lv_at hl 2 rfl) ?_
                refine lv_aload_n hx hb dL_law_326 rfl (lv_at hl 3 rfl) ?_
                refine lv_iload_n hx hb dL_law_327 rfl (lv_at hl 0 rfl) ?_
                refine lv_iconst (v := 1) hx hb dL_law_328 (by decide) ?_
                refine lv_iadd hx hb dL_law_329 ?_
                obtain ⟨hi_80, h⟩ := h
                refine va_sld hx hb hX hbl hbA hS hi_80 dL_law_330 ?_
                refine lv_i2l (v := (Int32.toInt64 (xs (v3_2 + 1).toNatClampNeg))) hx hb dL_law_331 rfl ?_
                refine lv_bipush (v := 32) hx hb dL_law_332 (by decide) ?_
                refine lv_lshl (v := (j_lshl (Int32.toInt64 (xs (v3_2 + 1).toNatClampNeg)) 32)) hx hb dL_law_334 rfl ?_
                refine lv_aload_n hx hb dL_law_335 rfl (lv_at hl 3 rfl) ?_
                refine lv_iload_n hx hb dL_law_336 rfl (lv_at hl 0 rfl) ?_
                refine lv_iconst (v := 2) hx hb dL_law_337 (by decide) ?_
                refine lv_iadd hx hb dL_law_338 ?_
                obtain ⟨hi_81, h⟩ := h
                refine va_sld hx hb hX hbl hbA hS hi_81 dL_law_339 ?_
                refine lv_i2l (v := (Int32.toInt64 (xs (v3_2 + 2).toNatClampNeg))) hx hb dL_law_340 rfl ?_
                refine lv_ldc2 hx hb hown lk_0 dL_law_341 ?_
                refine lv_land hx hb dL_law_344 ?_
                refine lv_lor hx hb dL_law_345 ?_
                refine lv_aload_n hx hb dL_law_346 rfl (lv_at hl 3 rfl) ?_
                refine lv_iload_n hx hb dL_law_347 rfl (lv_at hl 0 rfl) ?_
                refine lv_iconst (v := 3) hx hb dL_law_348 (by decide) ?_
                refine lv_iadd hx hb dL_law_349 ?_
                obtain ⟨hi_82, h⟩ := h
                refine va_sld hx hb hX hbl hbA hS hi_82 dL_law_350 ?_
                have hPc := hP.sub (ws' := (wd_X7 AA CA uf_3 um_4 ut_5 uh_6 ug_7 ur_8 uw_9 ux_10 uy_11)) [0, 1, 2, 3, 4, 5, 6, 7, 8, 9, 10, 11, 12, 13, 14, 15, 16, 17, 18, 19, 20, 21, 22, 23, 24, 25] rfl
                have hDc := hD.sub (ws' := (wd_X7 AA CA uf_3 um_4 ut_5 uh_6 ug_7 ur_8 uw_9 ux_10 uy_11)) [0, 1, 2, 3, 4, 5, 6, 7, 8, 9, 10, 11, 12, 13, 14, 15, 16, 17, 18, 19, 20, 21, 22, 23, 24, 25] (by decide) rfl
                have hKc := hK.sub (tys' := (ty_X7 CA)) [0, 1, 2, 3, 4, 5, 6, 7, 8, 9, 10, 11, 12, 13, 14, 15, 16] rfl
                have hFc := va_free (wc := (wd_X7 AA CA uf_3 um_4 ut_5 uh_6 ug_7 ur_8 uw_9 ux_10 uy_11)) hD hS hA [0, 1, 2, 3, 4, 5, 6, 7, 8, 9, 10, 11, 12, 13, 14, 15, 16, 17, 18, 19, 20, 21, 22, 23, 24, 25] rfl
                refine va_calli (va_runV (As := [.long ((j_lshl (Int32.toInt64 (xs (v3_2 + 1).toNatClampNeg)) 32) ||| ((Int32.toInt64 (xs (v3_2 + 2).toNatClampNeg)) &&& 4294967295)), .int (xs (v3_2 + 3).toNatClampNeg)]) (rest := []) ⟨hx, hb, hml, hown, hts⟩ (c_X7_type l dC dI AA CA H.size uf_3 um_4 ut_5 uh_6 ug_7 ur_8 uw_9 ux_10 uy_11 ((j_lshl (Int32.toInt64 (xs (v3_2 + 1).toNatClampNeg)) 32) ||| ((Int32.toInt64 (xs (v3_2 + 2).toNatClampNeg)) &&& 4294967295)) (xs (v3_2 + 3).toNatClampNeg) _ h) (cwV 2 hts gL_law_X7_type rfl rfl rfl (by decide +kernel) ⟨Nat.le_of_ble_eq_true rfl, Nat.le_of_ble_eq_true rfl⟩) ⟨fun a U g mk q => by obtain ⟨q0, q1, qP, qK, qD⟩ := q; exact ⟨q0, q1, qP, va_K.moved (u := U) (U := U.calling g mk a) (Vm.Alike.refl U.vm) qK, qD⟩, va_recv hKc hPc (ci := 6) (q0 := 0) rfl rfl, fun U hU hW => ⟨rfl, by rw [hU], by rw [hU]; exact hPc, va_K.moved hW.alike hKc, hDc.weaken (fun _ _ _ _ => trivial)⟩⟩ rfl rfl hl.1 rfl (lv_room (Nat.le_of_ble_eq_true rfl)) dL_law_351 ⟨Nat.le_of_ble_eq_true rfl, Nat.le_of_ble_eq_true rfl⟩) hS (fun q _ h => hFc q h) hFc (fun r_83 zz t H1 locs ht hvm hw hB hz1 hk1 hS => ?_)
                obtain ⟨ut_84, rfl⟩ : ∃ z, z = zz := ⟨_, rfl⟩
                replace h := hw
                obtain ⟨hP1, hD1⟩ := hB
                rw [ht] at hP1
                obtain ⟨hP, hD⟩ := va_join (wr := [26, 27, 28, 29, 30, 31, 32, 33, 34, 35, 36, 37, 38, 39, 40, 41, 42, 43, 44, 45].filterMap (fun i => (wd_X7 AA CA uf_3 um_4 ut_5 uh_6 ug_7 ur_8 uw_9 ux_10 uy_11 ++ (wd_X8 a ca u8_12))[i]?)) (w1 := (wd_X7 AA CA uf_3 um_4 ut_84 uh_6 ug_7 ur_8 uw_9 ux_10 uy_11)) hP hD [0, 1, 2, 3, 4, 5, 6, 7, 8, 9, 10, 11, 12, 13, 14, 15, 16, 17, 18, 19, 20, 21, 22, 23, 24, 25] [26, 27, 28, 29, 30, 31, 32, 33, 34, 35, 36, 37, 38, 39, 40, 41, 42, 43, 44, 45] rfl rfl (by decide) (by decide) hk1 hFc hP1 hD1
                replace hP : va_P (dC, dI) vwCl (wd_X7 AA CA uf_3 um_4 ut_84 uh_6 ug_7 ur_8 uw_9 ux_10 uy_11 ++ (wd_X8 a ca u8_12)) H1 := (hP.sub [20, 21, 22, 23, 24, 25, 26, 27, 28, 29, 30, 31, 32, 33, 34, 35, 36, 37, 38, 39, 40, 41, 42, 43, 44, 45, 0, 1, 2, 3, 4, 5, 6, 7, 8, 9, 10, 11, 12, 13, 14, 15, 16, 17, 18, 19] rfl)
                replace hD : va_D (fun q : Nat => s.heap.size ≤ q) (wd_X7 AA CA uf_3 um_4 ut_84 uh_6 ug_7 ur_8 uw_9 ux_10 uy_11 ++ (wd_X8 a ca u8_12)) := (hD.sub [20, 21, 22, 23, 24, 25, 26, 27, 28, 29, 30, 31, 32, 33, 34, 35, 36, 37, 38, 39, 40, 41, 42, 43, 44, 45, 0, 1, 2, 3, 4, 5, 6, 7, 8, 9, 10, 11, 12, 13, 14, 15, 16, 17, 18, 19] (by decide) rfl)
                generalize H1 = H at hP hS ⊢
                refine lv_aload_n hx hb dL_law_354 rfl (lv_at hl 1 rfl) ?_
                refine lv_aload_n hx hb dL_law_355 rfl (lv_at hl 3 rfl) ?_
                refine lv_iload_n hx hb dL_law_356 rfl (lv_at hl 0 rfl) ?_
                refine lv_iconst (v := 1) hx hb dL_law_357 (by decide) ?_
                refine lv_iadd hx hb dL_law_358 ?_
                obtain ⟨hi_85, h⟩ := h
                refine va_sld hx hb hX hbl hbA hS hi_85 dL_law_359 ?_
                refine lv_i2l (v := (Int32.toInt64 (xs (v3_2 + 1).toNatClampNeg))) hx hb dL_law_360 rfl ?_
                refine lv_bipush (v := 32) hx hb dL_law_361 (by decide) ?_
                refine lv_lshl (v := (j_lshl (Int32.toInt64 (xs (v3_2 + 1).toNatClampNeg)) 32)) hx hb dL_law_363 rfl ?_
                refine lv_aload_n hx hb dL_law_364 rfl (lv_at hl 3 rfl) ?_
                refine lv_iload_n hx hb dL_law_365 rfl (lv_at hl 0 rfl) ?_
                refine lv_iconst (v := 2) hx hb dL_law_366 (by decide) ?_
                refine lv_iadd hx hb dL_law_367 ?_
                obtain ⟨hi_86, h⟩ := h
                refine va_sld hx hb hX hbl hbA hS hi_86 dL_law_368 ?_
                refine lv_i2l (v := (Int32.toInt64 (xs (v3_2 + 2).toNatClampNeg))) hx hb dL_law_369 rfl ?_
                refine lv_ldc2 hx hb hown lk_0 dL_law_370 ?_
                refine lv_land hx hb dL_law_373 ?_
                refine lv_lor hx hb dL_law_374 ?_
                refine lv_aload_n hx hb dL_law_375 rfl (lv_at hl 3 rfl) ?_
                refine lv_iload_n hx hb dL_law_376 rfl (lv_at hl 0 rfl) ?_
                refine lv_iconst (v := 3) hx hb dL_law_377 (by decide) ?_
                refine lv_iadd hx hb dL_law_378 ?_
                obtain ⟨hi_87, h⟩ := h
                refine va_sld hx hb hX hbl hbA hS hi_87 dL_law_379 ?_
                have hPc := hP.sub (ws' := (wd_X8 a ca u8_12)) [26, 27, 28, 29, 30, 31, 32, 33, 34, 35, 36, 37, 38, 39, 40, 41, 42, 43, 44, 45] rfl
                have hDc := hD.sub (ws' := (wd_X8 a ca u8_12)) [26, 27, 28, 29, 30, 31, 32, 33, 34, 35, 36, 37, 38, 39, 40, 41, 42, 43, 44, 45] (by decide) rfl
                have hKc := hK.sub (tys' := (ty_X8 ca)) [17, 18, 19, 20, 21, 22, 23, 24, 25, 26, 27, 28, 29, 30, 31, 32, 33, 34, 35] rfl
                have hFc := va_free (wc := (wd_X8 a ca u8_12)) hD hS hA [26, 27, 28, 29, 30, 31, 32, 33, 34, 35, 36, 37, 38, 39, 40, 41, 42, 43, 44, 45] rfl
                refine va_calli (va_runV (As := [.long ((j_lshl (Int32.toInt64 (xs (v3_2 + 1).toNatClampNeg)) 32) ||| ((Int32.toInt64 (xs (v3_2 + 2).toNatClampNeg)) &&& 4294967295)), .int (xs (v3_2 + 3).toNatClampNeg)]) (rest := [.int r_83]) ⟨hx, hb, hml, hown, hts⟩ (c_X8_type l dC dI a ca H.size u8_12 ((j_lshl (Int32.toInt64 (xs (v3_2 + 1).toNatClampNeg)) 32) ||| ((Int32.toInt64 (xs (v3_2 + 2).toNatClampNeg)) &&& 4294967295)) (xs (v3_2 + 3).toNatClampNeg) _ h) (cwV 2 hts gL_law_X8_type rfl rfl rfl (by decide +kernel) ⟨Nat.le_of_ble_eq_true rfl, Nat.le_of_ble_eq_true rfl⟩) ⟨fun a U g mk q => by obtain ⟨q0, q1, qP, qK, qD⟩ := q; exact ⟨q0, q1, qP, va_K.moved (u := U) (U := U.calling g mk a) (Vm.Alike.refl U.vm) qK, qD⟩, va_recv hKc hPc (ci := 7) (q0 := 0) rfl rfl, fun U hU hW => ⟨rfl, by rw [hU], by rw [hU]; exact hPc, va_K.moved hW.alike hKc, hDc.weaken (fun _ _ _ _ => trivial)⟩⟩ rfl rfl hl.1 rfl (lv_room (Nat.le_of_ble_eq_true rfl)) dL_law_380 ⟨Nat.le_of_ble_eq_true rfl, Nat.le_of_ble_eq_true rfl⟩) hS (fun q _ h => hFc q h) hFc (fun r_88 zz t H1 locs ht hvm hw hB hz1 hk1 hS => ?_)
                obtain ⟨u8_89, rfl⟩ : ∃ z, z = zz := ⟨_, rfl⟩
                replace h := hw
                obtain ⟨hP1, hD1⟩ := hB
                rw [ht] at hP1
                obtain ⟨hP, hD⟩ := va_join (wr := [0, 1, 2, 3, 4, 5, 6, 7, 8, 9, 10, 11, 12, 13, 14, 15, 16, 17, 18, 19, 20, 21, 22, 23, 24, 25].filterMap (fun i => (wd_X7 AA CA uf_3 um_4 ut_84 uh_6 ug_7 ur_8 uw_9 ux_10 uy_11 ++ (wd_X8 a ca u8_12))[i]?)) (w1 := (wd_X8 a ca u8_89)) hP hD [26, 27, 28, 29, 30, 31, 32, 33, 34, 35, 36, 37, 38, 39, 40, 41, 42, 43, 44, 45] [0, 1, 2, 3, 4, 5, 6, 7, 8, 9, 10, 11, 12, 13, 14, 15, 16, 17, 18, 19, 20, 21, 22, 23, 24, 25] rfl rfl (by decide) (by decide) hk1 hFc hP1 hD1
                replace hP : va_P (dC, dI) vwCl (wd_X7 AA CA uf_3 um_4 ut_84 uh_6 ug_7 ur_8 uw_9 ux_10 uy_11 ++ (wd_X8 a ca u8_89)) H1 := (hP.sub [0, 1, 2, 3, 4, 5, 6, 7, 8, 9, 10, 11, 12, 13, 14, 15, 16, 17, 18, 19, 20, 21, 22, 23, 24, 25, 26, 27, 28, 29, 30, 31, 32, 33, 34, 35, 36, 37, 38, 39, 40, 41, 42, 43, 44, 45] rfl)
                replace hD : va_D (fun q : Nat => s.heap.size ≤ q) (wd_X7 AA CA uf_3 um_4 ut_84 uh_6 ug_7 ur_8 uw_9 ux_10 uy_11 ++ (wd_X8 a ca u8_89)) := (hD.sub [0, 1, 2, 3, 4, 5, 6, 7, 8, 9, 10, 11, 12, 13, 14, 15, 16, 17, 18, 19, 20, 21, 22, 23, 24, 25, 26, 27, 28, 29, 30, 31, 32, 33, 34, 35, 36, 37, 38, 39, 40, 41, 42, 43, 44, 45] (by decide) rfl)
                generalize H1 = H at hP hS ⊢
                refine lv_icmp_eq (tgt := 892) hx hb dL_law_383 (by decide) (fun hc_90 => ?_) (fun hc_90 => ?_)
                · replace h := h.1 hc_90
                  refine lv_iinc (v := (v3_2 + 6)) (lv' := [(3, .int (v3_2 + 6)), (2, .ref (a 0)), (1, .ref (AA 0 0)), (0, .ref b)]) hx hb dL_law_892 hl (k := 0) rfl rfl (by decide) rfl (fun ls hl => ?_)
                  refine lv_goto (tgt := 18) hx hb dL_law_895 (by decide) ?_
                  exact ih_LL_1 _ _ _ _ _ _ _ _ _ _ _ h _ _ _ hP hD hS (lv_sub hl [0, 1, 2, 3] rfl)
                · replace h := h.2 hc_90
                  refine lv_iconst (v := 0) hx hb dL_law_386 (by decide) ?_
                  exact h.elim
              · replace h := h.2 hs_79
                by_cases hs_91 : ((xs v3_2.toNatClampNeg) &&& 31) = 6
                · replace h := h.1 hs_91
                  refine lv_tableIn (tgt := 388) hx hb dL_law_33 (by rw [hs_91]; decide) (by rw [hs_91]; decide) (by rw [hs_91]; rfl) (by decide) ?_
                  refine lv_aload_n hx hb dL_law_388 rfl (lv_at hl 2 rfl) ?_
                  have hPc := hP.sub (ws' := (wd_X7 AA CA uf_3 um_4 ut_5 uh_6 ug_7 ur_8 uw_9 ux_10 uy_11)) [0, 1, 2, 3, 4, 5, 6, 7, 8, 9, 10, 11, 12, 13, 14, 15, 16, 17, 18, 19, 20, 21, 22, 23, 24, 25] rfl
                  have hDc := hD.sub (ws' := (wd_X7 AA CA uf_3 um_4 ut_5 uh_6 ug_7 ur_8 uw_9 ux_10 uy_11)) [0, 1, 2, 3, 4, 5, 6, 7, 8, 9, 10, 11, 12, 13, 14, 15, 16, 17, 18, 19, 20, 21, 22, 23, 24, 25] (by decide) rfl
                  have hKc := hK.sub (tys' := (ty_X7 CA)) [0, 1, 2, 3, 4, 5, 6, 7, 8, 9, 10, 11, 12, 13, 14, 15, 16] rfl
                  have hFc := va_free (wc := (wd_X7 AA CA uf_3 um_4 ut_5 uh_6 ug_7 ur_8 uw_9 ux_10 uy_11)) hD hS hA [0, 1, 2, 3, 4, 5, 6, 7, 8, 9, 10, 11, 12, 13, 14, 15, 16, 17, 18, 19, 20, 21, 22, 23, 24, 25] rfl
                  refine va_calli (va_runV (As := []) (rest := []) ⟨hx, hb, hml, hown, hts⟩ (c_X7_read l dC dI AA CA H.size uf_3 um_4 ut_5 uh_6 ug_7 ur_8 uw_9 ux_10 uy_11 _ h) (cwV 0 hts gL_law_X7_read rfl rfl rfl (by decide +kernel) ⟨Nat.le_of_ble_eq_true rfl, Nat.le_of_ble_eq_true rfl⟩) ⟨fun a U g mk q => by obtain ⟨q0, q1, qP, qK, qD, qN⟩ := q; exact ⟨q0, q1, qP, va_K.moved (u := U) (U := U.calling g mk a) (Vm.Alike.refl U.vm) qK, qD, qN.call⟩, va_recv hKc hPc (ci := 6) (q0 := 0) rfl rfl, fun U hU hW => ⟨rfl, by rw [hU], by rw [hU]; exact hPc, va_K.moved hW.alike hKc, hDc.weaken (fun _ _ _ _ => trivial), hN.warm hW⟩⟩ rfl rfl hl.1 rfl (lv_room (Nat.le_of_ble_eq_true rfl)) dL_law_389 ⟨Nat.le_of_ble_eq_true rfl, Nat.le_of_ble_eq_true rfl⟩) hS (fun q _ h => hFc q h) hFc (fun r_92 zz t H1 locs ht hvm hw hB hz1 hk1 hS => ?_)
                  obtain ⟨uf_93, um_94, ut_95, uh_96⟩ := zz
                  replace h := hw
                  obtain ⟨hP1, hD1⟩ := hB
                  rw [ht] at hP1
                  obtain ⟨hP, hD⟩ := va_join (wr := [26, 27, 28, 29, 30, 31, 32, 33, 34, 35, 36, 37, 38, 39, 40, 41, 42, 43, 44, 45].filterMap (fun i => (wd_X7 AA CA uf_3 um_4 ut_5 uh_6 ug_7 ur_8 uw_9 ux_10 uy_11 ++ (wd_X8 a ca u8_12))[i]?)) (w1 := (wd_X7 AA CA uf_93 um_94 ut_95 uh_96 ug_7 ur_8 uw_9 ux_10 uy_11)) hP hD [0, 1, 2, 3, 4, 5, 6, 7, 8, 9, 10, 11, 12, 13, 14, 15, 16, 17, 18, 19, 20, 21, 22, 23, 24, 25] [26, 27, 28, 29, 30, 31, 32, 33, 34, 35, 36, 37, 38, 39, 40, 41, 42, 43, 44, 45] rfl rfl (by decide) (by decide) hk1 hFc hP1 hD1
                  replace hP : va_P (dC, dI) vwCl (wd_X7 AA CA uf_93 um_94 ut_95 uh_96 ug_7 ur_8 uw_9 ux_10 uy_11 ++ (wd_X8 a ca u8_12)) H1 := (hP.sub [20, 21, 22, 23, 24, 25, 26, 27, 28, 29, 30, 31, 32, 33, 34, 35, 36, 37, 38, 39, 40, 41, 42, 43, 44, 45, 0, 1, 2, 3, 4, 5, 6, 7, 8, 9, 10, 11, 12, 13, 14, 15, 16, 17, 18, 19] rfl)
                  replace hD : va_D (fun q : Nat => s.heap.size ≤ q) (wd_X7 AA CA uf_93 um_94 ut_95 uh_96 ug_7 ur_8 uw_9 ux_10 uy_11 ++ (wd_X8 a ca u8_12)) := (hD.sub [20, 21, 22, 23, 24, 25, 26, 27, 28, 29, 30, 31, 32, 33, 34, 35, 36, 37, 38, 39, 40, 41, 42, 43, 44, 45, 0, 1, 2, 3, 4, 5, 6, 7, 8, 9, 10, 11, 12, 13, 14, 15, 16, 17, 18, 19] (by decide) rfl)
                  generalize H1 = H at hP hS ⊢
                  refine lv_aload_n hx hb dL_law_392 rfl (lv_at hl 1 rfl) ?_
                  have hPc := hP.sub (ws' := (wd_X8 a ca u8_12)) [26, 27, 28, 29, 30, 31, 32, 33, 34, 35, 36, 37, 38, 39, 40, 41, 42, 43, 44, 45] rfl
                  have hDc := hD.sub (ws' := (wd_X8 a ca u8_12)) [26, 27, 28, 29, 30, 31, 32, 33, 34, 35, 36, 37, 38, 39, 40, 41, 42, 43, 44, 45] (by decide) rfl
                  have hKc := hK.sub (tys' := (ty_X8 ca)) [17, 18, 19, 20, 21, 22, 23, 24, 25, 26, 27, 28, 29, 30, 31, 32, 33, 34, 35] rfl
                  have hFc := va_free (wc := (wd_X8 a ca u8_12)) hD hS hA [26, 27, 28, 29, 30, 31, 32, 33, 34, 35, 36, 37, 38, 39, 40, 41, 42, 43, 44, 45] rfl
                  refine va_calli (va_runV (As := []) (rest := [.int r_92]) ⟨hx, hb, hml, hown, hts⟩ (c_X8_read l dC dI a ca H.size u8_12 _ h) (cwV 0 hts gL_law_X8_read rfl rfl rfl (by decide +kernel) ⟨Nat.le_of_ble_eq_true rfl, Nat.le_of_ble_eq_true rfl⟩) ⟨fun a U g mk q => by obtain ⟨q0, q1, qP, qK, qD⟩ := q; exact ⟨q0, q1, qP, va_K.moved (u := U) (U := U.calling g mk a) (Vm.Alike.refl U.vm) qK, qD⟩, va_recv hKc hPc (ci := 7) (q0 := 0) rfl rfl, fun U hU hW => ⟨rfl, by rw [hU], by rw [hU]; exact hPc, va_K.moved hW.alike hKc, hDc.weaken (fun _ _ _ _ => trivial)⟩⟩ rfl rfl hl.1 rfl (lv_room (Nat.le_of_ble_eq_true rfl)) dL_law_393 ⟨Nat.le_of_ble_eq_true rfl, Nat.le_of_ble_eq_true rfl⟩) hS (fun q _ h => hFc q h) hFc (fun r_97 zz t H1 locs ht hvm hw hB hz1 hk1 hS => ?_)
                  obtain ⟨u8_98, rfl⟩ : ∃ z, z = zz := ⟨_, rfl⟩
                  replace h := hw
                  obtain ⟨hP1, hD1⟩ := hB
                  rw [ht] at hP1
                  obtain ⟨hP, hD⟩ := va_join (wr := [0, 1, 2, 3, 4, 5, 6, 7, 8, 9, 10, 11, 12, 13, 14, 15, 16, 17, 18, 19, 20, 21, 22, 23, 24, 25].filterMap (fun i => (wd_X7 AA CA uf_93 um_94 ut_95 uh_96 ug_7 ur_8 uw_9 ux_10 uy_11 ++ (wd_X8 a ca u8_12))[i]?)) (w1 := (wd_X8 a ca u8_98)) hP hD [26, 27, 28, 29, 30, 31, 32, 33, 34, 35, 36, 37, 38, 39, 40, 41, 42, 43, 44, 45] [0, 1, 2, 3, 4, 5, 6, 7, 8, 9, 10, 11, 12, 13, 14, 15, 16, 17, 18, 19, 20, 21, 22, 23, 24, 25] rfl rfl (by decide) (by decide) hk1 hFc hP1 hD1
                  replace hP : va_P (dC, dI) vwCl (wd_X7 AA CA uf_93 um_94 ut_95 uh_96 ug_7 ur_8 uw_9 ux_10 uy_11 ++ (wd_X8 a ca u8_98)) H1 := (hP.sub [0, 1, 2, 3, 4, 5, 6, 7, 8, 9, 10, 11, 12, 13, 14, 15, 16, 17, 18, 19, 20, 21, 22, 23, 24, 25, 26, 27, 28, 29, 30, 31, 32, 33, 34, 35, 36, 37, 38, 39, 40, 41, 42, 43, 44, 45] rfl)
                  replace hD : va_D (fun q : Nat => s.heap.size ≤ q) (wd_X7 AA CA uf_93 um_94 ut_95 uh_96 ug_7 ur_8 uw_9 ux_10 uy_11 ++ (wd_X8 a ca u8_98)) := (hD.sub [0, 1, 2, 3, 4, 5, 6, 7, 8, 9, 10, 11, 12, 13, 14, 15, 16, 17, 18, 19, 20, 21, 22, 23, 24, 25, 26, 27, 28, 29, 30, 31, 32, 33, 34, 35, 36, 37, 38, 39, 40, 41, 42, 43, 44, 45] (by decide) rfl)
                  generalize H1 = H at hP hS ⊢
                  refine lv_icmp_eq (tgt := 892) hx hb dL_law_396 (by decide) (fun hc_99 => ?_) (fun hc_99 => ?_)
                  · replace h := h.1 hc_99
                    refine lv_iinc (v := (v3_2 + 6)) (lv' := [(3, .int (v3_2 + 6)), (2, .ref (a 0)), (1, .ref (AA 0 0)), (0, .ref b)]) hx hb dL_law_892 hl (k := 0) rfl rfl (by decide) rfl (fun ls hl => ?_)
                    refine lv_goto (tgt := 18) hx hb dL_law_895 (by decide) ?_
                    exact ih_LL_1 _ _ _ _ _ _ _ _ _ _ _ h _ _ _ hP hD hS (lv_sub hl [0, 1, 2, 3] rfl)
                  · replace h := h.2 hc_99
                    refine lv_iconst (v := 0) hx hb dL_law_399 (by decide) ?_
                    exact h.elim
                · replace h := h.2 hs_91
                  by_cases hs_100 : ((xs v3_2.toNatClampNeg) &&& 31) = 7
                  · replace h := h.1 hs_100
                    refine lv_tableIn (tgt := 401) hx hb dL_law_33 (by rw [hs_100]; decide) (by rw [hs_100]; decide) (by rw [hs_100]; rfl) (by decide) ?_
                    refine lv_aload_n hx hb dL_law_401 rfl (lv_at hl 2 rfl) ?_
                    refine lv_aload_n hx hb dL_law_402 rfl (lv_at hl 3 rfl) ?_
                    refine lv_iload_n hx hb dL_law_403 rfl (lv_at hl 0 rfl) ?_
                    refine lv_iconst (v := 1) hx hb dL_law_404 (by decide) ?_
                    refine lv_iadd hx hb dL_law_405 ?_
                    obtain ⟨hi_101, h⟩ := h
                    refine va_sld hx hb hX hbl hbA hS hi_101 dL_law_406 ?_
                    refine lv_aload_n hx hb dL_law_407 rfl (lv_at hl 3 rfl) ?_
                    refine lv_iload_n hx hb dL_law_408 rfl (lv_at hl 0 rfl) ?_
                    refine lv_iconst (v := 2) hx hb dL_law_409 (by decide) ?_
                    refine lv_iadd hx hb dL_law_410 ?_
                    obtain ⟨hi_102, h⟩ := h
                    refine va_sld hx hb hX hbl hbA hS hi_102 dL_law_411 ?_
                    refine lv_aload_n hx hb dL_law_412 rfl (lv_at hl 3 rfl) ?_
                    refine lv_iload_n hx hb dL_law_413 rfl (lv_at hl 0 rfl) ?_
                    refine lv_iconst (v := 3) hx hb dL_law_414 (by decide) ?_
                    refine lv_iadd hx hb dL_law_415 ?_
                    obtain ⟨hi_103, h⟩ := h
                    refine va_sld hx hb hX hbl hbA hS hi_103 dL_law_416 ?_
                    refine lv_aload_n hx hb dL_law_417 rfl (lv_at hl 3 rfl) ?_
                    refine lv_iload_n hx hb dL_law_418 rfl (lv_at hl 0 rfl) ?_
                    refine lv_iconst (v := 4) hx hb dL_law_419 (by decide) ?_
                    refine lv_iadd hx hb dL_law_420 ?_
                    obtain ⟨hi_104, h⟩ := h
                    refine va_sld hx hb hX hbl hbA hS hi_104 dL_law_421 ?_
                    have hPc := hP.sub (ws' := (wd_X7 AA CA uf_3 um_4 ut_5 uh_6 ug_7 ur_8 uw_9 ux_10 uy_11)) [0, 1, 2, 3, 4, 5, 6, 7, 8, 9, 10, 11, 12, 13, 14, 15, 16, 17, 18, 19, 20, 21, 22, 23, 24, 25] rfl
                    have hDc := hD.sub (ws' := (wd_X7 AA CA uf_3 um_4 ut_5 uh_6 ug_7 ur_8 uw_9 ux_10 uy_11)) [0, 1, 2, 3, 4, 5, 6, 7, 8, 9, 10, 11, 12, 13, 14, 15, 16, 17, 18, 19, 20, 21, 22, 23, 24, 25] (by decide) rfl
                    have hKc := hK.sub (tys' := (ty_X7 CA)) [0, 1, 2, 3, 4, 5, 6, 7, 8, 9, 10, 11, 12, 13, 14, 15, 16] rfl
                    have hFc := va_free (wc := (wd_X7 AA CA uf_3 um_4 ut_5 uh_6 ug_7 ur_8 uw_9 ux_10 uy_11)) hD hS hA [0, 1, 2, 3, 4, 5, 6, 7, 8, 9, 10, 11, 12, 13, 14, 15, 16, 17, 18, 19, 20, 21, 22, 23, 24, 25] rfl
                    refine va_calli (va_runV (As := [.int (xs (v3_2 + 1).toNatClampNeg), .int (xs (v3_2 + 2).toNatClampNeg), .int (xs (v3_2 + 3).toNatClampNeg), .int (xs (v3_2 + 4).toNatClampNeg)]) (rest := []) ⟨hx, hb, hml, hown, hts⟩ (c_X7_arcs l dC dI AA CA H.size uf_3 um_4 ut_5 uh_6 ug_7 ur_8 uw_9 ux_10 uy_11 (xs (v3_2 + 1).toNatClampNeg) (xs (v3_2 + 2).toNatClampNeg) (xs (v3_2 + 3).toNatClampNeg) (xs (v3_2 + 4).toNatClampNeg) _ h) (cwV 4 hts gL_law_X7_arcs rfl rfl rfl (by decide +kernel) ⟨Nat.le_of_ble_eq_true rfl, Nat.le_of_ble_eq_true rfl⟩) ⟨fun a U g mk q => by obtain ⟨q0, q1, qP, qK, qD, qN⟩ := q; exact ⟨q0, q1, qP, va_K.moved (u := U) (U := U.calling g mk a) (Vm.Alike.refl U.vm) qK, qD, qN.call⟩, va_recv hKc hPc (ci := 6) (q0 := 0) rfl rfl, fun U hU hW => ⟨rfl, by rw [hU], by rw [hU]; exact hPc, va_K.moved hW.alike hKc, hDc.weaken (fun _ _ _ _ => trivial), hN.warm hW⟩⟩ rfl rfl hl.1 rfl (lv_room (Nat.le_of_ble_eq_true rfl)) dL_law_422 ⟨Nat.le_of_ble_eq_true rfl, Nat.le_of_ble_eq_true rfl⟩) hS (fun q _ h => hFc q h) hFc (fun r_105 zz t H1 locs ht hvm hw hB hz1 hk1 hS => ?_)
                    obtain ⟨uf_106, um_107, uh_108⟩ := zz
                    replace h := hw
                    obtain ⟨hP1, hD1⟩ := hB
                    rw [ht] at hP1
                    obtain ⟨hP, hD⟩ := va_join (wr := [26, 27, 28, 29, 30, 31, 32, 33, 34, 35, 36, 37, 38, 39, 40, 41, 42, 43, 44, 45].filterMap (fun i => (wd_X7 AA CA uf_3 um_4 ut_5 uh_6 ug_7 ur_8 uw_9 ux_10 uy_11 ++ (wd_X8 a ca u8_12))[i]?)) (w1 := (wd_X7 AA CA uf_106 um_107 ut_5 uh_108 ug_7 ur_8 uw_9 ux_10 uy_11)) hP hD [0, 1, 2, 3, 4, 5, 6, 7, 8, 9, 10, 11, 12, 13, 14, 15, 16, 17, 18, 19, 20, 21, 22, 23, 24, 25] [26, 27, 28, 29, 30, 31, 32, 33, 34, 35, 36, 37, 38, 39, 40, 41, 42, 43, 44, 45] rfl rfl (by decide) (by decide) hk1 hFc hP1 hD1
                    replace hP : va_P (dC, dI) vwCl (wd_X7 AA CA uf_106 um_107 ut_5 uh_108 ug_7 ur_8 uw_9 ux_10 uy_11 ++ (wd_X8 a ca u8_12)) H1 := (hP.sub [20, 21, 22, 23, 24, 25, 26, 27, 28, 29, 30, 31, 32, 33, 34, 35, 36, 37, 38, 39, 40, 41, 42, 43, 44, 45, 0, 1, 2, 3, 4, 5, 6, 7, 8, 9, 10, 11, 12, 13, 14, 15, 16, 17, 18, 19] rfl)
                    replace hD : va_D (fun q : Nat => s.heap.size ≤ q) (wd_X7 AA CA uf_106 um_107 ut_5 uh_108 ug_7 ur_8 uw_9 ux_10 uy_11 ++ (wd_X8 a ca u8_12)) := (hD.sub [20, 21, 22, 23, 24, 25, 26, 27, 28, 29, 30, 31, 32, 33, 34, 35, 36, 37, 38, 39, 40, 41, 42, 43, 44, 45, 0, 1, 2, 3, 4, 5, 6, 7, 8, 9, 10, 11, 12, 13, 14, 15, 16, 17, 18, 19] (by decide) rfl)
                    generalize H1 = H at hP hS ⊢
                    refine lv_aload_n hx hb dL_law_425 rfl (lv_at hl 1 rfl) ?_
                    refine lv_aload_n hx hb dL_law_426 rfl (lv_at hl 3 rfl) ?_
                    refine lv_iload_n hx hb dL_law_427 rfl (lv_at hl 0 rfl) ?_
                    refine lv_iconst (v := 1) hx hb dL_law_428 (by decide) ?_
                    refine lv_iadd hx hb dL_law_429 ?_
                    obtain ⟨hi_109, h⟩ := h
                    refine va_sld hx hb hX hbl hbA hS hi_109 dL_law_430 ?_
                    refine lv_aload_n hx hb dL_law_431 rfl (lv_at hl 3 rfl) ?_
                    refine lv_iload_n hx hb dL_law_432 rfl (lv_at hl 0 rfl) ?_
                    refine lv_iconst (v := 2) hx hb dL_law_433 (by decide) ?_
                    refine lv_iadd hx hb dL_law_434 ?_
                    obtain ⟨hi_110, h⟩ := h
                    refine va_sld hx hb hX hbl hbA hS hi_110 dL_law_435 ?_
                    refine lv_aload_n hx hb dL_law_436 rfl (lv_at hl 3 rfl) ?_
                    refine lv_iload_n hx hb dL_law_437 rfl (lv_at hl 0 rfl) ?_
                    refine lv_iconst (v := 3) hx hb dL_law_438 (by decide) ?_
                    refine lv_iadd hx hb dL_law_439 ?_
                    obtain ⟨hi_111, h⟩ := h
                    refine va_sld hx hb hX hbl hbA hS hi_111 dL_law_440 ?_
                    refine lv_aload_n hx hb dL_law_441 rfl (lv_at hl 3 rfl) ?_
                    refine lv_iload_n hx hb dL_law_442 rfl (lv_at hl 0 rfl) ?_
                    refine lv_iconst (v := 4) hx hb dL_law_443 (by decide) ?_
                    refine lv_iadd hx hb dL_law_444 ?_
                    obtain ⟨hi_112, h⟩ := h
                    refine va_sld hx hb hX hbl hbA hS hi_112 dL_law_445 ?_
                    have hPc := hP.sub (ws' := (wd_X8 a ca u8_12)) [26, 27, 28, 29, 30, 31, 32, 33, 34, 35, 36, 37, 38, 39, 40, 41, 42, 43, 44, 45] rfl
                    have hDc := hD.sub (ws' := (wd_X8 a ca u8_12)) [26, 27, 28, 29, 30, 31, 32, 33, 34, 35, 36, 37, 38, 39, 40, 41, 42, 43, 44, 45] (by decide) rfl
                    have hKc := hK.sub (tys' := (ty_X8 ca)) [17, 18, 19, 20, 21, 22, 23, 24, 25, 26, 27, 28, 29, 30, 31, 32, 33, 34, 35] rfl
                    have hFc := va_free (wc := (wd_X8 a ca u8_12)) hD hS hA [26, 27, 28, 29, 30, 31, 32, 33, 34, 35, 36, 37, 38, 39, 40, 41, 42, 43, 44, 45] rfl
                    refine va_calli (va_runV (As := [.int (xs (v3_2 + 1).toNatClampNeg), .int (xs (v3_2 + 2).toNatClampNeg), .int (xs (v3_2 + 3).toNatClampNeg), .int (xs (v3_2 + 4).toNatClampNeg)]) (rest := [.int r_105]) ⟨hx, hb, hml, hown, hts⟩ (c_X8_arcs l dC dI a ca H.size u8_12 (xs (v3_2 + 1).toNatClampNeg) (xs (v3_2 + 2).toNatClampNeg) (xs (v3_2 + 3).toNatClampNeg) (xs (v3_2 + 4).toNatClampNeg) _ h) (cwV 4 hts gL_law_X8_arcs rfl rfl rfl (by decide +kernel) ⟨Nat.le_of_ble_eq_true rfl, Nat.le_of_ble_eq_true rfl⟩) ⟨fun a U g mk q => by obtain ⟨q0, q1, qP, qK, qD⟩ := q; exact ⟨q0, q1, qP, va_K.moved (u := U) (U := U.calling g mk a) (Vm.Alike.refl U.vm) qK, qD⟩, va_recv hKc hPc (ci := 7) (q0 := 0) rfl rfl, fun U hU hW => ⟨rfl, by rw [hU], by rw [hU]; exact hPc, va_K.moved hW.alike hKc, hDc.weaken (fun _ _ _ _ => trivial)⟩⟩ rfl rfl hl.1 rfl (lv_room (Nat.le_of_ble_eq_true rfl)) dL_law_446 ⟨Nat.le_of_ble_eq_true rfl, Nat.le_of_ble_eq_true rfl⟩) hS (fun q _ h => hFc q h) hFc (fun r_113 zz t H1 locs ht hvm hw hB hz1 hk1 hS => ?_)
                    obtain ⟨u8_114, rfl⟩ : ∃ z, z = zz := ⟨_, rfl⟩
                    replace h := hw
                    obtain ⟨hP1, hD1⟩ := hB
                    rw [ht] at hP1
                    obtain ⟨hP, hD⟩ := va_join (wr := [0, 1, 2, 3, 4, 5, 6, 7, 8, 9, 10, 11, 12, 13, 14, 15, 16, 17, 18, 19, 20, 21, 22, 23, 24, 25].filterMap (fun i => (wd_X7 AA CA uf_106 um_107 ut_5 uh_108 ug_7 ur_8 uw_9 ux_10 uy_11 ++ (wd_X8 a ca u8_12))[i]?)) (w1 := (wd_X8 a ca u8_114)) hP hD [26, 27, 28, 29, 30, 31, 32, 33, 34, 35, 36, 37, 38, 39, 40, 41, 42, 43, 44, 45] [0, 1, 2, 3, 4, 5, 6, 7, 8, 9, 10, 11, 12, 13, 14, 15, 16, 17, 18, 19, 20, 21, 22, 23, 24, 25] rfl rfl (by decide) (by decide) hk1 hFc hP1 hD1
                    replace hP : va_P (dC, dI) vwCl (wd_X7 AA CA uf_106 um_107 ut_5 uh_108 ug_7 ur_8 uw_9 ux_10 uy_11 ++ (wd_X8 a ca u8_114)) H1 := (hP.sub [0, 1, 2, 3, 4, 5, 6, 7, 8, 9, 10, 11, 12, 13, 14, 15, 16, 17, 18, 19, 20, 21, 22, 23, 24, 25, 26, 27, 28, 29, 30, 31, 32, 33, 34, 35, 36, 37, 38, 39, 40, 41, 42, 43, 44, 45] rfl)
                    replace hD : va_D (fun q : Nat => s.heap.size ≤ q) (wd_X7 AA CA uf_106 um_107 ut_5 uh_108 ug_7 ur_8 uw_9 ux_10 uy_11 ++ (wd_X8 a ca u8_114)) := (hD.sub [0, 1, 2, 3, 4, 5, 6, 7, 8, 9, 10, 11, 12, 13, 14, 15, 16, 17, 18, 19, 20, 21, 22, 23, 24, 25, 26, 27, 28, 29, 30, 31, 32, 33, 34, 35, 36, 37, 38, 39, 40, 41, 42, 43, 44, 45] (by decide) rfl)
                    generalize H1 = H at hP hS ⊢
                    refine lv_icmp_eq (tgt := 892) hx hb dL_law_449 (by decide) (fun hc_115 => ?_) (fun hc_115 => ?_)
                    · replace h := h.1 hc_115
                      refine lv_iinc (v := (v3_2 + 6)) (lv' := [(3, .int (v3_2 + 6)), (2, .ref (a 0)), (1, .ref (AA 0 0)), (0, .ref b)]) hx hb dL_law_892 hl (k := 0) rfl rfl (by decide) rfl (fun ls hl => ?_)
                      refine lv_goto (tgt := 18) hx hb dL_law_895 (by decide) ?_
                      exact ih_LL_1 _ _ _ _ _ _ _ _ _ _ _ h _ _ _ hP hD hS (lv_sub hl [0, 1, 2, 3] rfl)
                    · replace h := h.2 hc_115
                      refine lv_iconst (v := 0) hx hb dL_law_452 (by decide) ?_
                      exact h.elim
                  · replace h := h.2 hs_100
                    by_cases hs_116 : ((xs v3_2.toNatClampNeg) &&& 31) = 8
                    · replace h := h.1 hs_116
                      refine lv_tableIn (tgt := 454) hx hb dL_law_33 (by rw [hs_116]; decide) (by rw [hs_116]; decide) (by rw [hs_116]; rfl) (by decide) ?_
                      refine lv_aload_n hx hb dL_law_454 rfl (lv_at hl 2 rfl) ?_
                      refine lv_aload_n hx hb dL_law_455 rfl (lv_at hl 3 rfl) ?_
                      refine lv_iload_n hx hb dL_law_456 rfl (lv_at hl 0 rfl) ?_
                      refine lv_iconst (v := 1) hx hb dL_law_457 (by decide) ?_
                      refine lv_iadd hx hb dL_law_458 ?_
                      obtain ⟨hi_117, h⟩ := h
                      refine va_sld hx hb hX hbl hbA hS hi_117 dL_law_459 ?_
                      have hPc := hP.sub (ws' := (wd_X7 AA CA uf_3 um_4 ut_5 uh_6 ug_7 ur_8 uw_9 ux_10 uy_11)) [0, 1, 2, 3, 4, 5, 6, 7, 8, 9, 10, 11, 12, 13, 14, 15, 16, 17, 18, 19, 20, 21, 22, 23, 24, 25] rfl
                      have hDc := hD.sub (ws' := (wd_X7 AA CA uf_3 um_4 ut_5 uh_6 ug_7 ur_8 uw_9 ux_10 uy_11)) [0, 1, 2, 3, 4, 5, 6, 7, 8, 9, 10, 11, 12, 13, 14, 15, 16, 17, 18, 19, 20, 21, 22, 23, 24, 25] (by decide) rfl
                      have hKc := hK.sub (tys' := (ty_X7 CA)) [0, 1, 2, 3, 4, 5, 6, 7, 8, 9, 10, 11, 12, 13, 14, 15, 16] rfl
                      have hFc := va_free (wc := (wd_X7 AA CA uf_3 um_4 ut_5 uh_6 ug_7 ur_8 uw_9 ux_10 uy_11)) hD hS hA [0, 1, 2, 3, 4, 5, 6, 7, 8, 9, 10, 11, 12, 13, 14, 15, 16, 17, 18, 19, 20, 21, 22, 23, 24, 25] rfl
                      refine va_calli (va_runV (As := [.int (xs (v3_2 + 1).toNatClampNeg)]) (rest := []) ⟨hx, hb, hml, hown, hts⟩ (c_X7_go l dC dI AA CA H.size uf_3 um_4 ut_5 uh_6 ug_7 ur_8 uw_9 ux_10 uy_11 (xs (v3_2 + 1).toNatClampNeg) _ h) (cwV 1 hts gL_law_X7_go rfl rfl rfl (by decide +kernel) ⟨Nat.le_of_ble_eq_true rfl, Nat.le_of_ble_eq_true rfl⟩) ⟨fun a U g mk q => by obtain ⟨q0, q1, qP, qK, qD⟩ := q; exact ⟨q0, q1, qP, va_K.moved (u := U) (U := U.calling g mk a) (Vm.Alike.refl U.vm) qK, qD⟩, va_recv hKc hPc (ci := 6) (q0 := 0) rfl rfl, fun U hU hW => ⟨rfl, by rw [hU], by rw [hU]; exact hPc, va_K.moved hW.alike hKc, hDc.weaken (fun _ _ _ _ => trivial)⟩⟩ rfl rfl hl.1 rfl (lv_room (Nat.le_of_ble_eq_true rfl)) dL_law_460 ⟨Nat.le_of_ble_eq_true rfl, Nat.le_of_ble_eq_true rfl⟩) hS (fun q _ h => hFc q h) hFc (fun r_118 zz t H1 locs ht hvm hw hB hz1 hk1 hS => ?_)
                      obtain ⟨uh_119, rfl⟩ : ∃ z, z = zz := ⟨_, rfl⟩
                      replace h := hw
                      obtain ⟨hP1, hD1⟩ := hB
                      rw [ht] at hP1
                      obtain ⟨hP, hD⟩ := va_join (wr := [26, 27, 28, 29, 30, 31, 32, 33, 34, 35, 36, 37, 38, 39, 40, 41, 42, 43, 44, 45].filterMap (fun i => (wd_X7 AA CA uf_3 um_4 ut_5 uh_6 ug_7 ur_8 uw_9 ux_10 uy_11 ++ (wd_X8 a ca u8_12))[i]?)) (w1 := (wd_X7 AA CA uf_3 um_4 ut_5 uh_119 ug_7 ur_8 uw_9 ux_10 uy_11)) hP hD [0, 1, 2, 3, 4, 5, 6, 7, 8, 9, 10, 11, 12, 13, 14, 15, 16, 17, 18, 19, 20, 21, 22, 23, 24, 25] [26, 27, 28, 29, 30, 31, 32, 33, 34, 35, 36, 37, 38, 39, 40, 41, 42, 43, 44, 45] rfl rfl (by decide) (by decide) hk1 hFc hP1 hD1
                      replace hP : va_P (dC, dI) vwCl (wd_X7 AA CA uf_3 um_4 ut_5 uh_119 ug_7 ur_8 uw_9 ux_10 uy_11 ++ (wd_X8 a ca u8_12)) H1 := (hP.sub [20, 21, 22, 23, 24, 25, 26, 27, 28, 29, 30, 31, 32, 33, 34, 35, 36, 37, 38, 39, 40, 41, 42, 43, 44, 45, 0, 1, 2, 3, 4, 5, 6, 7, 8, 9, 10, 11, 12, 13, 14, 15, 16, 17, 18, 19] rfl)
                      replace hD : va_D (fun q : Nat => s.heap.size ≤ q) (wd_X7 AA CA uf_3 um_4 ut_5 uh_119 ug_7 ur_8 uw_9 ux_10 uy_11 ++ (wd_X8 a ca u8_12)) := (hD.sub [20, 21, 22, 23, 24, 25, 26, 27, 28, 29, 30, 31, 32, 33, 34, 35, 36, 37, 38, 39, 40, 41, 42, 43, 44, 45, 0, 1, 2, 3, 4, 5, 6, 7, 8, 9, 10, 11, 12, 13, 14, 15, 16, 17, 18, 19] (by decide) rfl)
                      generalize H1 = H at hP hS ⊢
                      refine lv_aload_n hx hb dL_law_463 rfl (lv_at hl 1 rfl) ?_
                      refine lv_aload_n hx hb dL_law_464 rfl (lv_at hl 3 rfl) ?_
                      refine lv_iload_n hx hb dL_law_465 rfl (lv_at hl 0 rfl) ?_
                      refine lv_iconst (v := 1) hx hb dL_law_466 (by decide) ?_
                      refine lv_iadd hx hb dL_law_467 ?_
                      obtain ⟨hi_120, h⟩ := h
                      refine va_sld hx hb hX hbl hbA hS hi_120 dL_law_468 ?_
                      have hPc := hP.sub (ws' := (wd_X8 a ca u8_12)) [26, 27, 28, 29, 30, 31, 32, 33, 34, 35, 36, 37, 38, 39, 40, 41, 42, 43, 44, 45] rfl
                      have hDc := hD.sub (ws' := (wd_X8 a ca u8_12)) [26, 27, 28, 29, 30, 31, 32, 33, 34, 35, 36, 37, 38, 39, 40, 41, 42, 43, 44, 45] (by decide) rfl
                      have hKc := hK.sub (tys' := (ty_X8 ca)) [17, 18, 19, 20, 21, 22, 23, 24, 25, 26, 27, 28, 29, 30, 31, 32, 33, 34, 35] rfl
                      have hFc := va_free (wc := (wd_X8 a ca u8_12)) hD hS hA [26, 27, 28, 29, 30, 31, 32, 33, 34, 35, 36, 37, 38, 39, 40, 41, 42, 43, 44, 45] rfl
                      refine va_calli (va_runV (As := [.int (xs (v3_2 + 1).toNatClampNeg)]) (rest := [.int r_118]) ⟨hx, hb, hml, hown, hts⟩ (c_X8_go l dC dI a ca H.size u8_12 (xs (v3_2 + 1).toNatClampNeg) _ h) (cwV 1 hts gL_law_X8_go rfl rfl rfl (by decide +kernel) ⟨Nat.le_of_ble_eq_true rfl, Nat.le_of_ble_eq_true rfl⟩) ⟨fun a U g mk q => by obtain ⟨q0, q1, qP, qK, qD⟩ := q; exact ⟨q0, q1, qP, va_K.moved (u := U) (U := U.calling g mk a) (Vm.Alike.refl U.vm) qK, qD⟩, va_recv hKc hPc (ci := 7) (q0 := 0) rfl rfl, fun U hU hW => ⟨rfl, by rw [hU], by rw [hU]; exact hPc, va_K.moved hW.alike hKc, hDc.weaken (fun _ _ _ _ => trivial)⟩⟩ rfl rfl hl.1 rfl (lv_room (Nat.le_of_ble_eq_true rfl)) dL_law_469 ⟨Nat.le_of_ble_eq_true rfl, Nat.le_of_ble_eq_true rfl⟩) hS (fun q _ h => hFc q h) hFc (fun r_121 zz t H1 locs ht hvm hw hB hz1 hk1 hS => ?_)
                      obtain ⟨u8_122, rfl⟩ : ∃ z, z = zz := ⟨_, rfl⟩
                      replace h := hw
                      obtain ⟨hP1, hD1⟩ := hB
                      rw [ht] at hP1
                      obtain ⟨hP, hD⟩ := va_join (wr := [0, 1, 2, 3, 4, 5, 6, 7, 8, 9, 10, 11, 12, 13, 14, 15, 16, 17, 18, 19, 20, 21, 22, 23, 24, 25].filterMap (fun i => (wd_X7 AA CA uf_3 um_4 ut_5 uh_119 ug_7 ur_8 uw_9 ux_10 uy_11 ++ (wd_X8 a ca u8_12))[i]?)) (w1 := (wd_X8 a ca u8_122)) hP hD [26, 27, 28, 29, 30, 31, 32, 33, 34, 35, 36, 37, 38, 39, 40, 41, 42, 43, 44, 45] [0, 1, 2, 3, 4, 5, 6, 7, 8, 9, 10, 11, 12, 13, 14, 15, 16, 17, 18, 19, 20, 21, 22, 23, 24, 25] rfl rfl (by decide) (by decide) hk1 hFc hP1 hD1
                      replace hP : va_P (dC, dI) vwCl (wd_X7 AA CA uf_3 um_4 ut_5 uh_119 ug_7 ur_8 uw_9 ux_10 uy_11 ++ (wd_X8 a ca u8_122)) H1 := (hP.sub [0, 1, 2, 3, 4, 5, 6, 7, 8, 9, 10, 11, 12, 13, 14, 15, 16, 17, 18, 19, 20, 21, 22, 23, 24, 25, 26, 27, 28, 29, 30, 31, 32, 33, 34, 35, 36, 37, 38, 39, 40, 41, 42, 43, 44, 45] rfl)
                      replace hD : va_D (fun q : Nat => s.heap.size ≤ q) (wd_X7 AA CA uf_3 um_4 ut_5 uh_119 ug_7 ur_8 uw_9 ux_10 uy_11 ++ (wd_X8 a ca u8_122)) := (hD.sub [0, 1, 2, 3, 4, 5, 6, 7, 8, 9, 10, 11, 12, 13, 14, 15, 16, 17, 18, 19, 20, 21, 22, 23, 24, 25, 26, 27, 28, 29, 30, 31, 32, 33, 34, 35, 36, 37, 38, 39, 40, 41, 42, 43, 44, 45] (by decide) rfl)
                      generalize H1 = H at hP hS ⊢
                      refine lv_icmp_eq (tgt := 892) hx hb dL_law_472 (by decide) (fun hc_123 => ?_) (fun hc_123 => ?_)
                      · replace h := h.1 hc_123
                        refine lv_iinc (v := (v3_2 + 6)) (lv' := [(3, .int (v3_2 + 6)), (2, .ref (a 0)), (1, .ref (AA 0 0)), (0, .ref b)]) hx hb dL_law_892 hl (k := 0) rfl rfl (by decide) rfl (fun ls hl => ?_)
                        refine lv_goto (tgt := 18) hx hb dL_law_895 (by decide) ?_
                        exact ih_LL_1 _ _ _ _ _ _ _ _ _ _ _ h _ _ _ hP hD hS (lv_sub hl [0, 1, 2, 3] rfl)
                      · replace h := h.2 hc_123
                        refine lv_iconst (v := 0) hx hb dL_law_475 (by decide) ?_
                        exact h.elim
                    · replace h := h.2 hs_116
                      by_cases hs_124 : ((xs v3_2.toNatClampNeg) &&& 31) = 9
                      · replace h := h.1 hs_124
                        refine lv_tableIn (tgt := 477) hx hb dL_law_33 (by rw [hs_124]; decide) (by rw [hs_124]; decide) (by rw [hs_124]; rfl) (by decide) ?_
                        refine lv_aload_n hx hb dL_law_477 rfl (lv_at hl 2 rfl) ?_
                        refine lv_aload_n hx hb dL_law_478 rfl (lv_at hl 3 rfl) ?_
                        refine lv_iload_n hx hb dL_law_479 rfl (lv_at hl 0 rfl) ?_
                        refine lv_iconst (v := 1) hx hb dL_law_480 (by decide) ?_
                        refine lv_iadd hx hb dL_law_481 ?_
                        obtain ⟨hi_125, h⟩ := h
                        refine va_sld hx hb hX hbl hbA hS hi_125 dL_law_482 ?_
                        refine lv_aload_n hx hb dL_law_483 rfl (lv_at hl 3 rfl) ?_
                        refine lv_iload_n hx hb dL_law_484 rfl (lv_at hl 0 rfl) ?_
                        refine lv_iconst (v := 2) hx hb dL_law_485 (by decide) ?_
                        refine lv_iadd hx hb dL_law_486 ?_
                        obtain ⟨hi_126, h⟩ := h
                        refine va_sld hx hb hX hbl hbA hS hi_126 dL_law_487 ?_
                        have hPc := hP.sub (ws' := (wd_X7 AA CA uf_3 um_4 ut_5 uh_6 ug_7 ur_8 uw_9 ux_10 uy_11)) [0, 1, 2, 3, 4, 5, 6, 7, 8, 9, 10, 11, 12, 13, 14, 15, 16, 17, 18, 19, 20, 21, 22, 23, 24, 25] rfl
                        have hDc := hD.sub (ws' := (wd_X7 AA CA uf_3 um_4 ut_5 uh_6 ug_7 ur_8 uw_9 ux_10 uy_11)) [0, 1, 2, 3, 4, 5, 6, 7, 8, 9, 10, 11, 12, 13, 14, 15, 16, 17, 18, 19, 20, 21, 22, 23, 24, 25] (by decide) rfl
                        have hKc := hK.sub (tys' := (ty_X7 CA)) [0, 1, 2, 3, 4, 5, 6, 7, 8, 9, 10, 11, 12, 13, 14, 15, 16] rfl
                        have hFc := va_free (wc := (wd_X7 AA CA uf_3 um_4 ut_5 uh_6 ug_7 ur_8 uw_9 ux_10 uy_11)) hD hS hA [0, 1, 2, 3, 4, 5, 6, 7, 8, 9, 10, 11, 12, 13, 14, 15, 16, 17, 18, 19, 20, 21, 22, 23, 24, 25] rfl
                        refine va_calli (va_runV (As := [.int (xs (v3_2 + 1).toNatClampNeg), .int (xs (v3_2 + 2).toNatClampNeg)]) (rest := []) ⟨hx, hb, hml, hown, hts⟩ (c_X7_lose l dC dI AA CA H.size uf_3 um_4 ut_5 uh_6 ug_7 ur_8 uw_9 ux_10 uy_11 (xs (v3_2 + 1).toNatClampNeg) (xs (v3_2 + 2).toNatClampNeg) _ h) (cwV 2 hts gL_law_X7_lose rfl rfl rfl (by decide +kernel) ⟨Nat.le_of_ble_eq_true rfl, Nat.le_of_ble_eq_true rfl⟩) ⟨fun a U g mk q => by obtain ⟨q0, q1, qP, qK, qD⟩ := q; exact ⟨q0, q1, qP, va_K.moved (u := U) (U := U.calling g mk a) (Vm.Alike.refl U.vm) qK, qD⟩, va_recv hKc hPc (ci := 6) (q0 := 0) rfl rfl, fun U hU hW => ⟨rfl, by rw [hU], by rw [hU]; exact hPc, va_K.moved hW.alike hKc, hDc.weaken (fun _ _ _ _ => trivial)⟩⟩ rfl rfl hl.1 rfl (lv_room (Nat.le_of_ble_eq_true rfl)) dL_law_488 ⟨Nat.le_of_ble_eq_true rfl, Nat.le_of_ble_eq_true rfl⟩) hS (fun q _ h => hFc q h) hFc (fun r_127 zz t H1 locs ht hvm hw hB hz1 hk1 hS => ?_)
                        obtain ⟨uh_128, rfl⟩ : ∃ z, z = zz := ⟨_, rfl⟩
                        replace h := hw
                        obtain ⟨hP1, hD1⟩ := hB
                        rw [ht] at hP1
                        obtain ⟨hP, hD⟩ := va_join (wr := [26, 27, 28, 29, 30, 31, 32, 33, 34, 35, 36, 37, 38, 39, 40, 41, 42, 43, 44, 45].filterMap (fun i => (wd_X7 AA CA uf_3 um_4 ut_5 uh_6 ug_7 ur_8 uw_9 ux_10 uy_11 ++ (wd_X8 a ca u8_12))[i]?)) (w1 := (wd_X7 AA CA uf_3 um_4 ut_5 uh_128 ug_7 ur_8 uw_9 ux_10 uy_11)) hP hD [0, 1, 2, 3, 4, 5, 6, 7, 8, 9, 10, 11, 12, 13, 14, 15, 16, 17, 18, 19, 20, 21, 22, 23, 24, 25] [26, 27, 28, 29, 30, 31, 32, 33, 34, 35, 36, 37, 38, 39, 40, 41, 42, 43, 44, 45] rfl rfl (by decide) (by decide) hk1 hFc hP1 hD1
                        replace hP : va_P (dC, dI) vwCl (wd_X7 AA CA uf_3 um_4 ut_5 uh_128 ug_7 ur_8 uw_9 ux_10 uy_11 ++ (wd_X8 a ca u8_12)) H1 := (hP.sub [20, 21, 22, 23, 24, 25, 26, 27, 28, 29, 30, 31, 32, 33, 34, 35, 36, 37, 38, 39, 40, 41, 42, 43, 44, 45, 0, 1, 2, 3, 4, 5, 6, 7, 8, 9, 10, 11, 12, 13, 14, 15, 16, 17, 18, 19] rfl)
                        replace hD : va_D (fun q : Nat => s.heap.size ≤ q) (wd_X7 AA CA uf_3 um_4 ut_5 uh_128 ug_7 ur_8 uw_9 ux_10 uy_11 ++ (wd_X8 a ca u8_12)) := (hD.sub [20, 21, 22, 23, 24, 25, 26, 27, 28, 29, 30, 31, 32, 33, 34, 35, 36, 37, 38, 39, 40, 41, 42, 43, 44, 45, 0, 1, 2, 3, 4, 5, 6, 7, 8, 9, 10, 11, 12, 13, 14, 15, 16, 17, 18, 19] (by decide) rfl)
                        generalize H1 = H at hP hS ⊢
                        refine lv_aload_n hx hb dL_law_491 rfl (lv_at hl 1 rfl) ?_
                        refine lv_aload_n hx hb dL_law_492 rfl (lv_at hl 3 rfl) ?_
                        refine lv_iload_n hx hb dL_law_493 rfl (lv_at hl 0 rfl) ?_
                        refine lv_iconst (v := 1) hx hb dL_law_494 (by decide) ?_
                        refine lv_iadd hx hb dL_law_495 ?_
                        obtain ⟨hi_129, h⟩ := h
                        refine va_sld hx hb hX hbl hbA hS hi_129 dL_law_496 ?_
                        refine lv_aload_n hx hb dL_law_497 rfl (lv_at hl 3 rfl) ?_
                        refine lv_iload_n hx hb dL_law_498 rfl (lv_at hl 0 rfl) ?_
                        refine lv_iconst (v := 2) hx hb dL_law_499 (by decide) ?_
                        refine lv_iadd hx hb dL_law_500 ?_
                        obtain ⟨hi_130, h⟩ := h
                        refine va_sld hx hb hX hbl hbA hS hi_130 dL_law_501 ?_
                        have hPc := hP.sub (ws' := (wd_X8 a ca u8_12)) [26, 27, 28, 29, 30, 31, 32, 33, 34, 35, 36, 37, 38, 39, 40, 41, 42, 43, 44, 45] rfl
                        have hDc := hD.sub (ws' := (wd_X8 a ca u8_12)) [26, 27, 28, 29, 30, 31, 32, 33, 34, 35, 36, 37, 38, 39, 40, 41, 42, 43, 44, 45] (by decide) rfl
                        have hKc := hK.sub (tys' := (ty_X8 ca)) [17, 18, 19, 20, 21, 22, 23, 24, 25, 26, 27, 28, 29, 30, 31, 32, 33, 34, 35] rfl
                        have hFc := va_free (wc := (wd_X8 a ca u8_12)) hD hS hA [26, 27, 28, 29, 30, 31, 32, 33, 34, 35, 36, 37, 38, 39, 40, 41, 42, 43, 44, 45] rfl
                        refine va_calli (va_runV (As := [.int (xs (v3_2 + 1).toNatClampNeg), .int (xs (v3_2 + 2).toNatClampNeg)]) (rest := [.int r_127]) ⟨hx, hb, hml, hown, hts⟩ (c_X8_lose l dC dI a ca H.size u8_12 (xs (v3_2 + 1).toNatClampNeg) (xs (v3_2 + 2).toNatClampNeg) _ h) (cwV 2 hts gL_law_X8_lose rfl rfl rfl (by decide +kernel) ⟨Nat.le_of_ble_eq_true rfl, Nat.le_of_ble_eq_true rfl⟩) ⟨fun a U g mk q => by obtain ⟨q0, q1, qP, qK, qD⟩ := q; exact ⟨q0, q1, qP, va_K.moved (u := U) (U := U.calling g mk a) (Vm.Alike.refl U.vm) qK, qD⟩, va_recv hKc hPc (ci := 7) (q0 := 0) rfl rfl, fun U hU hW => ⟨rfl, by rw [hU], by rw [hU]; exact hPc, va_K.moved hW.alike hKc, hDc.weaken (fun _ _ _ _ => trivial)⟩⟩ rfl rfl hl.1 rfl (lv_room (Nat.le_of_ble_eq_true rfl)) dL_law_502 ⟨Nat.le_of_ble_eq_true rfl, Nat.le_of_ble_eq_true rfl⟩) hS (fun q _ h => hFc q h) hFc (fun r_131 zz t H1 locs ht hvm hw hB hz1 hk1 hS => ?_)
                        obtain ⟨u8_132, rfl⟩ : ∃ z, z = zz := ⟨_, rfl⟩
                        replace h := hw
                        obtain ⟨hP1, hD1⟩ := hB
                        rw [ht] at hP1
                        obtain ⟨hP, hD⟩ := va_join (wr := [0, 1, 2, 3, 4, 5, 6, 7, 8, 9, 10, 11, 12, 13, 14, 15, 16, 17, 18, 19, 20, 21, 22, 23, 24, 25].filterMap (fun i => (wd_X7 AA CA uf_3 um_4 ut_5 uh_128 ug_7 ur_8 uw_9 ux_10 uy_11 ++ (wd_X8 a ca u8_12))[i]?)) (w1 := (wd_X8 a ca u8_132)) hP hD [26, 27, 28, 29, 30, 31, 32, 33, 34, 35, 36, 37, 38, 39, 40, 41, 42, 43, 44, 45] [0, 1, 2, 3, 4, 5, 6, 7, 8, 9, 10, 11, 12, 13, 14, 15, 16, 17, 18, 19, 20, 21, 22, 23, 24, 25] rfl rfl (by decide) (by decide) hk1 hFc hP1 hD1
                        replace hP : va_P (dC, dI) vwCl (wd_X7 AA CA uf_3 um_4 ut_5 uh_128 ug_7 ur_8 uw_9 ux_10 uy_11 ++ (wd_X8 a ca u8_132)) H1 := (hP.sub [0, 1, 2, 3, 4, 5, 6, 7, 8, 9, 10, 11, 12, 13, 14, 15, 16, 17, 18, 19, 20, 21, 22, 23, 24, 25, 26, 27, 28, 29, 30, 31, 32, 33, 34, 35, 36, 37, 38, 39, 40, 41, 42, 43, 44, 45] rfl)
                        replace hD : va_D (fun q : Nat => s.heap.size ≤ q) (wd_X7 AA CA uf_3 um_4 ut_5 uh_128 ug_7 ur_8 uw_9 ux_10 uy_11 ++ (wd_X8 a ca u8_132)) := (hD.sub [0, 1, 2, 3, 4, 5, 6, 7, 8, 9, 10, 11, 12, 13, 14, 15, 16, 17, 18, 19, 20, 21, 22, 23, 24, 25, 26, 27, 28, 29, 30, 31, 32, 33, 34, 35, 36, 37, 38, 39, 40, 41, 42, 43, 44, 45] (by decide) rfl)
                        generalize H1 = H at hP hS ⊢
                        refine lv_icmp_eq (tgt := 892) hx hb dL_law_505 (by decide) (fun hc_133 => ?_) (fun hc_133 => ?_)
                        · replace h := h.1 hc_133
                          refine lv_iinc (v := (v3_2 + 6)) (lv' := [(3, .int (v3_2 + 6)), (2, .ref (a 0)), (1, .ref (AA 0 0)), (0, .ref b)]) hx hb dL_law_892 hl (k := 0) rfl rfl (by decide) rfl (fun ls hl => ?_)
                          refine lv_goto (tgt := 18) hx hb dL_law_895 (by decide) ?_
                          exact ih_LL_1 _ _ _ _ _ _ _ _ _ _ _ h _ _ _ hP hD hS (lv_sub hl [0, 1, 2, 3] rfl)
                        · replace h := h.2 hc_133
                          refine lv_iconst (v := 0) hx hb dL_law_508 (by decide) ?_
                          exact h.elim
                      · replace h := h.2 hs_124
                        by_cases hs_134 : ((xs v3_2.toNatClampNeg) &&& 31) = 10
                        · replace h := h.1 hs_134
                          refine lv_tableIn (tgt := 510) hx hb dL_law_33 (by rw [hs_134]; decide) (by rw [hs_134]; decide) (by rw [hs_134]; rfl) (by decide) ?_
                          refine lv_aload_n hx hb dL_law_510 rfl (lv_at hl 2 rfl) ?_
                          refine lv_aload_n hx hb dL_law_511 rfl (lv_at hl 3 rfl) ?_
                          refine lv_iload_n hx hb dL_law_512 rfl (lv_at hl 0 rfl) ?_
                          refine lv_iconst (v := 1) hx hb dL_law_513 (by decide) ?_
                          refine lv_iadd hx hb dL_law_514 ?_
                          obtain ⟨hi_135, h⟩ := h
                          refine va_sld hx hb hX hbl hbA hS hi_135 dL_law_515 ?_
                          refine lv_aload_n hx hb dL_law_516 rfl (lv_at hl 3 rfl) ?_
                          refine lv_iload_n hx hb dL_law_517 rfl (lv_at hl 0 rfl) ?_
                          refine lv_iconst (v := 2) hx hb dL_law_518 (by decide) ?_
                          refine lv_iadd hx hb dL_law_519 ?_
                          obtain ⟨hi_136, h⟩ := h
                          refine va_sld hx hb hX hbl hbA hS hi_136 dL_law_520 ?_
                          have hPc := hP.sub (ws' := (wd_X7 AA CA uf_3 um_4 ut_5 uh_6 ug_7 ur_8 uw_9 ux_10 uy_11)) [0, 1, 2, 3, 4, 5, 6, 7, 8, 9, 10, 11, 12, 13, 14, 15, 16, 17, 18, 19, 20, 21, 22, 23, 24, 25] rfl
                          have hDc := hD.sub (ws' := (wd_X7 AA CA uf_3 um_4 ut_5 uh_6 ug_7 ur_8 uw_9 ux_10 uy_11)) [0, 1, 2, 3, 4, 5, 6, 7, 8, 9, 10, 11, 12, 13, 14, 15, 16, 17, 18, 19, 20, 21, 22, 23, 24, 25] (by decide) rfl
                          have hKc := hK.sub (tys' := (ty_X7 CA)) [0, 1, 2, 3, 4, 5, 6, 7, 8, 9, 10, 11, 12, 13, 14, 15, 16] rfl
                          have hFc := va_free (wc := (wd_X7 AA CA uf_3 um_4 ut_5 uh_6 ug_7 ur_8 uw_9 ux_10 uy_11)) hD hS hA [0, 1, 2, 3, 4, 5, 6, 7, 8, 9, 10, 11, 12, 13, 14, 15, 16, 17, 18, 19, 20, 21, 22, 23, 24, 25] rfl
                          refine va_calli (va_runV (As := [.int (xs (v3_2 + 1).toNatClampNeg), .int (xs (v3_2 + 2).toNatClampNeg)]) (rest := []) ⟨hx, hb, hml, hown, hts⟩ (c_X7_now l dC dI AA CA H.size uf_3 um_4 ut_5 uh_6 ug_7 ur_8 uw_9 ux_10 uy_11 (xs (v3_2 + 1).toNatClampNeg) (xs (v3_2 + 2).toNatClampNeg) _ h) (cwV 2 hts gL_law_X7_now rfl rfl rfl (by decide +kernel) ⟨Nat.le_of_ble_eq_true rfl, Nat.le_of_ble_eq_true rfl⟩) ⟨fun a U g mk q => by obtain ⟨q0, q1, qP, qK, qD⟩ := q; exact ⟨q0, q1, qP, va_K.moved (u := U) (U := U.calling g mk a) (Vm.Alike.refl U.vm) qK, qD⟩, va_recv hKc hPc (ci := 6) (q0 := 0) rfl rfl, fun U hU hW => ⟨rfl, by rw [hU], by rw [hU]; exact hPc, va_K.moved hW.alike hKc, hDc.weaken (fun _ _ _ _ => trivial)⟩⟩ rfl rfl hl.1 rfl (lv_room (Nat.le_of_ble_eq_true rfl)) dL_law_521 ⟨Nat.le_of_ble_eq_true rfl, Nat.le_of_ble_eq_true rfl⟩) hS (fun q _ h => hFc q h) hFc (fun r_137 zz t H1 locs ht hvm hw hB hz1 hk1 hS => ?_)
                          replace h := hw
                          obtain ⟨hP1, hD1⟩ := hB
                          rw [ht] at hP1
                          obtain ⟨hP, hD⟩ := va_join (wr := [26, 27, 28, 29, 30, 31, 32, 33, 34, 35, 36, 37, 38, 39, 40, 41, 42, 43, 44, 45].filterMap (fun i => (wd_X7 AA CA uf_3 um_4 ut_5 uh_6 ug_7 ur_8 uw_9 ux_10 uy_11 ++ (wd_X8 a ca u8_12))[i]?)) (w1 := (wd_X7 AA CA uf_3 um_4 ut_5 uh_6 ug_7 ur_8 uw_9 ux_10 uy_11)) hP hD [0, 1, 2, 3, 4, 5, 6, 7, 8, 9, 10, 11, 12, 13, 14, 15, 16, 17, 18, 19, 20, 21, 22, 23, 24, 25] [26, 27, 28, 29, 30, 31, 32, 33, 34, 35, 36, 37, 38, 39, 40, 41, 42, 43, 44, 45] rfl rfl (by decide) (by decide) hk1 hFc hP1 hD1
                          replace hP : va_P (dC, dI) vwCl (wd_X7 AA CA uf_3 um_4 ut_5 uh_6 ug_7 ur_8 uw_9 ux_10 uy_11 ++ (wd_X8 a ca u8_12)) H1 := (hP.sub [20, 21, 22, 23, 24, 25, 26, 27, 28, 29, 30, 31, 32, 33, 34, 35, 36, 37, 38, 39, 40, 41, 42, 43, 44, 45, 0, 1, 2, 3, 4, 5, 6, 7, 8, 9, 10, 11, 12, 13, 14, 15, 16, 17, 18, 19] rfl)
                          replace hD : va_D (fun q : Nat => s.heap.size ≤ q) (wd_X7 AA CA uf_3 um_4 ut_5 uh_6 ug_7 ur_8 uw_9 ux_10 uy_11 ++ (wd_X8 a ca u8_12)) := (hD.sub [20, 21, 22, 23, 24, 25, 26, 27, 28, 29, 30, 31, 32, 33, 34, 35, 36, 37, 38, 39, 40, 41, 42, 43, 44, 45, 0, 1, 2, 3, 4, 5, 6, 7, 8, 9, 10, 11, 12, 13, 14, 15, 16, 17, 18, 19] (by decide) rfl)
                          generalize H1 = H at hP hS ⊢
                          refine lv_aload_n hx hb dL_law_524 rfl (lv_at hl 1 rfl) ?_
                          refine lv_aload_n hx hb dL_law_525 rfl (lv_at hl 3 rfl) ?_
                          refine lv_iload_n hx hb dL_law_526 rfl (lv_at hl 0 rfl) ?_
                          refine lv_iconst (v := 1) hx hb dL_law_527 (by decide) ?_
                          refine lv_iadd hx hb dL_law_528 ?_
                          obtain ⟨hi_138, h⟩ := h
                          refine va_sld hx hb hX hbl hbA hS hi_138 dL_law_529 ?_
                          refine lv_aload_n hx hb dL_law_530 rfl (lv_at hl 3 rfl) ?_
                          refine lv_iload_n hx hb dL_law_531 rfl (lv_at hl 0 rfl) ?_
                          refine lv_iconst (v := 2) hx hb dL_law_532 (by decide) ?_
                          refine lv_iadd hx hb dL_law_533 ?_
                          obtain ⟨hi_139, h⟩ := h
                          refine va_sld hx hb hX hbl hbA hS hi_139 dL_law_534 ?_
                          have hPc := hP.sub (ws' := (wd_X8 a ca u8_12)) [26, 27, 28, 29, 30, 31, 32, 33, 34, 35, 36, 37, 38, 39, 40, 41, 42, 43, 44, 45] rfl
                          have hDc := hD.sub (ws' := (wd_X8 a ca u8_12)) [26, 27, 28, 29, 30, 31, 32, 33, 34, 35, 36, 37, 38, 39, 40, 41, 42, 43, 44, 45] (by decide) rfl
                          have hKc := hK.sub (tys' := (ty_X8 ca)) [17, 18, 19, 20, 21, 22, 23, 24, 25, 26, 27, 28, 29, 30, 31, 32, 33, 34, 35] rfl
                          have hFc := va_free (wc := (wd_X8 a ca u8_12)) hD hS hA [26, 27, 28, 29, 30, 31, 32, 33, 34, 35, 36, 37, 38, 39, 40, 41, 42, 43, 44, 45] rfl
                          refine va_calli (va_runV (As := [.int (xs (v3_2 + 1).toNatClampNeg), .int (xs (v3_2 + 2).toNatClampNeg)]) (rest := [.int r_137]) ⟨hx, hb, hml, hown, hts⟩ (c_X8_now l dC dI a ca H.size u8_12 (xs (v3_2 + 1).toNatClampNeg) (xs (v3_2 + 2).toNatClampNeg) _ h) (cwV 2 hts gL_law_X8_now rfl rfl rfl (by decide +kernel) ⟨Nat.le_of_ble_eq_true rfl, Nat.le_of_ble_eq_true rfl⟩) ⟨fun a U g mk q => by obtain ⟨q0, q1, qP, qK, qD⟩ := q; exact ⟨q0, q1, qP, va_K.moved (u := U) (U := U.calling g mk a) (Vm.Alike.refl U.vm) qK, qD⟩, va_recv hKc hPc (ci := 7) (q0 := 0) rfl rfl, fun U hU hW => ⟨rfl, by rw [hU], by rw [hU]; exact hPc, va_K.moved hW.alike hKc, hDc.weaken (fun _ _ _ _ => trivial)⟩⟩ rfl rfl hl.1 rfl (lv_room (Nat.le_of_ble_eq_true rfl)) dL_law_535 ⟨Nat.le_of_ble_eq_true rfl, Nat.le_of_ble_eq_true rfl⟩) hS (fun q _ h => hFc q h) hFc (fun r_140 zz t H1 locs ht hvm hw hB hz1 hk1 hS => ?_)
                          replace h := hw
                          obtain ⟨hP1, hD1⟩ := hB
                          rw [ht] at hP1
                          obtain ⟨hP, hD⟩ := va_join (wr := [0, 1, 2, 3, 4, 5, 6, 7, 8, 9, 10, 11, 12, 13, 14, 15, 16, 17, 18, 19, 20, 21, 22, 23, 24, 25].filterMap (fun i => (wd_X7 AA CA uf_3 um_4 ut_5 uh_6 ug_7 ur_8 uw_9 ux_10 uy_11 ++ (wd_X8 a ca u8_12))[i]?)) (w1 := (wd_X8 a ca u8_12)) hP hD [26, 27, 28, 29, 30, 31, 32, 33, 34, 35, 36, 37, 38, 39, 40, 41, 42, 43, 44, 45] [0, 1, 2, 3, 4, 5, 6, 7, 8, 9, 10, 11, 12, 13, 14, 15, 16, 17, 18, 19, 20, 21, 22, 23, 24, 25] rfl rfl (by decide) (by decide) hk1 hFc hP1 hD1
                          replace hP : va_P (dC, dI) vwCl (wd_X7 AA CA uf_3 um_4 ut_5 uh_6 ug_7 ur_8 uw_9 ux_10 uy_11 ++ (wd_X8 a ca u8_12)) H1 := (hP.sub [0, 1, 2, 3, 4, 5, 6, 7, 8, 9, 10, 11, 12, 13, 14, 15, 16, 17, 18, 19, 20, 21, 22, 23, 24, 25, 26, 27, 28, 29, 30, 31, 32, 33, 34, 35, 36, 37, 38, 39, 40, 41, 42, 43, 44, 45] rfl)
                          replace hD : va_D (fun q : Nat => s.heap.size ≤ q) (wd_X7 AA CA uf_3 um_4 ut_5 uh_6 ug_7 ur_8 uw_9 ux_10 uy_11 ++ (wd_X8 a ca u8_12)) := (hD.sub [0, 1, 2, 3, 4, 5, 6, 7, 8, 9, 10, 11, 12, 13, 14, 15, 16, 17, 18, 19, 20, 21, 22, 23, 24, 25, 26, 27, 28, 29, 30, 31, 32, 33, 34, 35, 36, 37, 38, 39, 40, 41, 42, 43, 44, 45] (by decide) rfl)
                          generalize H1 = H at hP hS ⊢
                          refine lv_icmp_eq (tgt := 892) hx hb dL_law_538 (by decide) (fun hc_141 => ?_) (fun hc_141 => ?_)
                          · replace h := h.1 hc_141
                            refine lv_iinc (v := (v3_2 + 6)) (lv' := [(3, .int (v3_2 + 6)), (2, .ref (a 0)), (1, .ref (AA 0 0)), (0, .ref b)]) hx hb dL_law_892 hl (k := 0) rfl rfl (by decide) rfl (fun ls hl => ?_)
                            refine lv_goto (tgt := 18) hx hb dL_law_895 (by decide) ?_
                            exact ih_LL_1 _ _ _ _ _ _ _ _ _ _ _ h _ _ _ hP hD hS (lv_sub hl [0, 1, 2, 3] rfl)
                          · replace h := h.2 hc_141
                            refine lv_iconst (v := 0) hx hb dL_law_541 (by decide) ?_
                            exact h.elim
                        · replace h := h.2 hs_134
                          by_cases hs_142 : ((xs v3_2.toNatClampNeg) &&& 31) = 11
                          · replace h := h.1 hs_142
                            refine lv_tableIn (tgt := 543) hx hb dL_law_33 (by rw [hs_142]; decide) (by rw [hs_142]; decide) (by rw [hs_142]; rfl) (by decide) ?_
                            refine lv_aload_n hx hb dL_law_543 rfl (lv_at hl 2 rfl) ?_
                            have hPc := hP.sub (ws' := (wd_X7 AA CA uf_3 um_4 ut_5 uh_6 ug_7 ur_8 uw_9 ux_10 uy_11)) [0, 1, 2, 3, 4, 5, 6, 7, 8, 9, 10, 11, 12, 13, 14, 15, 16, 17, 18, 19, 20, 21, 22, 23, 24, 25] rfl
                            have hDc := hD.sub (ws' := (wd_X7 AA CA uf_3 um_4 ut_5 uh_6 ug_7 ur_8 uw_9 ux_10 uy_11)) [0, 1, 2, 3, 4, 5, 6, 7, 8, 9, 10, 11, 12, 13, 14, 15, 16, 17, 18, 19, 20, 21, 22, 23, 24, 25] (by decide) rfl
                            have hKc := hK.sub (tys' := (ty_X7 CA)) [0, 1, 2, 3, 4, 5, 6, 7, 8, 9, 10, 11, 12, 13, 14, 15, 16] rfl
                            have hFc := va_free (wc := (wd_X7 AA CA uf_3 um_4 ut_5 uh_6 ug_7 ur_8 uw_9 ux_10 uy_11)) hD hS hA [0, 1, 2, 3, 4, 5, 6, 7, 8, 9, 10, 11, 12, 13, 14, 15, 16, 17, 18, 19, 20, 21, 22, 23, 24, 25] rfl
                            refine va_calli (va_runV (As := []) (rest := []) ⟨hx, hb, hml, hown, hts⟩ (c_X7_reset l dC dI AA CA H.size uf_3 um_4 ut_5 uh_6 ug_7 ur_8 uw_9 ux_10 uy_11 _ h) (cwV 0 hts gL_law_X7_reset rfl rfl rfl (by decide +kernel) ⟨Nat.le_of_ble_eq_true rfl, Nat.le_of_ble_eq_true rfl⟩) ⟨fun a U g mk q => by obtain ⟨q0, q1, qP, qK, qD⟩ := q; exact ⟨q0, q1, qP, va_K.moved (u := U) (U := U.calling g mk a) (Vm.Alike.refl U.vm) qK, qD⟩, va_recv hKc hPc (ci := 6) (q0 := 0) rfl rfl, fun U hU hW => ⟨rfl, by rw [hU], by rw [hU]; exact hPc, va_K.moved hW.alike hKc, hDc.weaken (fun _ _ _ _ => trivial)⟩⟩ rfl rfl hl.1 rfl (lv_room (Nat.le_of_ble_eq_true rfl)) dL_law_544 ⟨Nat.le_of_ble_eq_true rfl, Nat.le_of_ble_eq_true rfl⟩) hS (fun q _ h => hFc q h) hFc (fun r_143 zz t H1 locs ht hvm hw hB hz1 hk1 hS => ?_)
                            obtain ⟨uh_144, rfl⟩ : ∃ z, z = zz := ⟨_, rfl⟩
                            replace h := hw
                            obtain ⟨hP1, hD1⟩ := hB
                            rw [ht] at hP1
                            obtain ⟨hP, hD⟩ := va_join (wr := [26, 27, 28, 29, 30, 31, 32, 33, 34, 35, 36, 37, 38, 39, 40, 41, 42, 43, 44, 45].filterMap (fun i => (wd_X7 AA CA uf_3 um_4 ut_5 uh_6 ug_7 ur_8 uw_9 ux_10 uy_11 ++ (wd_X8 a ca u8_12))[i]?)) (w1 := (wd_X7 AA CA uf_3 um_4 ut_5 uh_144 ug_7 ur_8 uw_9 ux_10 uy_11)) hP hD [0, 1, 2, 3, 4, 5, 6, 7, 8, 9, 10, 11, 12, 13, 14, 15, 16, 17, 18, 19, 20, 21, 22, 23, 24, 25] [26, 27, 28, 29, 30, 31, 32, 33, 34, 35, 36, 37, 38, 39, 40, 41, 42, 43, 44, 45] rfl rfl (by decide) (by decide) hk1 hFc hP1 hD1
                            replace hP : va_P (dC, dI) vwCl (wd_X7 AA CA uf_3 um_4 ut_5 uh_144 ug_7 ur_8 uw_9 ux_10 uy_11 ++ (wd_X8 a ca u8_12)) H1 := (hP.sub [20, 21, 22, 23, 24, 25, 26, 27, 28, 29, 30, 31, 32, 33, 34, 35, 36, 37, 38, 39, 40, 41, 42, 43, 44, 45, 0, 1, 2, 3, 4, 5, 6, 7, 8, 9, 10, 11, 12, 13, 14, 15, 16, 17, 18, 19] rfl)
                            replace hD : va_D (fun q : Nat => s.heap.size ≤ q) (wd_X7 AA CA uf_3 um_4 ut_5 uh_144 ug_7 ur_8 uw_9 ux_10 uy_11 ++ (wd_X8 a ca u8_12)) := (hD.sub [20, 21, 22, 23, 24, 25, 26, 27, 28, 29, 30, 31, 32, 33, 34, 35, 36, 37, 38, 39, 40, 41, 42, 43, 44, 45, 0, 1, 2, 3, 4, 5, 6, 7, 8, 9, 10, 11, 12, 13, 14, 15, 16, 17, 18, 19] (by decide) rfl)
                            generalize H1 = H at hP hS ⊢
                            refine lv_aload_n hx hb dL_law_547 rfl (lv_at hl 1 rfl) ?_
                            have hPc := hP.sub (ws' := (wd_X8 a ca u8_12)) [26, 27, 28, 29, 30, 31, 32, 33, 34, 35, 36, 37, 38, 39, 40, 41, 42, 43, 44, 45] rfl
                            have hDc := hD.sub (ws' := (wd_X8 a ca u8_12)) [26, 27, 28, 29, 30, 31, 32, 33, 34, 35, 36, 37, 38, 39, 40, 41, 42, 43, 44, 45] (by decide) rfl
                            have hKc := hK.sub (tys' := (ty_X8 ca)) [17, 18, 19, 20, 21, 22, 23, 24, 25, 26, 27, 28, 29, 30, 31, 32, 33, 34, 35] rfl
                            have hFc := va_free (wc := (wd_X8 a ca u8_12)) hD hS hA [26, 27, 28, 29, 30, 31, 32, 33, 34, 35, 36, 37, 38, 39, 40, 41, 42, 43, 44, 45] rfl
                            refine va_calli (va_runV (As := []) (rest := [.int r_143]) ⟨hx, hb, hml, hown, hts⟩ (c_X8_reset l dC dI a ca H.size u8_12 _ h) (cwV 0 hts gL_law_X8_reset rfl rfl rfl (by decide +kernel) ⟨Nat.le_of_ble_eq_true rfl, Nat.le_of_ble_eq_true rfl⟩) ⟨fun a U g mk q => by obtain ⟨q0, q1, qP, qK, qD⟩ := q; exact ⟨q0, q1, qP, va_K.moved (u := U) (U := U.calling g mk a) (Vm.Alike.refl U.vm) qK, qD⟩, va_recv hKc hPc (ci := 7) (q0 := 0) rfl rfl, fun U hU hW => ⟨rfl, by rw [hU], by rw [hU]; exact hPc, va_K.moved hW.alike hKc, hDc.weaken (fun _ _ _ _ => trivial)⟩⟩ rfl rfl hl.1 rfl (lv_room (Nat.le_of_ble_eq_true rfl)) dL_law_548 ⟨Nat.le_of_ble_eq_true rfl, Nat.le_of_ble_eq_true rfl⟩) hS (fun q _ h => hFc q h) hFc (fun r_145 zz t H1 locs ht hvm hw hB hz1 hk1 hS => ?_)
                            obtain ⟨u8_146, rfl⟩ : ∃ z, z = zz := ⟨_, rfl⟩
                            replace h := hw
                            obtain ⟨hP1, hD1⟩ := hB
                            rw [ht] at hP1
                            obtain ⟨hP, hD⟩ := va_join (wr := [0, 1, 2, 3, 4, 5, 6, 7, 8, 9, 10, 11, 12, 13, 14, 15, 16, 17, 18, 19, 20, 21, 22, 23, 24, 25].filterMap (fun i => (wd_X7 AA CA uf_3 um_4 ut_5 uh_144 ug_7 ur_8 uw_9 ux_10 uy_11 ++ (wd_X8 a ca u8_12))[i]?)) (w1 := (wd_X8 a ca u8_146)) hP hD [26, 27, 28, 29, 30, 31, 32, 33, 34, 35, 36, 37, 38, 39, 40, 41, 42, 43, 44, 45] [0, 1, 2, 3, 4, 5, 6, 7, 8, 9, 10, 11, 12, 13, 14, 15, 16, 17, 18, 19, 20, 21, 22, 23, 24, 25] rfl rfl (by decide) (by decide) hk1 hFc hP1 hD1
                            replace hP : va_P (dC, dI) vwCl (wd_X7 AA CA uf_3 um_4 ut_5 uh_144 ug_7 ur_8 uw_9 ux_10 uy_11 ++ (wd_X8 a ca u8_146)) H1 := (hP.sub [0, 1, 2, 3, 4, 5, 6, 7, 8, 9, 10, 11, 12, 13, 14, 15, 16, 17, 18, 19, 20, 21, 22, 23, 24, 25, 26, 27, 28, 29, 30, 31, 32, 33, 34, 35, 36, 37, 38, 39, 40, 41, 42, 43, 44, 45] rfl)
                            replace hD : va_D (fun q : Nat => s.heap.size ≤ q) (wd_X7 AA CA uf_3 um_4 ut_5 uh_144 ug_7 ur_8 uw_9 ux_10 uy_11 ++ (wd_X8 a ca u8_146)) := (hD.sub [0, 1, 2, 3, 4, 5, 6, 7, 8, 9, 10, 11, 12, 13, 14, 15, 16, 17, 18, 19, 20, 21, 22, 23, 24, 25, 26, 27, 28, 29, 30, 31, 32, 33, 34, 35, 36, 37, 38, 39, 40, 41, 42, 43, 44, 45] (by decide) rfl)
                            generalize H1 = H at hP hS ⊢
                            refine lv_icmp_eq (tgt := 892) hx hb dL_law_551 (by decide) (fun hc_147 => ?_) (fun hc_147 => ?_)
                            · replace h := h.1 hc_147
                              refine lv_iinc (v := (v3_2 + 6)) (lv' := [(3, .int (v3_2 + 6)), (2, .ref (a 0)), (1, .ref (AA 0 0)), (0, .ref b)]) hx hb dL_law_892 hl (k := 0) rfl rfl (by decide) rfl (fun ls hl => ?_)
                              refine lv_goto (tgt := 18) hx hb dL_law_895 (by decide) ?_
                              exact ih_LL_1 _ _ _ _ _ _ _ _ _ _ _ h _ _ _ hP hD hS (lv_sub hl [0, 1, 2, 3] rfl)
                            · replace h := h.2 hc_147
                              refine lv_iconst (v := 0) hx hb dL_law_554 (by decide) ?_
                              exact h.elim
                          · replace h := h.2 hs_142
                            by_cases hs_148 : ((xs v3_2.toNatClampNeg) &&& 31) = 12
                            · replace h := h.1 hs_148
                              refine lv_tableIn (tgt := 556) hx hb dL_law_33 (by rw [hs_148]; decide) (by rw [hs_148]; decide) (by rw [hs_148]; rfl) (by decide) ?_
                              refine lv_aload_n hx hb dL_law_556 rfl (lv_at hl 2 rfl) ?_
                              refine lv_aload_n hx hb dL_law_557 rfl (lv_at hl 3 rfl) ?_
                              refine lv_iload_n hx hb dL_law_558 rfl (lv_at hl 0 rfl) ?_
                              refine lv_iconst (v := 1) hx hb dL_law_559 (by decide) ?_
                              refine lv_iadd hx hb dL_law_560 ?_
                              obtain ⟨hi_149, h⟩ := h
                              refine va_sld hx hb hX hbl hbA hS hi_149 dL_law_561 ?_
                              have hPc := hP.sub (ws' := (wd_X7 AA CA uf_3 um_4 ut_5 uh_6 ug_7 ur_8 uw_9 ux_10 uy_11)) [0, 1, 2, 3, 4, 5, 6, 7, 8, 9, 10, 11, 12, 13, 14, 15, 16, 17, 18, 19, 20, 21, 22, 23, 24, 25] rfl
                              have hDc := hD.sub (ws' := (wd_X7 AA CA uf_3 um_4 ut_5 uh_6 ug_7 ur_8 uw_9 ux_10 uy_11)) [0, 1, 2, 3, 4, 5, 6, 7, 8, 9, 10, 11, 12, 13, 14, 15, 16, 17, 18, 19, 20, 21, 22, 23, 24, 25] (by decide) rfl
                              have hKc := hK.sub (tys' := (ty_X7 CA)) [0, 1, 2, 3, 4, 5, 6, 7, 8, 9, 10, 11, 12, 13, 14, 15, 16] rfl
                              have hFc := va_free (wc := (wd_X7 AA CA uf_3 um_4 ut_5 uh_6 ug_7 ur_8 uw_9 ux_10 uy_11)) hD hS hA [0, 1, 2, 3, 4, 5, 6, 7, 8, 9, 10, 11, 12, 13, 14, 15, 16, 17, 18, 19, 20, 21, 22, 23, 24, 25] rfl
                              refine va_calli (va_runV (As := [.int (xs (v3_2 + 1).toNatClampNeg)]) (rest := []) ⟨hx, hb, hml, hown, hts⟩ (c_X7_aim l dC dI AA CA H.size uf_3 um_4 ut_5 uh_6 ug_7 ur_8 uw_9 ux_10 uy_11 (xs (v3_2 + 1).toNatClampNeg) _ h) (cwV 1 hts gL_law_X7_aim rfl rfl rfl (by decide +kernel) ⟨Nat.le_of_ble_eq_true rfl, Nat.le_of_ble_eq_true rfl⟩) ⟨fun a U g mk q => by obtain ⟨q0, q1, qP, qK, qD⟩ := q; exact ⟨q0, q1, qP, va_K.moved (u := U) (U := U.calling g mk a) (Vm.Alike.refl U.vm) qK, qD⟩, va_recv hKc hPc (ci := 6) (q0 := 0) rfl rfl, fun U hU hW => ⟨rfl, by rw [hU], by rw [hU]; exact hPc, va_K.moved hW.alike hKc, hDc.weaken (fun _ _ _ _ => trivial)⟩⟩ rfl rfl hl.1 rfl (lv_room (Nat.le_of_ble_eq_true rfl)) dL_law_562 ⟨Nat.le_of_ble_eq_true rfl, Nat.le_of_ble_eq_true rfl⟩) hS (fun q _ h => hFc q h) hFc (fun r_150 zz t H1 locs ht hvm hw hB hz1 hk1 hS => ?_)
                              obtain ⟨uf_151, ug_152⟩ := zz
                              replace h := hw
                              obtain ⟨hP1, hD1⟩ := hB
                              rw [ht] at hP1
                              obtain ⟨hP, hD⟩ := va_join (wr := [26, 27, 28, 29, 30, 31, 32, 33, 34, 35, 36, 37, 38, 39, 40, 41, 42, 43, 44, 45].filterMap (fun i => (wd_X7 AA CA uf_3 um_4 ut_5 uh_6 ug_7 ur_8 uw_9 ux_10 uy_11 ++ (wd_X8 a ca u8_12))[i]?)) (w1 := (wd_X7 AA CA uf_151 um_4 ut_5 uh_6 ug_152 ur_8 uw_9 ux_10 uy_11)) hP hD [0, 1, 2, 3, 4, 5, 6, 7, 8, 9, 10, 11, 12, 13, 14, 15, 16, 17, 18, 19, 20, 21, 22, 23, 24, 25] [26, 27, 28, 29, 30, 31, 32, 33, 34, 35, 36, 37, 38, 39, 40, 41, 42, 43, 44, 45] rfl rfl (by decide) (by decide) hk1 hFc hP1 hD1
                              replace hP : va_P (dC, dI) vwCl (wd_X7 AA CA uf_151 um_4 ut_5 uh_6 ug_152 ur_8 uw_9 ux_10 uy_11 ++ (wd_X8 a ca u8_12)) H1 := (hP.sub [20, 21, 22, 23, 24, 25, 26, 27, 28, 29, 30, 31, 32, 33, 34, 35, 36, 37, 38, 39, 40, 41, 42, 43, 44, 45, 0, 1, 2, 3, 4, 5, 6, 7, 8, 9, 10, 11, 12, 13, 14, 15, 16, 17, 18, 19] rfl)
                              replace hD : va_D (fun q : Nat => s.heap.size ≤ q) (wd_X7 AA CA uf_151 um_4 ut_5 uh_6 ug_152 ur_8 uw_9 ux_10 uy_11 ++ (wd_X8 a ca u8_12)) := (hD.sub [20, 21, 22, 23, 24, 25, 26, 27, 28, 29, 30, 31, 32, 33, 34, 35, 36, 37, 38, 39, 40, 41, 42, 43, 44, 45, 0, 1, 2, 3, 4, 5, 6, 7, 8, 9, 10, 11, 12, 13, 14, 15, 16, 17, 18, 19] (by decide) rfl)
                              generalize H1 = H at hP hS ⊢
                              refine lv_aload_n hx hb dL_law_565 rfl (lv_at hl 1 rfl) ?_
                              refine lv_aload_n hx hb dL_law_566 rfl (lv_at hl 3 rfl) ?_
                              refine lv_iload_n hx hb dL_law_567 rfl (lv_at hl 0 rfl) ?_
                              refine lv_iconst (v := 1) hx hb dL_law_568 (by decide) ?_
                              refine lv_iadd hx hb dL_law_569 ?_
                              obtain ⟨hi_153, h⟩ := h
                              refine va_sld hx hb hX hbl hbA hS hi_153 dL_law_570 ?_
                              have hPc := hP.sub (ws' := (wd_X8 a ca u8_12)) [26, 27, 28, 29, 30, 31, 32, 33, 34, 35, 36, 37, 38, 39, 40, 41, 42, 43, 44, 45] rfl
                              have hDc := hD.sub (ws' := (wd_X8 a ca u8_12)) [26, 27, 28, 29, 30, 31, 32, 33, 34, 35, 36, 37, 38, 39, 40, 41, 42, 43, 44, 45] (by decide) rfl
                              have hKc := hK.sub (tys' := (ty_X8 ca)) [17, 18, 19, 20, 21, 22, 23, 24, 25, 26, 27, 28, 29, 30, 31, 32, 33, 34, 35] rfl
                              have hFc := va_free (wc := (wd_X8 a ca u8_12)) hD hS hA [26, 27, 28, 29, 30, 31, 32, 33, 34, 35, 36, 37, 38, 39, 40, 41, 42, 43, 44, 45] rfl
                              refine va_calli (va_runV (As := [.int (xs (v3_2 + 1).toNatClampNeg)]) (rest := [.int r_150]) ⟨hx, hb, hml, hown, hts⟩ (c_X8_aim l dC dI a ca H.size u8_12 (xs (v3_2 + 1).toNatClampNeg) _ h) (cwV 1 hts gL_law_X8_aim rfl rfl rfl (by decide +kernel) ⟨Nat.le_of_ble_eq_true rfl, Nat.le_of_ble_eq_true rfl⟩) ⟨fun a U g mk q => by obtain ⟨q0, q1, qP, qK, qD⟩ := q; exact ⟨q0, q1, qP, va_K.moved (u := U) (U := U.calling g mk a) (Vm.Alike.refl U.vm) qK, qD⟩, va_recv hKc hPc (ci := 7) (q0 := 0) rfl rfl, fun U hU hW => ⟨rfl, by rw [hU], by rw [hU]; exact hPc, va_K.moved hW.alike hKc, hDc.weaken (fun _ _ _ _ => trivial)⟩⟩ rfl rfl hl.1 rfl (lv_room (Nat.le_of_ble_eq_true rfl)) dL_law_571 ⟨Nat.le_of_ble_eq_true rfl, Nat.le_of_ble_eq_true rfl⟩) hS (fun q _ h => hFc q h) hFc (fun r_154 zz t H1 locs ht hvm hw hB hz1 hk1 hS => ?_)
                              obtain ⟨u8_155, rfl⟩ : ∃ z, z = zz := ⟨_, rfl⟩
                              replace h := hw
                              obtain ⟨hP1, hD1⟩ := hB
                              rw [ht] at hP1
                              obtain ⟨hP, hD⟩ := va_join (wr := [0, 1, 2, 3, 4, 5, 6, 7, 8, 9, 10, 11, 12, 13, 14, 15, 16, 17, 18, 19, 20, 21, 22, 23, 24, 25].filterMap (fun i => (wd_X7 AA CA uf_151 um_4 ut_5 uh_6 ug_152 ur_8 uw_9 ux_10 uy_11 ++ (wd_X8 a ca u8_12))[i]?)) (w1 := (wd_X8 a ca u8_155)) hP hD [26, 27, 28, 29, 30, 31, 32, 33, 34, 35, 36, 37, 38, 39, 40, 41, 42, 43, 44, 45] [0, 1, 2, 3, 4, 5, 6, 7, 8, 9, 10, 11, 12, 13, 14, 15, 16, 17, 18, 19, 20, 21, 22, 23, 24, 25] rfl rfl (by decide) (by decide) hk1 hFc hP1 hD1
                              replace hP : va_P (dC, dI) vwCl (wd_X7 AA CA uf_151 um_4 ut_5 uh_6 ug_152 ur_8 uw_9 ux_10 uy_11 ++ (wd_X8 a ca u8_155)) H1 := (hP.sub [0, 1, 2, 3, 4, 5, 6, 7, 8, 9, 10, 11, 12, 13, 14, 15, 16, 17, 18, 19, 20, 21, 22, 23, 24, 25, 26, 27, 28, 29, 30, 31, 32, 33, 34, 35, 36, 37, 38, 39, 40, 41, 42, 43, 44, 45] rfl)
                              replace hD : va_D (fun q : Nat => s.heap.size ≤ q) (wd_X7 AA CA uf_151 um_4 ut_5 uh_6 ug_152 ur_8 uw_9 ux_10 uy_11 ++ (wd_X8 a ca u8_155)) := (hD.sub [0, 1, 2, 3, 4, 5, 6, 7, 8, 9, 10, 11, 12, 13, 14, 15, 16, 17, 18, 19, 20, 21, 22, 23, 24, 25, 26, 27, 28, 29, 30, 31, 32, 33, 34, 35, 36, 37, 38, 39, 40, 41, 42, 43, 44, 45] (by decide) rfl)
                              generalize H1 = H at hP hS ⊢
                              refine lv_icmp_eq (tgt := 892) hx hb dL_law_574 (by decide) (fun hc_156 => ?_) (fun hc_156 => ?_)
                              · replace h := h.1 hc_156
                                refine lv_iinc (v := (v3_2 + 6)) (lv' := [(3, .int (v3_2 + 6)), (2, .ref (a 0)), (1, .ref (AA 0 0)), (0, .ref b)]) hx hb dL_law_892 hl (k := 0) rfl rfl (by decide) rfl (fun ls hl => ?_)
                                refine lv_goto (tgt := 18) hx hb dL_law_895 (by decide) ?_
                                exact ih_LL_1 _ _ _ _ _ _ _ _ _ _ _ h _ _ _ hP hD hS (lv_sub hl [0, 1, 2, 3] rfl)
                              · replace h := h.2 hc_156
                                refine lv_iconst (v := 0) hx hb dL_law_577 (by decide) ?_
                                exact h.elim
                            · replace h := h.2 hs_148
                              by_cases hs_157 : ((xs v3_2.toNatClampNeg) &&& 31) = 13
                              · replace h := h.1 hs_157
                                refine lv_tableIn (tgt := 579) hx hb dL_law_33 (by rw [hs_157]; decide) (by rw [hs_157]; decide) (by rw [hs_157]; rfl) (by decide) ?_
                                refine lv_aload_n hx hb dL_law_579 rfl (lv_at hl 2 rfl) ?_
                                refine lv_aload_n hx hb dL_law_580 rfl (lv_at hl 3 rfl) ?_
                                refine lv_iload_n hx hb dL_law_581 rfl (lv_at hl 0 rfl) ?_
                                refine lv_iconst (v := 1) hx hb dL_law_582 (by decide) ?_
                                refine lv_iadd hx hb dL_law_583 ?_
                                obtain ⟨hi_158, h⟩ := h
                                refine va_sld hx hb hX hbl hbA hS hi_158 dL_law_584 ?_
                                refine lv_aload_n hx hb dL_law_585 rfl (lv_at hl 3 rfl) ?_
                                refine lv_iload_n hx hb dL_law_586 rfl (lv_at hl 0 rfl) ?_
                                refine lv_iconst (v := 2) hx hb dL_law_587 (by decide) ?_
                                refine lv_iadd hx hb dL_law_588 ?_
                                obtain ⟨hi_159, h⟩ := h
                                refine va_sld hx hb hX hbl hbA hS hi_159 dL_law_589 ?_
                                have hPc := hP.sub (ws' := (wd_X7 AA CA uf_3 um_4 ut_5 uh_6 ug_7 ur_8 uw_9 ux_10 uy_11)) [0, 1, 2, 3, 4, 5, 6, 7, 8, 9, 10, 11, 12, 13, 14, 15, 16, 17, 18, 19, 20, 21, 22, 23, 24, 25] rfl
                                have hDc := hD.sub (ws' := (wd_X7 AA CA uf_3 um_4 ut_5 uh_6 ug_7 ur_8 uw_9 ux_10 uy_11)) [0, 1, 2, 3, 4, 5, 6, 7, 8, 9, 10, 11, 12, 13, 14, 15, 16, 17, 18, 19, 20, 21, 22, 23, 24, 25] (by decide) rfl
                                have hKc := hK.sub (tys' := (ty_X7 CA)) [0, 1, 2, 3, 4, 5, 6, 7, 8, 9, 10, 11, 12, 13, 14, 15, 16] rfl
                                have hFc := va_free (wc := (wd_X7 AA CA uf_3 um_4 ut_5 uh_6 ug_7 ur_8 uw_9 ux_10 uy_11)) hD hS hA [0, 1, 2, 3, 4, 5, 6, 7, 8, 9, 10, 11, 12, 13, 14, 15, 16, 17, 18, 19, 20, 21, 22, 23, 24, 25] rfl
                                refine va_calli (va_runV (As := [.int (xs (v3_2 + 1).toNatClampNeg), .int (xs (v3_2 + 2).toNatClampNeg)]) (rest := []) ⟨hx, hb, hml, hown, hts⟩ (c_X7_want l dC dI AA CA H.size uf_3 um_4 ut_5 uh_6 ug_7 ur_8 uw_9 ux_10 uy_11 (xs (v3_2 + 1).toNatClampNeg) (xs (v3_2 + 2).toNatClampNeg) _ h) (cwV 2 hts gL_law_X7_want rfl rfl rfl (by decide +kernel) ⟨Nat.le_of_ble_eq_true rfl, Nat.le_of_ble_eq_true rfl⟩) ⟨fun a U g mk q => by obtain ⟨q0, q1, qP, qK, qD⟩ := q; exact ⟨q0, q1, qP, va_K.moved (u := U) (U := U.calling g mk a) (Vm.Alike.refl U.vm) qK, qD⟩, va_recv hKc hPc (ci := 6) (q0 := 0) rfl rfl, fun U hU hW => ⟨rfl, by rw [hU], by rw [hU]; exact hPc, va_K.moved hW.alike hKc, hDc.weaken (fun _ _ _ _ => trivial)⟩⟩ rfl rfl hl.1 rfl (lv_room (Nat.le_of_ble_eq_true rfl)) dL_law_590 ⟨Nat.le_of_ble_eq_true rfl, Nat.le_of_ble_eq_true rfl⟩) hS (fun q _ h => hFc q h) hFc (fun r_160 zz t H1 locs ht hvm hw hB hz1 hk1 hS => ?_)
                                obtain ⟨uf_161, ug_162⟩ := zz
                                replace h := hw
                                obtain ⟨hP1, hD1⟩ := hB
                                rw [ht] at hP1
                                obtain ⟨hP, hD⟩ := va_join (wr := [26, 27, 28, 29, 30, 31, 32, 33, 34, 35, 36, 37, 38, 39, 40, 41, 42, 43, 44, 45].filterMap (fun i => (wd_X7 AA CA uf_3 um_4 ut_5 uh_6 ug_7 ur_8 uw_9 ux_10 uy_11 ++ (wd_X8 a ca u8_12))[i]?)) (w1 := (wd_X7 AA CA uf_161 um_4 ut_5 uh_6 ug_162 ur_8 uw_9 ux_10 uy_11)) hP hD [0, 1, 2, 3, 4, 5, 6, 7, 8, 9, 10, 11, 12, 13, 14, 15, 16, 17, 18, 19, 20, 21, 22, 23, 24, 25] [26, 27, 28, 29, 30, 31, 32, 33, 34, 35, 36, 37, 38, 39, 40, 41, 42, 43, 44, 45] rfl rfl (by decide) (by decide) hk1 hFc hP1 hD1
                                replace hP : va_P (dC, dI) vwCl (wd_X7 AA CA uf_161 um_4 ut_5 uh_6 ug_162 ur_8 uw_9 ux_10 uy_11 ++ (wd_X8 a ca u8_12)) H1 := (hP.sub [20, 21, 22, 23, 24, 25, 26, 27, 28, 29, 30, 31, 32, 33, 34, 35, 36, 37, 38, 39, 40, 41, 42, 43, 44, 45, 0, 1, 2, 3, 4, 5, 6, 7, 8, 9, 10, 11, 12, 13, 14, 15, 16, 17, 18, 19] rfl)
                                replace hD : va_D (fun q : Nat => s.heap.size ≤ q) (wd_X7 AA CA uf_161 um_4 ut_5 uh_6 ug_162 ur_8 uw_9 ux_10 uy_11 ++ (wd_X8 a ca u8_12)) := (hD.sub [20, 21, 22, 23, 24, 25, 26, 27, 28, 29, 30, 31, 32, 33, 34, 35, 36, 37, 38, 39, 40, 41, 42, 43, 44, 45, 0, 1, 2, 3, 4, 5, 6, 7, 8, 9, 10, 11, 12, 13, 14, 15, 16, 17, 18, 19] (by decide) rfl)
                                generalize H1 = H at hP hS ⊢
                                refine lv_aload_n hx hb dL_law_593 rfl (lv_at hl 1 rfl) ?_
                                refine lv_aload_n hx hb dL_law_594 rfl (lv_at hl 3 rfl) ?_
                                refine lv_iload_n hx hb dL_law_595 rfl (lv_at hl 0 rfl) ?_
                                refine lv_iconst (v := 1) hx hb dL_law_596 (by decide) ?_
                                refine lv_iadd hx hb dL_law_597 ?_
                                obtain ⟨hi_163, h⟩ := h
                                refine va_sld hx hb hX hbl hbA hS hi_163 dL_law_598 ?_
                                refine lv_aload_n hx hb dL_law_599 rfl (lv_at hl 3 rfl) ?_
                                refine lv_iload_n hx hb dL_law_600 rfl (lv_at hl 0 rfl) ?_
                                refine lv_iconst (v := 2) hx hb dL_law_601 (by decide) ?_
                                refine lv_iadd hx hb dL_law_602 ?_
                                obtain ⟨hi_164, h⟩ := h
                                refine va_sld hx hb hX hbl hbA hS hi_164 dL_law_603 ?_
                                have hPc := hP.sub (ws' := (wd_X8 a ca u8_12)) [26, 27, 28, 29, 30, 31, 32, 33, 34, 35, 36, 37, 38, 39, 40, 41, 42, 43, 44, 45] rfl
                                have hDc := hD.sub (ws' := (wd_X8 a ca u8_12)) [26, 27, 28, 29, 30, 31, 32, 33, 34, 35, 36, 37, 38, 39, 40, 41, 42, 43, 44, 45] (by decide) rfl
                                have hKc := hK.sub (tys' := (ty_X8 ca)) [17, 18, 19, 20, 21, 22, 23, 24, 25, 26, 27, 28, 29, 30, 31, 32, 33, 34, 35] rfl
                                have hFc := va_free (wc := (wd_X8 a ca u8_12)) hD hS hA [26, 27, 28, 29, 30, 31, 32, 33, 34, 35, 36, 37, 38, 39, 40, 41, 42, 43, 44, 45] rfl
                                refine va_calli (va_runV (As := [.int (xs (v3_2 + 1).toNatClampNeg), .int (xs (v3_2 + 2).toNatClampNeg)]) (rest := [.int r_160]) ⟨hx, hb, hml, hown, hts⟩ (c_X8_want l dC dI a ca H.size u8_12 (xs (v3_2 + 1).toNatClampNeg) (xs (v3_2 + 2).toNatClampNeg) _ h) (cwV 2 hts gL_law_X8_want rfl rfl rfl (by decide +kernel) ⟨Nat.le_of_ble_eq_true rfl, Nat.le_of_ble_eq_true rfl⟩) ⟨fun a U g mk q => by obtain ⟨q0, q1, qP, qK, qD⟩ := q; exact ⟨q0, q1, qP, va_K.moved (u := U) (U := U.calling g mk a) (Vm.Alike.refl U.vm) qK, qD⟩, va_recv hKc hPc (ci := 7) (q0 := 0) rfl rfl, fun U hU hW => ⟨rfl, by rw [hU], by rw [hU]; exact hPc, va_K.moved hW.alike hKc, hDc.weaken (fun _ _ _ _ => trivial)⟩⟩ rfl rfl hl.1 rfl (lv_room (Nat.le_of_ble_eq_true rfl)) dL_law_604 ⟨Nat.le_of_ble_eq_true rfl, Nat.le_of_ble_eq_true rfl⟩) hS (fun q _ h => hFc q h) hFc (fun r_165 zz t H1 locs ht hvm hw hB hz1 hk1 hS => ?_)
                                obtain ⟨u8_166, rfl⟩ : ∃ z, z = zz := ⟨_, rfl⟩
                                replace h := hw
                                obtain ⟨hP1, hD1⟩ := hB
                                rw [ht] at hP1
                                obtain ⟨hP, hD⟩ := va_join (wr := [0, 1, 2, 3, 4, 5, 6, 7, 8, 9, 10, 11, 12, 13, 14, 15, 16, 17, 18, 19, 20, 21, 22, 23, 24, 25].filterMap (fun i => (wd_X7 AA CA uf_161 um_4 ut_5 uh_6 ug_162 ur_8 uw_9 ux_10 uy_11 ++ (wd_X8 a ca u8_12))[i]?)) (w1 := (wd_X8 a ca u8_166)) hP hD [26, 27, 28, 29, 30, 31, 32, 33, 34, 35, 36, 37, 38, 39, 40, 41, 42, 43, 44, 45] [0, 1, 2, 3, 4, 5, 6, 7, 8, 9, 10, 11, 12, 13, 14, 15, 16, 17, 18, 19, 20, 21, 22, 23, 24, 25] rfl rfl (by decide) (by decide) hk1 hFc hP1 hD1
                                replace hP : va_P (dC, dI) vwCl (wd_X7 AA CA uf_161 um_4 ut_5 uh_6 ug_162 ur_8 uw_9 ux_10 uy_11 ++ (wd_X8 a ca u8_166)) H1 := (hP.sub [0, 1, 2, 3, 4, 5, 6, 7, 8, 9, 10, 11, 12, 13, 14, 15, 16, 17, 18, 19, 20, 21, 22, 23, 24, 25, 26, 27, 28, 29, 30, 31, 32, 33, 34, 35, 36, 37, 38, 39, 40, 41, 42, 43, 44, 45] rfl)
                                replace hD : va_D (fun q : Nat => s.heap.size ≤ q) (wd_X7 AA CA uf_161 um_4 ut_5 uh_6 ug_162 ur_8 uw_9 ux_10 uy_11 ++ (wd_X8 a ca u8_166)) := (hD.sub [0, 1, 2, 3, 4, 5, 6, 7, 8, 9, 10, 11, 12, 13, 14, 15, 16, 17, 18, 19, 20, 21, 22, 23, 24, 25, 26, 27, 28, 29, 30, 31, 32, 33, 34, 35, 36, 37, 38, 39, 40, 41, 42, 43, 44, 45] (by decide) rfl)
                                generalize H1 = H at hP hS ⊢
                                refine lv_icmp_eq (tgt := 892) hx hb dL_law_607 (by decide) (fun hc_167 => ?_) (fun hc_167 => ?_)
                                · replace h := h.1 hc_167
                                  refine lv_iinc (v := (v3_2 + 6)) (lv' := [(3, .int (v3_2 + 6)), (2, .ref (a 0)), (1, .ref (AA 0 0)), (0, .ref b)]) hx hb dL_law_892 hl (k := 0) rfl rfl (by decide) rfl (fun ls hl => ?_)
                                  refine lv_goto (tgt := 18) hx hb dL_law_895 (by decide) ?_
                                  exact ih_LL_1 _ _ _ _ _ _ _ _ _ _ _ h _ _ _ hP hD hS (lv_sub hl [0, 1, 2, 3] rfl)
                                · replace h := h.2 hc_167
                                  refine lv_iconst (v := 0) hx hb dL_law_610 (by decide) ?_
                                  exact h.elim
                              · replace h := h.2 hs_157
                                by_cases hs_168 : ((xs v3_2.toNatClampNeg) &&& 31) = 14
                                · replace h := h.1 hs_168
                                  refine lv_tableIn (tgt := 612) hx hb dL_law_33 (by rw [hs_168]; decide) (by rw [hs_168]; decide) (by rw [hs_168]; rfl) (by decide) ?_
                                  refine lv_aload_n hx hb dL_law_612 rfl (lv_at hl 2 rfl) ?_
                                  have hPc := hP.sub (ws' := (wd_X7 AA CA uf_3 um_4 ut_5 uh_6 ug_7 ur_8 uw_9 ux_10 uy_11)) [0, 1, 2, 3, 4, 5, 6, 7, 8, 9, 10, 11, 12, 13, 14, 15, 16, 17, 18, 19, 20, 21, 22, 23, 24, 25] rfl
                                  have hDc := hD.sub (ws' := (wd_X7 AA CA uf_3 um_4 ut_5 uh_6 ug_7 ur_8 uw_9 ux_10 uy_11)) [0, 1, 2, 3, 4, 5, 6, 7, 8, 9, 10, 11, 12, 13, 14, 15, 16, 17, 18, 19, 20, 21, 22, 23, 24, 25] (by decide) rfl
                                  have hKc := hK.sub (tys' := (ty_X7 CA)) [0, 1, 2, 3, 4, 5, 6, 7, 8, 9, 10, 11, 12, 13, 14, 15, 16] rfl
                                  have hFc := va_free (wc := (wd_X7 AA CA uf_3 um_4 ut_5 uh_6 ug_7 ur_8 uw_9 ux_10 uy_11)) hD hS hA [0, 1, 2, 3, 4, 5, 6, 7, 8, 9, 10, 11, 12, 13, 14, 15, 16, 17, 18, 19, 20, 21, 22, 23, 24, 25] rfl
                                  refine va_calli (va_runV (As := []) (rest := []) ⟨hx, hb, hml, hown, hts⟩ (c_X7_found l dC dI AA CA H.size uf_3 um_4 ut_5 uh_6 ug_7 ur_8 uw_9 ux_10 uy_11 _ h) (cwV 0 hts gL_law_X7_found rfl rfl rfl (by decide +kernel) ⟨Nat.le_of_ble_eq_true rfl, Nat.le_of_ble_eq_true rfl⟩) ⟨fun a U g mk q => by obtain ⟨q0, q1, qP, qK, qD⟩ := q; exact ⟨q0, q1, qP, va_K.moved (u := U) (U := U.calling g mk a) (Vm.Alike.refl U.vm) qK, qD⟩, va_recv hKc hPc (ci := 6) (q0 := 0) rfl rfl, fun U hU hW => ⟨rfl, by rw [hU], by rw [hU]; exact hPc, va_K.moved hW.alike hKc, hDc.weaken (fun _ _ _ _ => trivial)⟩⟩ rfl rfl hl.1 rfl (lv_room (Nat.le_of_ble_eq_true rfl)) dL_law_613 ⟨Nat.le_of_ble_eq_true rfl, Nat.le_of_ble_eq_true rfl⟩) hS (fun q _ h => hFc q h) hFc (fun r_169 zz t H1 locs ht hvm hw hB hz1 hk1 hS => ?_)
                                  obtain ⟨uf_170, ur_171⟩ := zz
                                  replace h := hw
                                  obtain ⟨hP1, hD1⟩ := hB
                                  rw [ht] at hP1
                                  obtain ⟨hP, hD⟩ := va_join (wr := [26, 27, 28, 29, 30, 31, 32, 33, 34, 35, 36, 37, 38, 39, 40, 41, 42, 43, 44, 45].filterMap (fun i => (wd_X7 AA CA uf_3 um_4 ut_5 uh_6 ug_7 ur_8 uw_9 ux_10 uy_11 ++ (wd_X8 a ca u8_12))[i]?)) (w1 := (wd_X7 AA CA uf_170 um_4 ut_5 uh_6 ug_7 ur_171 uw_9 ux_10 uy_11)) hP hD [0, 1, 2, 3, 4, 5, 6, 7, 8, 9, 10, 11, 12, 13, 14, 15, 16, 17, 18, 19, 20, 21, 22, 23, 24, 25] [26, 27, 28, 29, 30, 31, 32, 33, 34, 35, 36, 37, 38, 39, 40, 41, 42, 43, 44, 45] rfl rfl (by decide) (by decide) hk1 hFc hP1 hD1
                                  replace hP : va_P (dC, dI) vwCl (wd_X7 AA CA uf_170 um_4 ut_5 uh_6 ug_7 ur_171 uw_9 ux_10 uy_11 ++ (wd_X8 a ca u8_12)) H1 := (hP.sub [20, 21, 22, 23, 24, 25, 26, 27, 28, 29, 30, 31, 32, 33, 34, 35, 36, 37, 38, 39, 40, 41, 42, 43, 44, 45, 0, 1, 2, 3, 4, 5, 6, 7, 8, 9, 10, 11, 12, 13, 14, 15, 16, 17, 18, 19] rfl)
                                  replace hD : va_D (fun q : Nat => s.heap.size ≤ q) (wd_X7 AA CA uf_170 um_4 ut_5 uh_6 ug_7 ur_171 uw_9 ux_10 uy_11 ++ (wd_X8 a ca u8_12)) := (hD.sub [20, 21, 22, 23, 24, 25, 26, 27, 28, 29, 30, 31, 32, 33, 34, 35, 36, 37, 38, 39, 40, 41, 42, 43, 44, 45, 0, 1, 2, 3, 4, 5, 6, 7, 8, 9, 10, 11, 12, 13, 14, 15, 16, 17, 18, 19] (by decide) rfl)
                                  generalize H1 = H at hP hS ⊢
                                  refine lv_aload_n hx hb dL_law_616 rfl (lv_at hl 1 rfl) ?_
                                  have hPc := hP.sub (ws' := (wd_X8 a ca u8_12)) [26, 27, 28, 29, 30, 31, 32, 33, 34, 35, 36, 37, 38, 39, 40, 41, 42, 43, 44, 45] rfl
                                  have hDc := hD.sub (ws' := (wd_X8 a ca u8_12)) [26, 27, 28, 29, 30, 31, 32, 33, 34, 35, 36, 37, 38, 39, 40, 41, 42, 43, 44, 45] (by decide) rfl
                                  have hKc := hK.sub (tys' := (ty_X8 ca)) [17, 18, 19, 20, 21, 22, 23, 24, 25, 26, 27, 28, 29, 30, 31, 32, 33, 34, 35] rfl
                                  have hFc := va_free (wc := (wd_X8 a ca u8_12)) hD hS hA [26, 27, 28, 29, 30, 31, 32, 33, 34, 35, 36, 37, 38, 39, 40, 41, 42, 43, 44, 45] rfl
                                  refine va_calli (va_runV (As := []) (rest := [.int r_169]) ⟨hx, hb, hml, hown, hts⟩ (c_X8_found l dC dI a ca H.size u8_12 _ h) (cwV 0 hts gL_law_X8_found rfl rfl rfl (by decide +kernel) ⟨Nat.le_of_ble_eq_true rfl, Nat.le_of_ble_eq_true rfl⟩) ⟨fun a U g mk q => by obtain ⟨q0, q1, qP, qK, qD⟩ := q; exact ⟨q0, q1, qP, va_K.moved (u := U) (U := U.calling g mk a) (Vm.Alike.refl U.vm) qK, qD⟩, va_recv hKc hPc (ci := 7) (q0 := 0) rfl rfl, fun U hU hW => ⟨rfl, by rw [hU], by rw [hU]; exact hPc, va_K.moved hW.alike hKc, hDc.weaken (fun _ _ _ _ => trivial)⟩⟩ rfl rfl hl.1 rfl (lv_room (Nat.le_of_ble_eq_true rfl)) dL_law_617 ⟨Nat.le_of_ble_eq_true rfl, Nat.le_of_ble_eq_true rfl⟩) hS (fun q _ h => hFc q h) hFc (fun r_172 zz t H1 locs ht hvm hw hB hz1 hk1 hS => ?_)
                                  obtain ⟨u8_173, rfl⟩ : ∃ z, z = zz := ⟨_, rfl⟩
                                  replace h := hw
                                  obtain ⟨hP1, hD1⟩ := hB
                                  rw [ht] at hP1
                                  obtain ⟨hP, hD⟩ := va_join (wr := [0, 1, 2, 3, 4, 5, 6, 7, 8, 9, 10, 11, 12, 13, 14, 15, 16, 17, 18, 19, 20, 21, 22, 23, 24, 25].filterMap (fun i => (wd_X7 AA CA uf_170 um_4 ut_5 uh_6 ug_7 ur_171 uw_9 ux_10 uy_11 ++ (wd_X8 a ca u8_12))[i]?)) (w1 := (wd_X8 a ca u8_173)) hP hD [26, 27, 28, 29, 30, 31, 32, 33, 34, 35, 36, 37, 38, 39, 40, 41, 42, 43, 44, 45] [0, 1, 2, 3, 4, 5, 6, 7, 8, 9, 10, 11, 12, 13, 14, 15, 16, 17, 18, 19, 20, 21, 22, 23, 24, 25] rfl rfl (by decide) (by decide) hk1 hFc hP1 hD1
                                  replace hP : va_P (dC, dI) vwCl (wd_X7 AA CA uf_170 um_4 ut_5 uh_6 ug_7 ur_171 uw_9 ux_10 uy_11 ++ (wd_X8 a ca u8_173)) H1 := (hP.sub [0, 1, 2, 3, 4, 5, 6, 7, 8, 9, 10, 11, 12, 13, 14, 15, 16, 17, 18, 19, 20, 21, 22, 23, 24, 25, 26, 27, 28, 29, 30, 31, 32, 33, 34, 35, 36, 37, 38, 39, 40, 41, 42, 43, 44, 45] rfl)
                                  replace hD : va_D (fun q : Nat => s.heap.size ≤ q) (wd_X7 AA CA uf_170 um_4 ut_5 uh_6 ug_7 ur_171 uw_9 ux_10 uy_11 ++ (wd_X8 a ca u8_173)) := (hD.sub [0, 1, 2, 3, 4, 5, 6, 7, 8, 9, 10, 11, 12, 13, 14, 15, 16, 17, 18, 19, 20, 21, 22, 23, 24, 25, 26, 27, 28, 29, 30, 31, 32, 33, 34, 35, 36, 37, 38, 39, 40, 41, 42, 43, 44, 45] (by decide) rfl)
                                  generalize H1 = H at hP hS ⊢
                                  refine lv_icmp_eq (tgt := 892) hx hb dL_law_620 (by decide) (fun hc_174 => ?_) (fun hc_174 => ?_)
                                  · replace h := h.1 hc_174
                                    refine lv_iinc (v := (v3_2 + 6)) (lv' := [(3, .int (v3_2 + 6)), (2, .ref (a 0)), (1, .ref (AA 0 0)), (0, .ref b)]) hx hb dL_law_892 hl (k := 0) rfl rfl (by decide) rfl (fun ls hl => ?_)
                                    refine lv_goto (tgt := 18) hx hb dL_law_895 (by decide) ?_
                                    exact ih_LL_1 _ _ _ _ _ _ _ _ _ _ _ h _ _ _ hP hD hS (lv_sub hl [0, 1, 2, 3] rfl)
                                  · replace h := h.2 hc_174
                                    refine lv_iconst (v := 0) hx hb dL_law_623 (by decide) ?_
                                    exact h.elim
                                · replace h := h.2 hs_168
                                  by_cases hs_175 : ((xs v3_2.toNatClampNeg) &&& 31) = 15
                                  · replace h := h.1 hs_175
                                    refine lv_tableIn (tgt := 625) hx hb dL_law_33 (by rw [hs_175]; decide) (by rw [hs_175]; decide) (by rw [hs_175]; rfl) (by decide) ?_
                                    refine lv_aload_n hx hb dL_law_625 rfl (lv_at hl 2 rfl) ?_
                                    refine lv_aload_n hx hb dL_law_626 rfl (lv_at hl 3 rfl) ?_
                                    refine lv_iload_n hx hb dL_law_627 rfl (lv_at hl 0 rfl) ?_
                                    refine lv_iconst (v := 1) hx hb dL_law_628 (by decide) ?_
                                    refine lv_iadd hx hb dL_law_629 ?_
                                    obtain ⟨hi_176, h⟩ := h
                                    refine va_sld hx hb hX hbl hbA hS hi_176 dL_law_630 ?_
                                    refine lv_aload_n hx hb dL_law_631 rfl (lv_at hl 3 rfl) ?_
                                    refine lv_iload_n hx hb dL_law_632 rfl (lv_at hl 0 rfl) ?_
                                    refine lv_iconst (v := 2) hx hb dL_law_633 (by decide) ?_
                                    refine lv_iadd hx hb dL_law_634 ?_
                                    obtain ⟨hi_177, h⟩ := h
                                    refine va_sld hx hb hX hbl hbA hS hi_177 dL_law_635 ?_
                                    have hPc := hP.sub (ws' := (wd_X7 AA CA uf_3 um_4 ut_5 uh_6 ug_7 ur_8 uw_9 ux_10 uy_11)) [0, 1, 2, 3, 4, 5, 6, 7, 8, 9, 10, 11, 12, 13, 14, 15, 16, 17, 18, 19, 20, 21, 22, 23, 24, 25] rfl
                                    have hDc := hD.sub (ws' := (wd_X7 AA CA uf_3 um_4 ut_5 uh_6 ug_7 ur_8 uw_9 ux_10 uy_11)) [0, 1, 2, 3, 4, 5, 6, 7, 8, 9, 10, 11, 12, 13, 14, 15, 16, 17, 18, 19, 20, 21, 22, 23, 24, 25] (by decide) rfl
                                    have hKc := hK.sub (tys' := (ty_X7 CA)) [0, 1, 2, 3, 4, 5, 6, 7, 8, 9, 10, 11, 12, 13, 14, 15, 16] rfl
                                    have hFc := va_free (wc := (wd_X7 AA CA uf_3 um_4 ut_5 uh_6 ug_7 ur_8 uw_9 ux_10 uy_11)) hD hS hA [0, 1, 2, 3, 4, 5, 6, 7, 8, 9, 10, 11, 12, 13, 14, 15, 16, 17, 18, 19, 20, 21, 22, 23, 24, 25] rfl
                                    refine va_calli (va_runV (As := [.int (xs (v3_2 + 1).toNatClampNeg), .int (xs (v3_2 + 2).toNatClampNeg)]) (rest := []) ⟨hx, hb, hml, hown, hts⟩ (c_X7_about l dC dI AA CA H.size uf_3 um_4 ut_5 uh_6 ug_7 ur_8 uw_9 ux_10 uy_11 (xs (v3_2 + 1).toNatClampNeg) (xs (v3_2 + 2).toNatClampNeg) _ h) (cwV 2 hts gL_law_X7_about rfl rfl rfl (by decide +kernel) ⟨Nat.le_of_ble_eq_true rfl, Nat.le_of_ble_eq_true rfl⟩) ⟨fun a U g mk q => by obtain ⟨q0, q1, qP, qK, qD⟩ := q; exact ⟨q0, q1, qP, va_K.moved (u := U) (U := U.calling g mk a) (Vm.Alike.refl U.vm) qK, qD⟩, va_recv hKc hPc (ci := 6) (q0 := 0) rfl rfl, fun U hU hW => ⟨rfl, by rw [hU], by rw [hU]; exact hPc, va_K.moved hW.alike hKc, hDc.weaken (fun _ _ _ _ => trivial)⟩⟩ rfl rfl hl.1 rfl (lv_room (Nat.le_of_ble_eq_true rfl)) dL_law_636 ⟨Nat.le_of_ble_eq_true rfl, Nat.le_of_ble_eq_true rfl⟩) hS (fun q _ h => hFc q h) hFc (fun r_178 zz t H1 locs ht hvm hw hB hz1 hk1 hS => ?_)
                                    obtain ⟨uf_179, ur_180⟩ := zz
                                    replace h := hw
                                    obtain ⟨hP1, hD1⟩ := hB
                                    rw [ht] at hP1
                                    obtain ⟨hP, hD⟩ := va_join (wr := [26, 27, 28, 29, 30, 31, 32, 33, 34, 35, 36, 37, 38, 39, 40, 41, 42, 43, 44, 45].filterMap (fun i => (wd_X7 AA CA uf_3 um_4 ut_5 uh_6 ug_7 ur_8 uw_9 ux_10 uy_11 ++ (wd_X8 a ca u8_12))[i]?)) (w1 := (wd_X7 AA CA uf_179 um_4 ut_5 uh_6 ug_7 ur_180 uw_9 ux_10 uy_11)) hP hD [0, 1, 2, 3, 4, 5, 6, 7, 8, 9, 10, 11, 12, 13, 14, 15, 16, 17, 18, 19, 20, 21, 22, 23, 24, 25] [26, 27, 28, 29, 30, 31, 32, 33, 34, 35, 36, 37, 38, 39, 40, 41, 42, 43, 44, 45] rfl rfl (by decide) (by decide) hk1 hFc hP1 hD1
                                    replace hP : va_P (dC, dI) vwCl (wd_X7 AA CA uf_179 um_4 ut_5 uh_6 ug_7 ur_180 uw_9 ux_10 uy_11 ++ (wd_X8 a ca u8_12)) H1 := (hP.sub [20, 21, 22, 23, 24, 25, 26, 27, 28, 29, 30, 31, 32, 33, 34, 35, 36, 37, 38, 39, 40, 41, 42, 43, 44, 45, 0, 1, 2, 3, 4, 5, 6, 7, 8, 9, 10, 11, 12, 13, 14, 15, 16, 17, 18, 19] rfl)
                                    replace hD : va_D (fun q : Nat => s.heap.size ≤ q) (wd_X7 AA CA uf_179 um_4 ut_5 uh_6 ug_7 ur_180 uw_9 ux_10 uy_11 ++ (wd_X8 a ca u8_12)) := (hD.sub [20, 21, 22, 23, 24, 25, 26, 27, 28, 29, 30, 31, 32, 33, 34, 35, 36, 37, 38, 39, 40, 41, 42, 43, 44, 45, 0, 1, 2, 3, 4, 5, 6, 7, 8, 9, 10, 11, 12, 13, 14, 15, 16, 17, 18, 19] (by decide) rfl)
                                    generalize H1 = H at hP hS ⊢
                                    refine lv_aload_n hx hb dL_law_639 rfl (lv_at hl 1 rfl) ?_
                                    refine lv_aload_n hx hb dL_law_640 rfl (lv_at hl 3 rfl) ?_
                                    refine lv_iload_n hx hb dL_law_641 rfl (lv_at hl 0 rfl) ?_
                                    refine lv_iconst (v := 1) hx hb dL_law_642 (by decide) ?_
                                    refine lv_iadd hx hb dL_law_643 ?_
                                    obtain ⟨hi_181, h⟩ := h
                                    refine va_sld hx hb hX hbl hbA hS hi_181 dL_law_644 ?_
                                    refine lv_aload_n hx hb dL_law_645 rfl (lv_at hl 3 rfl) ?_
                                    refine lv_iload_n hx hb dL_law_646 rfl (lv_at hl 0 rfl) ?_
                                    refine lv_iconst (v := 2) hx hb dL_law_647 (by decide) ?_
                                    refine lv_iadd hx hb dL_law_648 ?_
                                    obtain ⟨hi_182, h⟩ := h
                                    refine va_sld hx hb hX hbl hbA hS hi_182 dL_law_649 ?_
                                    have hPc := hP.sub (ws' := (wd_X8 a ca u8_12)) [26, 27, 28, 29, 30, 31, 32, 33, 34, 35, 36, 37, 38, 39, 40, 41, 42, 43, 44, 45] rfl
                                    have hDc := hD.sub (ws' := (wd_X8 a ca u8_12)) [26, 27, 28, 29, 30, 31, 32, 33, 34, 35, 36, 37, 38, 39, 40, 41, 42, 43, 44, 45] (by decide) rfl
                                    have hKc := hK.sub (tys' := (ty_X8 ca)) [17, 18, 19, 20, 21, 22, 23, 24, 25, 26, 27, 28, 29, 30, 31, 32, 33, 34, 35] rfl
                                    have hFc := va_free (wc := (wd_X8 a ca u8_12)) hD hS hA [26, 27, 28, 29, 30, 31, 32, 33, 34, 35, 36, 37, 38, 39, 40, 41, 42, 43, 44, 45] rfl
                                    refine va_calli (va_runV (As := [.int (xs (v3_2 + 1).toNatClampNeg), .int (xs (v3_2 + 2).toNatClampNeg)]) (rest := [.int r_178]) ⟨hx, hb, hml, hown, hts⟩ (c_X8_about l dC dI a ca H.size u8_12 (xs (v3_2 + 1).toNatClampNeg) (xs (v3_2 + 2).toNatClampNeg) _ h) (cwV 2 hts gL_law_X8_about rfl rfl rfl (by decide +kernel) ⟨Nat.le_of_ble_eq_true rfl, Nat.le_of_ble_eq_true rfl⟩) ⟨fun a U g mk q => by obtain ⟨q0, q1, qP, qK, qD⟩ := q; exact ⟨q0, q1, qP, va_K.moved (u := U) (U := U.calling g mk a) (Vm.Alike.refl U.vm) qK, qD⟩, va_recv hKc hPc (ci := 7) (q0 := 0) rfl rfl, fun U hU hW => ⟨rfl, by rw [hU], by rw [hU]; exact hPc, va_K.moved hW.alike hKc, hDc.weaken (fun _ _ _ _ => trivial)⟩⟩ rfl rfl hl.1 rfl (lv_room (Nat.le_of_ble_eq_true rfl)) dL_law_650 ⟨Nat.le_of_ble_eq_true rfl, Nat.le_of_ble_eq_true rfl⟩) hS (fun q _ h => hFc q h) hFc (fun r_183 zz t H1 locs ht hvm hw hB hz1 hk1 hS => ?_)
                                    obtain ⟨u8_184, rfl⟩ : ∃ z, z = zz := ⟨_, rfl⟩
                                    replace h := hw
                                    obtain ⟨hP1, hD1⟩ := hB
                                    rw [ht] at hP1
                                    obtain ⟨hP, hD⟩ := va_join (wr := [0, 1, 2, 3, 4, 5, 6, 7, 8, 9, 10, 11, 12, 13, 14, 15, 16, 17, 18, 19, 20, 21, 22, 23, 24, 25].filterMap (fun i => (wd_X7 AA CA uf_179 um_4 ut_5 uh_6 ug_7 ur_180 uw_9 ux_10 uy_11 ++ (wd_X8 a ca u8_12))[i]?)) (w1 := (wd_X8 a ca u8_184)) hP hD [26, 27, 28, 29, 30, 31, 32, 33, 34, 35, 36, 37, 38, 39, 40, 41, 42, 43, 44, 45] [0, 1, 2, 3, 4, 5, 6, 7, 8, 9, 10, 11, 12, 13, 14, 15, 16, 17, 18, 19, 20, 21, 22, 23, 24, 25] rfl rfl (by decide) (by decide) hk1 hFc hP1 hD1
                                    replace hP : va_P (dC, dI) vwCl (wd_X7 AA CA uf_179 um_4 ut_5 uh_6 ug_7 ur_180 uw_9 ux_10 uy_11 ++ (wd_X8 a ca u8_184)) H1 := (hP.sub [0, 1, 2, 3, 4, 5, 6, 7, 8, 9, 10, 11, 12, 13, 14, 15, 16, 17, 18, 19, 20, 21, 22, 23, 24, 25, 26, 27, 28, 29, 30, 31, 32, 33, 34, 35, 36, 37, 38, 39, 40, 41, 42, 43, 44, 45] rfl)
                                    replace hD : va_D (fun q : Nat => s.heap.size ≤ q) (wd_X7 AA CA uf_179 um_4 ut_5 uh_6 ug_7 ur_180 uw_9 ux_10 uy_11 ++ (wd_X8 a ca u8_184)) := (hD.sub [0, 1, 2, 3, 4, 5, 6, 7, 8, 9, 10, 11, 12, 13, 14, 15, 16, 17, 18, 19, 20, 21, 22, 23, 24, 25, 26, 27, 28, 29, 30, 31, 32, 33, 34, 35, 36, 37, 38, 39, 40, 41, 42, 43, 44, 45] (by decide) rfl)
                                    generalize H1 = H at hP hS ⊢
                                    refine lv_icmp_eq (tgt := 892) hx hb dL_law_653 (by decide) (fun hc_185 => ?_) (fun hc_185 => ?_)
                                    · replace h := h.1 hc_185
                                      refine lv_iinc (v := (v3_2 + 6)) (lv' := [(3, .int (v3_2 + 6)), (2, .ref (a 0)), (1, .ref (AA 0 0)), (0, .ref b)]) hx hb dL_law_892 hl (k := 0) rfl rfl (by decide) rfl (fun ls hl => ?_)
                                      refine lv_goto (tgt := 18) hx hb dL_law_895 (by decide) ?_
                                      exact ih_LL_1 _ _ _ _ _ _ _ _ _ _ _ h _ _ _ hP hD hS (lv_sub hl [0, 1, 2, 3] rfl)
                                    · replace h := h.2 hc_185
                                      refine lv_iconst (v := 0) hx hb dL_law_656 (by decide) ?_
                                      exact h.elim
                                  · replace h := h.2 hs_175
                                    by_cases hs_186 : ((xs v3_2.toNatClampNeg) &&& 31) = 16
                                    · replace h := h.1 hs_186
                                      refine lv_tableIn (tgt := 658) hx hb dL_law_33 (by rw [hs_186]; decide) (by rw [hs_186]; decide) (by rw [hs_186]; rfl) (by decide) ?_
                                      refine lv_aload_n hx hb dL_law_658 rfl (lv_at hl 2 rfl) ?_
                                      refine lv_aload_n hx hb dL_law_659 rfl (lv_at hl 3 rfl) ?_
                                      refine lv_iload_n hx hb dL_law_660 rfl (lv_at hl 0 rfl) ?_
                                      refine lv_iconst (v := 1) hx hb dL_law_661 (by decide) ?_
                                      refine lv_iadd hx hb dL_law_662 ?_
                                      obtain ⟨hi_187, h⟩ := h
                                      refine va_sld hx hb hX hbl hbA hS hi_187 dL_law_663 ?_
                                      refine lv_aload_n hx hb dL_law_664 rfl (lv_at hl 3 rfl) ?_
                                      refine lv_iload_n hx hb dL_law_665 rfl (lv_at hl 0 rfl) ?_
                                      refine lv_iconst (v := 2) hx hb dL_law_666 (by decide) ?_
                                      refine lv_iadd hx hb dL_law_667 ?_
                                      obtain ⟨hi_188, h⟩ := h
                                      refine va_sld hx hb hX hbl hbA hS hi_188 dL_law_668 ?_
                                      refine lv_aload_n hx hb dL_law_669 rfl (lv_at hl 3 rfl) ?_
                                      refine lv_iload_n hx hb dL_law_670 rfl (lv_at hl 0 rfl) ?_
                                      refine lv_iconst (v := 3) hx hb dL_law_671 (by decide) ?_
                                      refine lv_iadd hx hb dL_law_672 ?_
                                      obtain ⟨hi_189, h⟩ := h
                                      refine va_sld hx hb hX hbl hbA hS hi_189 dL_law_673 ?_
                                      have hPc := hP.sub (ws' := (wd_X7 AA CA uf_3 um_4 ut_5 uh_6 ug_7 ur_8 uw_9 ux_10 uy_11)) [0, 1, 2, 3, 4, 5, 6, 7, 8, 9, 10, 11, 12, 13, 14, 15, 16, 17, 18, 19, 20, 21, 22, 23, 24, 25] rfl
                                      have hDc := hD.sub (ws' := (wd_X7 AA CA uf_3 um_4 ut_5 uh_6 ug_7 ur_8 uw_9 ux_10 uy_11)) [0, 1, 2, 3, 4, 5, 6, 7, 8, 9, 10, 11, 12, 13, 14, 15, 16, 17, 18, 19, 20, 21, 22, 23, 24, 25] (by decide) rfl
                                      have hKc := hK.sub (tys' := (ty_X7 CA)) [0, 1, 2, 3, 4, 5, 6, 7, 8, 9, 10, 11, 12, 13, 14, 15, 16] rfl
                                      have hFc := va_free (wc := (wd_X7 AA CA uf_3 um_4 ut_5 uh_6 ug_7 ur_8 uw_9 ux_10 uy_11)) hD hS hA [0, 1, 2, 3, 4, 5, 6, 7, 8, 9, 10, 11, 12, 13, 14, 15, 16, 17, 18, 19, 20, 21, 22, 23, 24, 25] rfl
                                      refine va_calli (va_runV (As := [.int (xs (v3_2 + 1).toNatClampNeg), .int (xs (v3_2 + 2).toNatClampNeg), .int (xs (v3_2 + 3).toNatClampNeg)]) (rest := []) ⟨hx, hb, hml, hown, hts⟩ (c_X7_letter l dC dI AA CA H.size uf_3 um_4 ut_5 uh_6 ug_7 ur_8 uw_9 ux_10 uy_11 (xs (v3_2 + 1).toNatClampNeg) (xs (v3_2 + 2).toNatClampNeg) (xs (v3_2 + 3).toNatClampNeg) _ h) (cwV 3 hts gL_law_X7_letter rfl rfl rfl (by decide +kernel) ⟨Nat.le_of_ble_eq_true rfl, Nat.le_of_ble_eq_true rfl⟩) ⟨fun a U g mk q => by obtain ⟨q0, q1, qP, qK, qD⟩ := q; exact ⟨q0, q1, qP, va_K.moved (u := U) (U := U.calling g mk a) (Vm.Alike.refl U.vm) qK, qD⟩, va_recv hKc hPc (ci := 6) (q0 := 0) rfl rfl, fun U hU hW => ⟨rfl, by rw [hU], by rw [hU]; exact hPc, va_K.moved hW.alike hKc, hDc.weaken (fun _ _ _ _ => trivial)⟩⟩ rfl rfl hl.1 rfl (lv_room (Nat.le_of_ble_eq_true rfl)) dL_law_674 ⟨Nat.le_of_ble_eq_true rfl, Nat.le_of_ble_eq_true rfl⟩) hS (fun q _ h => hFc q h) hFc (fun r_190 zz t H1 locs ht hvm hw hB hz1 hk1 hS => ?_)
                                      obtain ⟨uf_191, ur_192⟩ := zz
                                      replace h := hw
                                      obtain ⟨hP1, hD1⟩ := hB
                                      rw [ht] at hP1
                                      obtain ⟨hP, hD⟩ := va_join (wr := [26, 27, 28, 29, 30, 31, 32, 33, 34, 35, 36, 37, 38, 39, 40, 41, 42, 43, 44, 45].filterMap (fun i => (wd_X7 AA CA uf_3 um_4 ut_5 uh_6 ug_7 ur_8 uw_9 ux_10 uy_11 ++ (wd_X8 a ca u8_12))[i]?)) (w1 := (wd_X7 AA CA uf_191 um_4 ut_5 uh_6 ug_7 ur_192 uw_9 ux_10 uy_11)) hP hD [0, 1, 2, 3, 4, 5, 6, 7, 8, 9, 10, 11, 12, 13, 14, 15, 16, 17, 18, 19, 20, 21, 22, 23, 24, 25] [26, 27, 28, 29, 30, 31, 32, 33, 34, 35, 36, 37, 38, 39, 40, 41, 42, 43, 44, 45] rfl rfl (by decide) (by decide) hk1 hFc hP1 hD1
                                      replace hP : va_P (dC, dI) vwCl (wd_X7 AA CA uf_191 um_4 ut_5 uh_6 ug_7 ur_192 uw_9 ux_10 uy_11 ++ (wd_X8 a ca u8_12)) H1 := (hP.sub [20, 21, 22, 23, 24, 25, 26, 27, 28, 29, 30, 31, 32, 33, 34, 35, 36, 37, 38, 39, 40, 41, 42, 43, 44, 45, 0, 1, 2, 3, 4, 5, 6, 7, 8, 9, 10, 11, 12, 13, 14, 15, 16, 17, 18, 19] rfl)
                                      replace hD : va_D (fun q : Nat => s.heap.size ≤ q) (wd_X7 AA CA uf_191 um_4 ut_5 uh_6 ug_7 ur_192 uw_9 ux_10 uy_11 ++ (wd_X8 a ca u8_12)) := (hD.sub [20, 21, 22, 23, 24, 25, 26, 27, 28, 29, 30, 31, 32, 33, 34, 35, 36, 37, 38, 39, 40, 41, 42, 43, 44, 45, 0, 1, 2, 3, 4, 5, 6, 7, 8, 9, 10, 11, 12, 13, 14, 15, 16, 17, 18, 19] (by decide) rfl)
                                      generalize H1 = H at hP hS ⊢
                                      refine lv_aload_n hx hb dL_law_677 rfl (lv_at hl 1 rfl) ?_
                                      refine lv_aload_n hx hb dL_law_678 rfl (lv_at hl 3 rfl) ?_
                                      refine lv_iload_n hx hb dL_law_679 rfl (lv_at hl 0 rfl) ?_
                                      refine lv_iconst (v := 1) hx hb dL_law_680 (by decide) ?_
                                      refine lv_iadd hx hb dL_law_681 ?_
                                      obtain ⟨hi_193, h⟩ := h
                                      refine va_sld hx hb hX hbl hbA hS hi_193 dL_law_682 ?_
                                      refine lv_aload_n hx hb dL_law_683 rfl (lv_at hl 3 rfl) ?_
                                      refine lv_iload_n hx hb dL_law_684 rfl (lv_at hl 0 rfl) ?_
                                      refine lv_iconst (v := 2) hx hb dL_law_685 (by decide) ?_
                                      refine lv_iadd hx hb dL_law_686 ?_
                                      obtain ⟨hi_194, h⟩ := h
                                      refine va_sld hx hb hX hbl hbA hS hi_194 dL_law_687 ?_
                                      refine lv_aload_n hx hb dL_law_688 rfl (lv_at hl 3 rfl) ?_
                                      refine lv_iload_n hx hb dL_law_689 rfl (lv_at hl 0 rfl) ?_
                                      refine lv_iconst (v := 3) hx hb dL_law_690 (by decide) ?_
                                      refine lv_iadd hx hb dL_law_691 ?_
                                      obtain ⟨hi_195, h⟩ := h
                                      refine va_sld hx hb hX hbl hbA hS hi_195 dL_law_692 ?_
                                      have hPc := hP.sub (ws' := (wd_X8 a ca u8_12)) [26, 27, 28, 29, 30, 31, 32, 33, 34, 35, 36, 37, 38, 39, 40, 41, 42, 43, 44, 45] rfl
                                      have hDc := hD.sub (ws' := (wd_X8 a ca u8_12)) [26, 27, 28, 29, 30, 31, 32, 33, 34, 35, 36, 37, 38, 39, 40, 41, 42, 43, 44, 45] (by decide) rfl
                                      have hKc := hK.sub (tys' := (ty_X8 ca)) [17, 18, 19, 20, 21, 22, 23, 24, 25, 26, 27, 28, 29, 30, 31, 32, 33, 34, 35] rfl
                                      have hFc := va_free (wc := (wd_X8 a ca u8_12)) hD hS hA [26, 27, 28, 29, 30, 31, 32, 33, 34, 35, 36, 37, 38, 39, 40, 41, 42, 43, 44, 45] rfl
                                      refine va_calli (va_runV (As := [.int (xs (v3_2 + 1).toNatClampNeg), .int (xs (v3_2 + 2).toNatClampNeg), .int (xs (v3_2 + 3).toNatClampNeg)]) (rest := [.int r_190]) ⟨hx, hb, hml, hown, hts⟩ (c_X8_letter l dC dI a ca H.size u8_12 (xs (v3_2 + 1).toNatClampNeg) (xs (v3_2 + 2).toNatClampNeg) (xs (v3_2 + 3).toNatClampNeg) _ h) (cwV 3 hts gL_law_X8_letter rfl rfl rfl (by decide +kernel) ⟨Nat.le_of_ble_eq_true rfl, Nat.le_of_ble_eq_true rfl⟩) ⟨fun a U g mk q => by obtain ⟨q0, q1, qP, qK, qD⟩ := q; exact ⟨q0, q1, qP, va_K.moved (u := U) (U := U.calling g mk a) (Vm.Alike.refl U.vm) qK, qD⟩, va_recv hKc hPc (ci := 7) (q0 := 0) rfl rfl, fun U hU hW => ⟨rfl, by rw [hU], by rw [hU]; exact hPc, va_K.moved hW.alike hKc, hDc.weaken (fun _ _ _ _ => trivial)⟩⟩ rfl rfl hl.1 rfl (lv_room (Nat.le_of_ble_eq_true rfl)) dL_law_693 ⟨Nat.le_of_ble_eq_true rfl, Nat.le_of_ble_eq_true rfl⟩) hS (fun q _ h => hFc q h) hFc (fun r_196 zz t H1 locs ht hvm hw hB hz1 hk1 hS => ?_)
                                      obtain ⟨u8_197, rfl⟩ : ∃ z, z = zz := ⟨_, rfl⟩
                                      replace h := hw
                                      obtain ⟨hP1, hD1⟩ := hB
                                      rw [ht] at hP1
                                      obtain ⟨hP, hD⟩ := va_join (wr := [0, 1, 2, 3, 4, 5, 6, 7, 8, 9, 10, 11, 12, 13, 14, 15, 16, 17, 18, 19, 20, 21, 22, 23, 24, 25].filterMap (fun i => (wd_X7 AA CA uf_191 um_4 ut_5 uh_6 ug_7 ur_192 uw_9 ux_10 uy_11 ++ (wd_X8 a ca u8_12))[i]?)) (w1 := (wd_X8 a ca u8_197)) hP hD [26, 27, 28, 29, 30, 31, 32, 33, 34, 35, 36, 37, 38, 39, 40, 41, 42, 43, 44, 45] [0, 1, 2, 3, 4, 5, 6, 7, 8, 9, 10, 11, 12, 13, 14, 15, 16, 17, 18, 19, 20, 21, 22, 23, 24, 25] rfl rfl (by decide) (by decide) hk1 hFc hP1 hD1
                                      replace hP : va_P (dC, dI) vwCl (wd_X7 AA CA uf_191 um_4 ut_5 uh_6 ug_7 ur_192 uw_9 ux_10 uy_11 ++ (wd_X8 a ca u8_197)) H1 := (hP.sub [0, 1, 2, 3, 4, 5, 6, 7, 8, 9, 10, 11, 12, 13, 14, 15, 16, 17, 18, 19, 20, 21, 22, 23, 24, 25, 26, 27, 28, 29, 30, 31, 32, 33, 34, 35, 36, 37, 38, 39, 40, 41, 42, 43, 44, 45] rfl)
                                      replace hD : va_D (fun q : Nat => s.heap.size ≤ q) (wd_X7 AA CA uf_191 um_4 ut_5 uh_6 ug_7 ur_192 uw_9 ux_10 uy_11 ++ (wd_X8 a ca u8_197)) := (hD.sub [0, 1, 2, 3, 4, 5, 6, 7, 8, 9, 10, 11, 12, 13, 14, 15, 16, 17, 18, 19, 20, 21, 22, 23, 24, 25, 26, 27, 28, 29, 30, 31, 32, 33, 34, 35, 36, 37, 38, 39, 40, 41, 42, 43, 44, 45] (by decide) rfl)
                                      generalize H1 = H at hP hS ⊢
                                      refine lv_icmp_eq (tgt := 892) hx hb dL_law_696 (by decide) (fun hc_198 => ?_) (fun hc_198 => ?_)
                                      · replace h := h.1 hc_198
                                        refine lv_iinc (v := (v3_2 + 6)) (lv' := [(3, .int (v3_2 + 6)), (2, .ref (a 0)), (1, .ref (AA 0 0)), (0, .ref b)]) hx hb dL_law_892 hl (k := 0) rfl rfl (by decide) rfl (fun ls hl => ?_)
                                        refine lv_goto (tgt := 18) hx hb dL_law_895 (by decide) ?_
                                        exact ih_LL_1 _ _ _ _ _ _ _ _ _ _ _ h _ _ _ hP hD hS (lv_sub hl [0, 1, 2, 3] rfl)
                                      · replace h := h.2 hc_198
                                        refine lv_iconst (v := 0) hx hb dL_law_699 (by decide) ?_
                                        exact h.elim
                                    · replace h := h.2 hs_186
                                      by_cases hs_199 : ((xs v3_2.toNatClampNeg) &&& 31) = 17
                                      · replace h := h.1 hs_199
                                        refine lv_tableIn (tgt := 701) hx hb dL_law_33 (by rw [hs_199]; decide) (by rw [hs_199]; decide) (by rw [hs_199]; rfl) (by decide) ?_
                                        refine lv_aload_n hx hb dL_law_701 rfl (lv_at hl 2 rfl) ?_
                                        have hPc := hP.sub (ws' := (wd_X7 AA CA uf_3 um_4 ut_5 uh_6 ug_7 ur_8 uw_9 ux_10 uy_11)) [0, 1, 2, 3, 4, 5, 6, 7, 8, 9, 10, 11, 12, 13, 14, 15, 16, 17, 18, 19, 20, 21, 22, 23, 24, 25] rfl
                                        have hDc := hD.sub (ws' := (wd_X7 AA CA uf_3 um_4 ut_5 uh_6 ug_7 ur_8 uw_9 ux_10 uy_11)) [0, 1, 2, 3, 4, 5, 6, 7, 8, 9, 10, 11, 12, 13, 14, 15, 16, 17, 18, 19, 20, 21, 22, 23, 24, 25] (by decide) rfl
                                        have hKc := hK.sub (tys' := (ty_X7 CA)) [0, 1, 2, 3, 4, 5, 6, 7, 8, 9, 10, 11, 12, 13, 14, 15, 16] rfl
                                        have hFc := va_free (wc := (wd_X7 AA CA uf_3 um_4 ut_5 uh_6 ug_7 ur_8 uw_9 ux_10 uy_11)) hD hS hA [0, 1, 2, 3, 4, 5, 6, 7, 8, 9, 10, 11, 12, 13, 14, 15, 16, 17, 18, 19, 20, 21, 22, 23, 24, 25] rfl
                                        refine va_calli (va_runV (As := []) (rest := []) ⟨hx, hb, hml, hown, hts⟩ (c_X7_least l dC dI AA CA H.size uf_3 um_4 ut_5 uh_6 ug_7 ur_8 uw_9 ux_10 uy_11 _ h) (cwV 0 hts gL_law_X7_least rfl rfl rfl (by decide +kernel) ⟨Nat.le_of_ble_eq_true rfl, Nat.le_of_ble_eq_true rfl⟩) ⟨fun a U g mk q => by obtain ⟨q0, q1, qP, qK, qD⟩ := q; exact ⟨q0, q1, qP, va_K.moved (u := U) (U := U.calling g mk a) (Vm.Alike.refl U.vm) qK, qD⟩, va_recv hKc hPc (ci := 6) (q0 := 0) rfl rfl, fun U hU hW => ⟨rfl, by rw [hU], by rw [hU]; exact hPc, va_K.moved hW.alike hKc, hDc.weaken (fun _ _ _ _ => trivial)⟩⟩ rfl rfl hl.1 rfl (lv_room (Nat.le_of_ble_eq_true rfl)) dL_law_702 ⟨Nat.le_of_ble_eq_true rfl, Nat.le_of_ble_eq_true rfl⟩) hS (fun q _ h => hFc q h) hFc (fun r_200 zz t H1 locs ht hvm hw hB hz1 hk1 hS => ?_)
                                        obtain ⟨uf_201, ur_202⟩ := zz
                                        replace h := hw
                                        obtain ⟨hP1, hD1⟩ := hB
                                        rw [ht] at hP1
                                        obtain ⟨hP, hD⟩ := va_join (wr := [26, 27, 28, 29, 30, 31, 32, 33, 34, 35, 36, 37, 38, 39, 40, 41, 42, 43, 44, 45].filterMap (fun i => (wd_X7 AA CA uf_3 um_4 ut_5 uh_6 ug_7 ur_8 uw_9 ux_10 uy_11 ++ (wd_X8 a ca u8_12))[i]?)) (w1 := (wd_X7 AA CA uf_201 um_4 ut_5 uh_6 ug_7 ur_202 uw_9 ux_10 uy_11)) hP hD [0, 1, 2, 3, 4, 5, 6, 7, 8, 9, 10, 11, 12, 13, 14, 15, 16, 17, 18, 19, 20, 21, 22, 23, 24, 25] [26, 27, 28, 29, 30, 31, 32, 33, 34, 35, 36, 37, 38, 39, 40, 41, 42, 43, 44, 45] rfl rfl (by decide) (by decide) hk1 hFc hP1 hD1
                                        replace hP : va_P (dC, dI) vwCl (wd_X7 AA CA uf_201 um_4 ut_5 uh_6 ug_7 ur_202 uw_9 ux_10 uy_11 ++ (wd_X8 a ca u8_12)) H1 := (hP.sub [20, 21, 22, 23, 24, 25, 26, 27, 28, 29, 30, 31, 32, 33, 34, 35, 36, 37, 38, 39, 40, 41, 42, 43, 44, 45, 0, 1, 2, 3, 4, 5, 6, 7, 8, 9, 10, 11, 12, 13, 14, 15, 16, 17, 18, 19] rfl)
                                        replace hD : va_D (fun q : Nat => s.heap.size ≤ q) (wd_X7 AA CA uf_201 um_4 ut_5 uh_6 ug_7 ur_202 uw_9 ux_10 uy_11 ++ (wd_X8 a ca u8_12)) := (hD.sub [20, 21, 22, 23, 24, 25, 26, 27, 28, 29, 30, 31, 32, 33, 34, 35, 36, 37, 38, 39, 40, 41, 42, 43, 44, 45, 0, 1, 2, 3, 4, 5, 6, 7, 8, 9, 10, 11, 12, 13, 14, 15, 16, 17, 18, 19] (by decide) rfl)
                                        generalize H1 = H at hP hS ⊢
                                        refine lv_aload_n hx hb dL_law_705 rfl (lv_at hl 1 rfl) ?_
                                        have hPc := hP.sub (ws' := (wd_X8 a ca u8_12)) [26, 27, 28, 29, 30, 31, 32, 33, 34, 35, 36, 37, 38, 39, 40, 41, 42, 43, 44, 45] rfl
                                        have hDc := hD.sub (ws' := (wd_X8 a ca u8_12)) [26, 27, 28, 29, 30, 31, 32, 33, 34, 35, 36, 37, 38, 39, 40, 41, 42, 43, 44, 45] (by decide) rfl
                                        have hKc := hK.sub (tys' := (ty_X8 ca)) [17, 18, 19, 20, 21, 22, 23, 24, 25, 26, 27, 28, 29, 30, 31, 32, 33, 34, 35] rfl
                                        have hFc := va_free (wc := (wd_X8 a ca u8_12)) hD hS hA [26, 27, 28, 29, 30, 31, 32, 33, 34, 35, 36, 37, 38, 39, 40, 41, 42, 43, 44, 45] rfl
                                        refine va_calli (va_runV (As := []) (rest := [.int r_200]) ⟨hx, hb, hml, hown, hts⟩ (c_X8_least l dC dI a ca H.size u8_12 _ h) (cwV 0 hts gL_law_X8_least rfl rfl rfl (by decide +kernel) ⟨Nat.le_of_ble_eq_true rfl, Nat.le_of_ble_eq_true rfl⟩) ⟨fun a U g mk q => by obtain ⟨q0, q1, qP, qK, qD⟩ := q; exact ⟨q0, q1, qP, va_K.moved (u := U) (U := U.calling g mk a) (Vm.Alike.refl U.vm) qK, qD⟩, va_recv hKc hPc (ci := 7) (q0 := 0) rfl rfl, fun U hU hW => ⟨rfl, by rw [hU], by rw [hU]; exact hPc, va_K.moved hW.alike hKc, hDc.weaken (fun _ _ _ _ => trivial)⟩⟩ rfl rfl hl.1 rfl (lv_room (Nat.le_of_ble_eq_true rfl)) dL_law_706 ⟨Nat.le_of_ble_eq_true rfl, Nat.le_of_ble_eq_true rfl⟩) hS (fun q _ h => hFc q h) hFc (fun r_203 zz t H1 locs ht hvm hw hB hz1 hk1 hS => ?_)
                                        obtain ⟨u8_204, rfl⟩ : ∃ z, z = zz := ⟨_, rfl⟩
                                        replace h := hw
                                        obtain ⟨hP1, hD1⟩ := hB
                                        rw [ht] at hP1
                                        obtain ⟨hP, hD⟩ := va_join (wr := [0, 1, 2, 3, 4, 5, 6, 7, 8, 9, 10, 11, 12, 13, 14, 15, 16, 17, 18, 19, 20, 21, 22, 23, 24, 25].filterMap (fun i => (wd_X7 AA CA uf_201 um_4 ut_5 uh_6 ug_7 ur_202 uw_9 ux_10 uy_11 ++ (wd_X8 a ca u8_12))[i]?)) (w1 := (wd_X8 a ca u8_204)) hP hD [26, 27, 28, 29, 30, 31, 32, 33, 34, 35, 36, 37, 38, 39, 40, 41, 42, 43, 44, 45] [0, 1, 2, 3, 4, 5, 6, 7, 8, 9, 10, 11, 12, 13, 14, 15, 16, 17, 18, 19, 20, 21, 22, 23, 24, 25] rfl rfl (by decide) (by decide) hk1 hFc hP1 hD1
                                        replace hP : va_P (dC, dI) vwCl (wd_X7 AA CA uf_201 um_4 ut_5 uh_6 ug_7 ur_202 uw_9 ux_10 uy_11 ++ (wd_X8 a ca u8_204)) H1 := (hP.sub [0, 1, 2, 3, 4, 5, 6, 7, 8, 9, 10, 11, 12, 13, 14, 15, 16, 17, 18, 19, 20, 21, 22, 23, 24, 25, 26, 27, 28, 29, 30, 31, 32, 33, 34, 35, 36, 37, 38, 39, 40, 41, 42, 43, 44, 45] rfl)
                                        replace hD : va_D (fun q : Nat => s.heap.size ≤ q) (wd_X7 AA CA uf_201 um_4 ut_5 uh_6 ug_7 ur_202 uw_9 ux_10 uy_11 ++ (wd_X8 a ca u8_204)) := (hD.sub [0, 1, 2, 3, 4, 5, 6, 7, 8, 9, 10, 11, 12, 13, 14, 15, 16, 17, 18, 19, 20, 21, 22, 23, 24, 25, 26, 27, 28, 29, 30, 31, 32, 33, 34, 35, 36, 37, 38, 39, 40, 41, 42, 43, 44, 45] (by decide) rfl)
                                        generalize H1 = H at hP hS ⊢
                                        refine lv_icmp_eq (tgt := 892) hx hb dL_law_709 (by decide) (fun hc_205 => ?_) (fun hc_205 => ?_)
                                        · replace h := h.1 hc_205
                                          refine lv_iinc (v := (v3_2 + 6)) (lv' := [(3, .int (v3_2 + 6)), (2, .ref (a 0)), (1, .ref (AA 0 0)), (0, .ref b)]) hx hb dL_law_892 hl (k := 0) rfl rfl (by decide) rfl (fun ls hl => ?_)
                                          refine lv_goto (tgt := 18) hx hb dL_law_895 (by decide) ?_
                                          exact ih_LL_1 _ _ _ _ _ _ _ _ _ _ _ h _ _ _ hP hD hS (lv_sub hl [0, 1, 2, 3] rfl)
                                        · replace h := h.2 hc_205
                                          refine lv_iconst (v := 0) hx hb dL_law_712 (by decide) ?_
                                          exact h.elim
                                      · replace h := h.2 hs_199
                                        by_cases hs_206 : ((xs v3_2.toNatClampNeg) &&& 31) = 18
                                        · replace h := h.1 hs_206
                                          refine lv_tableIn (tgt := 714) hx hb dL_law_33 (by rw [hs_206]; decide) (by rw [hs_206]; decide) (by rw [hs_206]; rfl) (by decide) ?_
                                          refine lv_aload_n hx hb dL_law_714 rfl (lv_at hl 2 rfl) ?_
                                          have hPc := hP.sub (ws' := (wd_X7 AA CA uf_3 um_4 ut_5 uh_6 ug_7 ur_8 uw_9 ux_10 uy_11)) [0, 1, 2, 3, 4, 5, 6, 7, 8, 9, 10, 11, 12, 13, 14, 15, 16, 17, 18, 19, 20, 21, 22, 23, 24, 25] rfl
                                          have hDc := hD.sub (ws' := (wd_X7 AA CA uf_3 um_4 ut_5 uh_6 ug_7 ur_8 uw_9 ux_10 uy_11)) [0, 1, 2, 3, 4, 5, 6, 7, 8, 9, 10, 11, 12, 13, 14, 15, 16, 17, 18, 19, 20, 21, 22, 23, 24, 25] (by decide) rfl
                                          have hKc := hK.sub (tys' := (ty_X7 CA)) [0, 1, 2, 3, 4, 5, 6, 7, 8, 9, 10, 11, 12, 13, 14, 15, 16] rfl
                                          have hFc := va_free (wc := (wd_X7 AA CA uf_3 um_4 ut_5 uh_6 ug_7 ur_8 uw_9 ux_10 uy_11)) hD hS hA [0, 1, 2, 3, 4, 5, 6, 7, 8, 9, 10, 11, 12, 13, 14, 15, 16, 17, 18, 19, 20, 21, 22, 23, 24, 25] rfl
                                          refine va_calli (va_runV (As := []) (rest := []) ⟨hx, hb, hml, hown, hts⟩ (c_X7_far l dC dI AA CA H.size uf_3 um_4 ut_5 uh_6 ug_7 ur_8 uw_9 ux_10 uy_11 _ h) (cwV 0 hts gL_law_X7_far rfl rfl rfl (by decide +kernel) ⟨Nat.le_of_ble_eq_true rfl, Nat.le_of_ble_eq_true rfl⟩) ⟨fun a U g mk q => by obtain ⟨q0, q1, qP, qK, qD⟩ := q; exact ⟨q0, q1, qP, va_K.moved (u := U) (U := U.calling g mk a) (Vm.Alike.refl U.vm) qK, qD⟩, va_recv hKc hPc (ci := 6) (q0 := 0) rfl rfl, fun U hU hW => ⟨rfl, by rw [hU], by rw [hU]; exact hPc, va_K.moved hW.alike hKc, hDc.weaken (fun _ _ _ _ => trivial)⟩⟩ rfl rfl hl.1 rfl (lv_room (Nat.le_of_ble_eq_true rfl)) dL_law_715 ⟨Nat.le_of_ble_eq_true rfl, Nat.le_of_ble_eq_true rfl⟩) hS (fun q _ h => hFc q h) hFc (fun r_207 zz t H1 locs ht hvm hw hB hz1 hk1 hS => ?_)
                                          obtain ⟨uf_208, ur_209⟩ := zz
                                          replace h := hw
                                          obtain ⟨hP1, hD1⟩ := hB
                                          rw [ht] at hP1
                                          obtain ⟨hP, hD⟩ := va_join (wr := [26, 27, 28, 29, 30, 31, 32, 33, 34, 35, 36, 37, 38, 39, 40, 41, 42, 43, 44, 45].filterMap (fun i => (wd_X7 AA CA uf_3 um_4 ut_5 uh_6 ug_7 ur_8 uw_9 ux_10 uy_11 ++ (wd_X8 a ca u8_12))[i]?)) (w1 := (wd_X7 AA CA uf_208 um_4 ut_5 uh_6 ug_7 ur_209 uw_9 ux_10 uy_11)) hP hD [0, 1, 2, 3, 4, 5, 6, 7, 8, 9, 10, 11, 12, 13, 14, 15, 16, 17, 18, 19, 20, 21, 22, 23, 24, 25] [26, 27, 28, 29, 30, 31, 32, 33, 34, 35, 36, 37, 38, 39, 40, 41, 42, 43, 44, 45] rfl rfl (by decide) (by decide) hk1 hFc hP1 hD1
                                          replace hP : va_P (dC, dI) vwCl (wd_X7 AA CA uf_208 um_4 ut_5 uh_6 ug_7 ur_209 uw_9 ux_10 uy_11 ++ (wd_X8 a ca u8_12)) H1 := (hP.sub [20, 21, 22, 23, 24, 25, 26, 27, 28, 29, 30, 31, 32, 33, 34, 35, 36, 37, 38, 39, 40, 41, 42, 43, 44, 45, 0, 1, 2, 3, 4, 5, 6, 7, 8, 9, 10, 11, 12, 13, 14, 15, 16, 17, 18, 19] rfl)
                                          replace hD : va_D (fun q : Nat => s.heap.size ≤ q) (wd_X7 AA CA uf_208 um_4 ut_5 uh_6 ug_7 ur_209 uw_9 ux_10 uy_11 ++ (wd_X8 a ca u8_12)) := (hD.sub [20, 21, 22, 23, 24, 25, 26, 27, 28, 29, 30, 31, 32, 33, 34, 35, 36, 37, 38, 39, 40, 41, 42, 43, 44, 45, 0, 1, 2, 3, 4, 5, 6, 7, 8, 9, 10, 11, 12, 13, 14, 15, 16, 17, 18, 19] (by decide) rfl)
                                          generalize H1 = H at hP hS ⊢
                                          refine lv_aload_n hx hb dL_law_718 rfl (lv_at hl 1 rfl) ?_
                                          have hPc := hP.sub (ws' := (wd_X8 a ca u8_12)) [26, 27, 28, 29, 30, 31, 32, 33, 34, 35, 36, 37, 38, 39, 40, 41, 42, 43, 44, 45] rfl
                                          have hDc := hD.sub (ws' := (wd_X8 a ca u8_12)) [26, 27, 28, 29, 30, 31, 32, 33, 34, 35, 36, 37, 38, 39, 40, 41, 42, 43, 44, 45] (by decide) rfl
                                          have hKc := hK.sub (tys' := (ty_X8 ca)) [17, 18, 19, 20, 21, 22, 23, 24, 25, 26, 27, 28, 29, 30, 31, 32, 33, 34, 35] rfl
                                          have hFc := va_free (wc := (wd_X8 a ca u8_12)) hD hS hA [26, 27, 28, 29, 30, 31, 32, 33, 34, 35, 36, 37, 38, 39, 40, 41, 42, 43, 44, 45] rfl
                                          refine va_calli (va_runV (As := []) (rest := [.int r_207]) ⟨hx, hb, hml, hown, hts⟩ (c_X8_far l dC dI a ca H.size u8_12 _ h) (cwV 0 hts gL_law_X8_far rfl rfl rfl (by decide +kernel) ⟨Nat.le_of_ble_eq_true rfl, Nat.le_of_ble_eq_true rfl⟩) ⟨fun a U g mk q => by obtain ⟨q0, q1, qP, qK, qD⟩ := q; exact ⟨q0, q1, qP, va_K.moved (u := U) (U := U.calling g mk a) (Vm.Alike.refl U.vm) qK, qD⟩, va_recv hKc hPc (ci := 7) (q0 := 0) rfl rfl, fun U hU hW => ⟨rfl, by rw [hU], by rw [hU]; exact hPc, va_K.moved hW.alike hKc, hDc.weaken (fun _ _ _ _ => trivial)⟩⟩ rfl rfl hl.1 rfl (lv_room (Nat.le_of_ble_eq_true rfl)) dL_law_719 ⟨Nat.le_of_ble_eq_true rfl, Nat.le_of_ble_eq_true rfl⟩) hS (fun q _ h => hFc q h) hFc (fun r_210 zz t H1 locs ht hvm hw hB hz1 hk1 hS => ?_)
                                          obtain ⟨u8_211, rfl⟩ : ∃ z, z = zz := ⟨_, rfl⟩
                                          replace h := hw
                                          obtain ⟨hP1, hD1⟩ := hB
                                          rw [ht] at hP1
                                          obtain ⟨hP, hD⟩ := va_join (wr := [0, 1, 2, 3, 4, 5, 6, 7, 8, 9, 10, 11, 12, 13, 14, 15, 16, 17, 18, 19, 20, 21, 22, 23, 24, 25].filterMap (fun i => (wd_X7 AA CA uf_208 um_4 ut_5 uh_6 ug_7 ur_209 uw_9 ux_10 uy_11 ++ (wd_X8 a ca u8_12))[i]?)) (w1 := (wd_X8 a ca u8_211)) hP hD [26, 27, 28, 29, 30, 31, 32, 33, 34, 35, 36, 37, 38, 39, 40, 41, 42, 43, 44, 45] [0, 1, 2, 3, 4, 5, 6, 7, 8, 9, 10, 11, 12, 13, 14, 15, 16, 17, 18, 19, 20, 21, 22, 23, 24, 25] rfl rfl (by decide) (by decide) hk1 hFc hP1 hD1
                                          replace hP : va_P (dC, dI) vwCl (wd_X7 AA CA uf_208 um_4 ut_5 uh_6 ug_7 ur_209 uw_9 ux_10 uy_11 ++ (wd_X8 a ca u8_211)) H1 := (hP.sub [0, 1, 2, 3, 4, 5, 6, 7, 8, 9, 10, 11, 12, 13, 14, 15, 16, 17, 18, 19, 20, 21, 22, 23, 24, 25, 26, 27, 28, 29, 30, 31, 32, 33, 34, 35, 36, 37, 38, 39, 40, 41, 42, 43, 44, 45] rfl)
                                          replace hD : va_D (fun q : Nat => s.heap.size ≤ q) (wd_X7 AA CA uf_208 um_4 ut_5 uh_6 ug_7 ur_209 uw_9 ux_10 uy_11 ++ (wd_X8 a ca u8_211)) := (hD.sub [0, 1, 2, 3, 4, 5, 6, 7, 8, 9, 10, 11, 12, 13, 14, 15, 16, 17, 18, 19, 20, 21, 22, 23, 24, 25, 26, 27, 28, 29, 30, 31, 32, 33, 34, 35, 36, 37, 38, 39, 40, 41, 42, 43, 44, 45] (by decide) rfl)
                                          generalize H1 = H at hP hS ⊢
                                          refine lv_icmp_eq (tgt := 892) hx hb dL_law_722 (by decide) (fun hc_212 => ?_) (fun hc_212 => ?_)
                                          · replace h := h.1 hc_212
                                            refine lv_iinc (v := (v3_2 + 6)) (lv' := [(3, .int (v3_2 + 6)), (2, .ref (a 0)), (1, .ref (AA 0 0)), (0, .ref b)]) hx hb dL_law_892 hl (k := 0) rfl rfl (by decide) rfl (fun ls hl => ?_)
                                            refine lv_goto (tgt := 18) hx hb dL_law_895 (by decide) ?_
                                            exact ih_LL_1 _ _ _ _ _ _ _ _ _ _ _ h _ _ _ hP hD hS (lv_sub hl [0, 1, 2, 3] rfl)
                                          · replace h := h.2 hc_212
                                            refine lv_iconst (v := 0) hx hb dL_law_725 (by decide) ?_
                                            exact h.elim
                                        · replace h := h.2 hs_206
                                          by_cases hs_213 : ((xs v3_2.toNatClampNeg) &&& 31) = 19
                                          · replace h := h.1 hs_213
                                            refine lv_tableIn (tgt := 727) hx hb dL_law_33 (by rw [hs_213]; decide) (by rw [hs_213]; decide) (by rw [hs_213]; rfl) (by decide) ?_
                                            refine lv_aload_n hx hb dL_law_727 rfl (lv_at hl 2 rfl) ?_
                                            refine lv_aload_n hx hb dL_law_728 rfl (lv_at hl 3 rfl) ?_
                                            refine lv_iload_n hx hb dL_law_729 rfl (lv_at hl 0 rfl) ?_
                                            refine lv_iconst (v := 1) hx hb dL_law_730 (by decide) ?_
                                            refine lv_iadd hx hb dL_law_731 ?_
                                            obtain ⟨hi_214, h⟩ := h
                                            refine va_sld hx hb hX hbl hbA hS hi_214 dL_law_732 ?_
                                            have hPc := hP.sub (ws' := (wd_X7 AA CA uf_3 um_4 ut_5 uh_6 ug_7 ur_8 uw_9 ux_10 uy_11)) [0, 1, 2, 3, 4, 5, 6, 7, 8, 9, 10, 11, 12, 13, 14, 15, 16, 17, 18, 19, 20, 21, 22, 23, 24, 25] rfl
                                            have hDc := hD.sub (ws' := (wd_X7 AA CA uf_3 um_4 ut_5 uh_6 ug_7 ur_8 uw_9 ux_10 uy_11)) [0, 1, 2, 3, 4, 5, 6, 7, 8, 9, 10, 11, 12, 13, 14, 15, 16, 17, 18, 19, 20, 21, 22, 23, 24, 25] (by decide) rfl
                                            have hKc := hK.sub (tys' := (ty_X7 CA)) [0, 1, 2, 3, 4, 5, 6, 7, 8, 9, 10, 11, 12, 13, 14, 15, 16] rfl
                                            have hFc := va_free (wc := (wd_X7 AA CA uf_3 um_4 ut_5 uh_6 ug_7 ur_8 uw_9 ux_10 uy_11)) hD hS hA [0, 1, 2, 3, 4, 5, 6, 7, 8, 9, 10, 11, 12, 13, 14, 15, 16, 17, 18, 19, 20, 21, 22, 23, 24, 25] rfl
                                            refine va_calli (va_runV (As := [.int (xs (v3_2 + 1).toNatClampNeg)]) (rest := []) ⟨hx, hb, hml, hown, hts⟩ (c_X7_way l dC dI AA CA H.size uf_3 um_4 ut_5 uh_6 ug_7 ur_8 uw_9 ux_10 uy_11 (xs (v3_2 + 1).toNatClampNeg) _ h) (cwV 1 hts gL_law_X7_way rfl rfl rfl (by decide +kernel) ⟨Nat.le_of_ble_eq_true rfl, Nat.le_of_ble_eq_true rfl⟩) ⟨fun a U g mk q => by obtain ⟨q0, q1, qP, qK, qD⟩ := q; exact ⟨q0, q1, qP, va_K.moved (u := U) (U := U.calling g mk a) (Vm.Alike.refl U.vm) qK, qD⟩, va_recv hKc hPc (ci := 6) (q0 := 0) rfl rfl, fun U hU hW => ⟨rfl, by rw [hU], by rw [hU]; exact hPc, va_K.moved hW.alike hKc, hDc.weaken (fun _ _ _ _ => trivial)⟩⟩ rfl rfl hl.1 rfl (lv_room (Nat.le_of_ble_eq_true rfl)) dL_law_733 ⟨Nat.le_of_ble_eq_true rfl, Nat.le_of_ble_eq_true rfl⟩) hS (fun q _ h => hFc q h) hFc (fun r_215 zz t H1 locs ht hvm hw hB hz1 hk1 hS => ?_)
                                            obtain ⟨uf_216, ur_217⟩ := zz
                                            replace h := hw
                                            obtain ⟨hP1, hD1⟩ := hB
                                            rw [ht] at hP1
                                            obtain ⟨hP, hD⟩ := va_join (wr := [26, 27, 28, 29, 30, 31, 32, 33, 34, 35, 36, 37, 38, 39, 40, 41, 42, 43, 44, 45].filterMap (fun i => (wd_X7 AA CA uf_3 um_4 ut_5 uh_6 ug_7 ur_8 uw_9 ux_10 uy_11 ++ (wd_X8 a ca u8_12))[i]?)) (w1 := (wd_X7 AA CA uf_216 um_4 ut_5 uh_6 ug_7 ur_217 uw_9 ux_10 uy_11)) hP hD [0, 1, 2, 3, 4, 5, 6, 7, 8, 9, 10, 11, 12, 13, 14, 15, 16, 17, 18, 19, 20, 21, 22, 23, 24, 25] [26, 27, 28, 29, 30, 31, 32, 33, 34, 35, 36, 37, 38, 39, 40, 41, 42, 43, 44, 45] rfl rfl (by decide) (by decide) hk1 hFc hP1 hD1
                                            replace hP : va_P (dC, dI) vwCl (wd_X7 AA CA uf_216 um_4 ut_5 uh_6 ug_7 ur_217 uw_9 ux_10 uy_11 ++ (wd_X8 a ca u8_12)) H1 := (hP.sub [20, 21, 22, 23, 24, 25, 26, 27, 28, 29, 30, 31, 32, 33, 34, 35, 36, 37, 38, 39, 40, 41, 42, 43, 44, 45, 0, 1, 2, 3, 4, 5, 6, 7, 8, 9, 10, 11, 12, 13, 14, 15, 16, 17, 18, 19] rfl)
                                            replace hD : va_D (fun q : Nat => s.heap.size ≤ q) (wd_X7 AA CA uf_216 um_4 ut_5 uh_6 ug_7 ur_217 uw_9 ux_10 uy_11 ++ (wd_X8 a ca u8_12)) := (hD.sub [20, 21, 22, 23, 24, 25, 26, 27, 28, 29, 30, 31, 32, 33, 34, 35, 36, 37, 38, 39, 40, 41, 42, 43, 44, 45, 0, 1, 2, 3, 4, 5, 6, 7, 8, 9, 10, 11, 12, 13, 14, 15, 16, 17, 18, 19] (by decide) rfl)
                                            generalize H1 = H at hP hS ⊢
                                            refine lv_aload_n hx hb dL_law_736 rfl (lv_at hl 1 rfl) ?_
                                            refine lv_aload_n hx hb dL_law_737 rfl (lv_at hl 3 rfl) ?_
                                            refine lv_iload_n hx hb dL_law_738 rfl (lv_at hl 0 rfl) ?_
                                            refine lv_iconst (v := 1) hx hb dL_law_739 (by decide) ?_
                                            refine lv_iadd hx hb dL_law_740 ?_
                                            obtain ⟨hi_218, h⟩ := h
                                            refine va_sld hx hb hX hbl hbA hS hi_218 dL_law_741 ?_
                                            have hPc := hP.sub (ws' := (wd_X8 a ca u8_12)) [26, 27, 28, 29, 30, 31, 32, 33, 34, 35, 36, 37, 38, 39, 40, 41, 42, 43, 44, 45] rfl
                                            have hDc := hD.sub (ws' := (wd_X8 a ca u8_12)) [26, 27, 28, 29, 30, 31, 32, 33, 34, 35, 36, 37, 38, 39, 40, 41, 42, 43, 44, 45] (by decide) rfl
                                            have hKc := hK.sub (tys' := (ty_X8 ca)) [17, 18, 19, 20, 21, 22, 23, 24, 25, 26, 27, 28, 29, 30, 31, 32, 33, 34, 35] rfl
                                            have hFc := va_free (wc := (wd_X8 a ca u8_12)) hD hS hA [26, 27, 28, 29, 30, 31, 32, 33, 34, 35, 36, 37, 38, 39, 40, 41, 42, 43, 44, 45] rfl
                                            refine va_calli (va_runV (As := [.int (xs (v3_2 + 1).toNatClampNeg)]) (rest := [.int r_215]) ⟨hx, hb, hml, hown, hts⟩ (c_X8_way l dC dI a ca H.size u8_12 (xs (v3_2 + 1).toNatClampNeg) _ h) (cwV 1 hts gL_law_X8_way rfl rfl rfl (by decide +kernel) ⟨Nat.le_of_ble_eq_true rfl, Nat.le_of_ble_eq_true rfl⟩) ⟨fun a U g mk q => by obtain ⟨q0, q1, qP, qK, qD⟩ := q; exact ⟨q0, q1, qP, va_K.moved (u := U) (U := U.calling g mk a) (Vm.Alike.refl U.vm) qK, qD⟩, va_recv hKc hPc (ci := 7) (q0 := 0) rfl rfl, fun U hU hW => ⟨rfl, by rw [hU], by rw [hU]; exact hPc, va_K.moved hW.alike hKc, hDc.weaken (fun _ _ _ _ => trivial)⟩⟩ rfl rfl hl.1 rfl (lv_room (Nat.le_of_ble_eq_true rfl)) dL_law_742 ⟨Nat.le_of_ble_eq_true rfl, Nat.le_of_ble_eq_true rfl⟩) hS (fun q _ h => hFc q h) hFc (fun r_219 zz t H1 locs ht hvm hw hB hz1 hk1 hS => ?_)
                                            obtain ⟨u8_220, rfl⟩ : ∃ z, z = zz := ⟨_, rfl⟩
                                            replace h := hw
                                            obtain ⟨hP1, hD1⟩ := hB
                                            rw [ht] at hP1
                                            obtain ⟨hP, hD⟩ := va_join (wr := [0, 1, 2, 3, 4, 5, 6, 7, 8, 9, 10, 11, 12, 13, 14, 15, 16, 17, 18, 19, 20, 21, 22, 23, 24, 25].filterMap (fun i => (wd_X7 AA CA uf_216 um_4 ut_5 uh_6 ug_7 ur_217 uw_9 ux_10 uy_11 ++ (wd_X8 a ca u8_12))[i]?)) (w1 := (wd_X8 a ca u8_220)) hP hD [26, 27, 28, 29, 30, 31, 32, 33, 34, 35, 36, 37, 38, 39, 40, 41, 42, 43, 44, 45] [0, 1, 2, 3, 4, 5, 6, 7, 8, 9, 10, 11, 12, 13, 14, 15, 16, 17, 18, 19, 20, 21, 22, 23, 24, 25] rfl rfl (by decide) (by decide) hk1 hFc hP1 hD1
                                            replace hP : va_P (dC, dI) vwCl (wd_X7 AA CA uf_216 um_4 ut_5 uh_6 ug_7 ur_217 uw_9 ux_10 uy_11 ++ (wd_X8 a ca u8_220)) H1 := (hP.sub [0, 1, 2, 3, 4, 5, 6, 7, 8, 9, 10, 11, 12, 13, 14, 15, 16, 17, 18, 19, 20, 21, 22, 23, 24, 25, 26, 27, 28, 29, 30, 31, 32, 33, 34, 35, 36, 37, 38, 39, 40, 41, 42, 43, 44, 45] rfl)
                                            replace hD : va_D (fun q : Nat => s.heap.size ≤ q) (wd_X7 AA CA uf_216 um_4 ut_5 uh_6 ug_7 ur_217 uw_9 ux_10 uy_11 ++ (wd_X8 a ca u8_220)) := (hD.sub [0, 1, 2, 3, 4, 5, 6, 7, 8, 9, 10, 11, 12, 13, 14, 15, 16, 17, 18, 19, 20, 21, 22, 23, 24, 25, 26, 27, 28, 29, 30, 31, 32, 33, 34, 35, 36, 37, 38, 39, 40, 41, 42, 43, 44, 45] (by decide) rfl)
                                            generalize H1 = H at hP hS ⊢
                                            refine lv_icmp_eq (tgt := 892) hx hb dL_law_745 (by decide) (fun hc_221 => ?_) (fun hc_221 => ?_)
                                            · replace h := h.1 hc_221
                                              refine lv_iinc (v := (v3_2 + 6)) (lv' := [(3, .int (v3_2 + 6)), (2, .ref (a 0)), (1, .ref (AA 0 0)), (0, .ref b)]) hx hb dL_law_892 hl (k := 0) rfl rfl (by decide) rfl (fun ls hl => ?_)
                                              refine lv_goto (tgt := 18) hx hb dL_law_895 (by decide) ?_
                                              exact ih_LL_1 _ _ _ _ _ _ _ _ _ _ _ h _ _ _ hP hD hS (lv_sub hl [0, 1, 2, 3] rfl)
                                            · replace h := h.2 hc_221
                                              refine lv_iconst (v := 0) hx hb dL_law_748 (by decide) ?_
                                              exact h.elim
                                          · replace h := h.2 hs_213
                                            by_cases hs_222 : ((xs v3_2.toNatClampNeg) &&& 31) = 20
                                            · replace h := h.1 hs_222
                                              refine lv_tableIn (tgt := 750) hx hb dL_law_33 (by rw [hs_222]; decide) (by rw [hs_222]; decide) (by rw [hs_222]; rfl) (by decide) ?_
                                              refine lv_aload_n hx hb dL_law_750 rfl (lv_at hl 2 rfl) ?_
                                              refine lv_aload_n hx hb dL_law_751 rfl (lv_at hl 3 rfl) ?_
                                              refine lv_iload_n hx hb dL_law_752 rfl (lv_at hl 0 rfl) ?_
                                              refine lv_iconst (v := 1) hx hb dL_law_753 (by decide) ?_
                                              refine lv_iadd hx hb dL_law_754 ?_
                                              obtain ⟨hi_223, h⟩ := h
                                              refine va_sld hx hb hX hbl hbA hS hi_223 dL_law_755 ?_
                                              have hPc := hP.sub (ws' := (wd_X7 AA CA uf_3 um_4 ut_5 uh_6 ug_7 ur_8 uw_9 ux_10 uy_11)) [0, 1, 2, 3, 4, 5, 6, 7, 8, 9, 10, 11, 12, 13, 14, 15, 16, 17, 18, 19, 20, 21, 22, 23, 24, 25] rfl
                                              have hDc := hD.sub (ws' := (wd_X7 AA CA uf_3 um_4 ut_5 uh_6 ug_7 ur_8 uw_9 ux_10 uy_11)) [0, 1, 2, 3, 4, 5, 6, 7, 8, 9, 10, 11, 12, 13, 14, 15, 16, 17, 18, 19, 20, 21, 22, 23, 24, 25] (by decide) rfl
                                              have hKc := hK.sub (tys' := (ty_X7 CA)) [0, 1, 2, 3, 4, 5, 6, 7, 8, 9, 10, 11, 12, 13, 14, 15, 16] rfl
                                              have hFc := va_free (wc := (wd_X7 AA CA uf_3 um_4 ut_5 uh_6 ug_7 ur_8 uw_9 ux_10 uy_11)) hD hS hA [0, 1, 2, 3, 4, 5, 6, 7, 8, 9, 10, 11, 12, 13, 14, 15, 16, 17, 18, 19, 20, 21, 22, 23, 24, 25] rfl
                                              refine va_calli (va_runV (As := [.int (xs (v3_2 + 1).toNatClampNeg)]) (rest := []) ⟨hx, hb, hml, hown, hts⟩ (c_X7_strict l dC dI AA CA H.size uf_3 um_4 ut_5 uh_6 ug_7 ur_8 uw_9 ux_10 uy_11 (xs (v3_2 + 1).toNatClampNeg) _ h) (cwV 1 hts gL_law_X7_strict rfl rfl rfl (by decide +kernel) ⟨Nat.le_of_ble_eq_true rfl, Nat.le_of_ble_eq_true rfl⟩) ⟨fun a U g mk q => by obtain ⟨q0, q1, qP, qK, qD⟩ := q; exact ⟨q0, q1, qP, va_K.moved (u := U) (U := U.calling g mk a) (Vm.Alike.refl U.vm) qK, qD⟩, va_recv hKc hPc (ci := 6) (q0 := 0) rfl rfl, fun U hU hW => ⟨rfl, by rw [hU], by rw [hU]; exact hPc, va_K.moved hW.alike hKc, hDc.weaken (fun _ _ _ _ => trivial)⟩⟩ rfl rfl hl.1 rfl (lv_room (Nat.le_of_ble_eq_true rfl)) dL_law_756 ⟨Nat.le_of_ble_eq_true rfl, Nat.le_of_ble_eq_true rfl⟩) hS (fun q _ h => hFc q h) hFc (fun r_224 zz t H1 locs ht hvm hw hB hz1 hk1 hS => ?_)
                                              obtain ⟨uw_225, rfl⟩ : ∃ z, z = zz := ⟨_, rfl⟩
                                              replace h := hw
                                              obtain ⟨hP1, hD1⟩ := hB
                                              rw [ht] at hP1
                                              obtain ⟨hP, hD⟩ := va_join (wr := [26, 27, 28, 29, 30, 31, 32, 33, 34, 35, 36, 37, 38, 39, 40, 41, 42, 43, 44, 45].filterMap (fun i => (wd_X7 AA CA uf_3 um_4 ut_5 uh_6 ug_7 ur_8 uw_9 ux_10 uy_11 ++ (wd_X8 a ca u8_12))[i]?)) (w1 := (wd_X7 AA CA uf_3 um_4 ut_5 uh_6 ug_7 ur_8 uw_225 ux_10 uy_11)) hP hD [0, 1, 2, 3, 4, 5, 6, 7, 8, 9, 10, 11, 12, 13, 14, 15, 16, 17, 18, 19, 20, 21, 22, 23, 24, 25] [26, 27, 28, 29, 30, 31, 32, 33, 34, 35, 36, 37, 38, 39, 40, 41, 42, 43, 44, 45] rfl rfl (by decide) (by decide) hk1 hFc hP1 hD1
                                              replace hP : va_P (dC, dI) vwCl (wd_X7 AA CA uf_3 um_4 ut_5 uh_6 ug_7 ur_8 uw_225 ux_10 uy_11 ++ (wd_X8 a ca u8_12)) H1 := (hP.sub [20, 21, 22, 23, 24, 25, 26, 27, 28, 29, 30, 31, 32, 33, 34, 35, 36, 37, 38, 39, 40, 41, 42, 43, 44, 45, 0, 1, 2, 3, 4, 5, 6, 7, 8, 9, 10, 11, 12, 13, 14, 15, 16, 17, 18, 19] rfl)
                                              replace hD : va_D (fun q : Nat => s.heap.size ≤ q) (wd_X7 AA CA uf_3 um_4 ut_5 uh_6 ug_7 ur_8 uw_225 ux_10 uy_11 ++ (wd_X8 a ca u8_12)) := (hD.sub [20, 21, 22, 23, 24, 25, 26, 27, 28, 29, 30, 31, 32, 33, 34, 35, 36, 37, 38, 39, 40, 41, 42, 43, 44, 45, 0, 1, 2, 3, 4, 5, 6, 7, 8, 9, 10, 11, 12, 13, 14, 15, 16, 17, 18, 19] (by decide) rfl)
                                              generalize H1 = H at hP hS ⊢
                                              refine lv_aload_n hx hb dL_law_759 rfl (lv_at hl 1 rfl) ?_
                                              refine lv_aload_n hx hb dL_law_760 rfl (lv_at hl 3 rfl) ?_
                                              refine lv_iload_n hx hb dL_law_761 rfl (lv_at hl 0 rfl) ?_
                                              refine lv_iconst (v := 1) hx hb dL_law_762 (by decide) ?_
                                              refine lv_iadd hx hb dL_law_763 ?_
                                              obtain ⟨hi_226, h⟩ := h
                                              refine va_sld hx hb hX hbl hbA hS hi_226 dL_law_764 ?_
                                              have hPc := hP.sub (ws' := (wd_X8 a ca u8_12)) [26, 27, 28, 29, 30, 31, 32, 33, 34, 35, 36, 37, 38, 39, 40, 41, 42, 43, 44, 45] rfl
                                              have hDc := hD.sub (ws' := (wd_X8 a ca u8_12)) [26, 27, 28, 29, 30, 31, 32, 33, 34, 35, 36, 37, 38, 39, 40, 41, 42, 43, 44, 45] (by decide) rfl
                                              have hKc := hK.sub (tys' := (ty_X8 ca)) [17, 18, 19, 20, 21, 22, 23, 24, 25, 26, 27, 28, 29, 30, 31, 32, 33, 34, 35] rfl
                                              have hFc := va_free (wc := (wd_X8 a ca u8_12)) hD hS hA [26, 27, 28, 29, 30, 31, 32, 33, 34, 35, 36, 37, 38, 39, 40, 41, 42, 43, 44, 45] rfl
                                              refine va_calli (va_runV (As := [.int (xs (v3_2 + 1).toNatClampNeg)]) (rest := [.int r_224]) ⟨hx, hb, hml, hown, hts⟩ (c_X8_strict l dC dI a ca H.size u8_12 (xs (v3_2 + 1).toNatClampNeg) _ h) (cwV 1 hts gL_law_X8_strict rfl rfl rfl (by decide +kernel) ⟨Nat.le_of_ble_eq_true rfl, Nat.le_of_ble_eq_true rfl⟩) ⟨fun a U g mk q => by obtain ⟨q0, q1, qP, qK, qD⟩ := q; exact ⟨q0, q1, qP, va_K.moved (u := U) (U := U.calling g mk a) (Vm.Alike.refl U.vm) qK, qD⟩, va_recv hKc hPc (ci := 7) (q0 := 0) rfl rfl, fun U hU hW => ⟨rfl, by rw [hU], by rw [hU]; exact hPc, va_K.moved hW.alike hKc, hDc.weaken (fun _ _ _ _ => trivial)⟩⟩ rfl rfl hl.1 rfl (lv_room (Nat.le_of_ble_eq_true rfl)) dL_law_765 ⟨Nat.le_of_ble_eq_true rfl, Nat.le_of_ble_eq_true rfl⟩) hS (fun q _ h => hFc q h) hFc (fun r_227 zz t H1 locs ht hvm hw hB hz1 hk1 hS => ?_)
                                              obtain ⟨u8_228, rfl⟩ : ∃ z, z = zz := ⟨_, rfl⟩
                                              replace h := hw
                                              obtain ⟨hP1, hD1⟩ := hB
                                              rw [ht] at hP1
                                              obtain ⟨hP, hD⟩ := va_join (wr := [0, 1, 2, 3, 4, 5, 6, 7, 8, 9, 10, 11, 12, 13, 14, 15, 16, 17, 18, 19, 20, 21, 22, 23, 24, 25].filterMap (fun i => (wd_X7 AA CA uf_3 um_4 ut_5 uh_6 ug_7 ur_8 uw_225 ux_10 uy_11 ++ (wd_X8 a ca u8_12))[i]?)) (w1 := (wd_X8 a ca u8_228)) hP hD [26, 27, 28, 29, 30, 31, 32, 33, 34, 35, 36, 37, 38, 39, 40, 41, 42, 43, 44, 45] [0, 1, 2, 3, 4, 5, 6, 7, 8, 9, 10, 11, 12, 13, 14, 15, 16, 17, 18, 19, 20, 21, 22, 23, 24, 25] rfl rfl (by decide) (by decide) hk1 hFc hP1 hD1
                                              replace hP : va_P (dC, dI) vwCl (wd_X7 AA CA uf_3 um_4 ut_5 uh_6 ug_7 ur_8 uw_225 ux_10 uy_11 ++ (wd_X8 a ca u8_228)) H1 := (hP.sub [0, 1, 2, 3, 4, 5, 6, 7, 8, 9, 10, 11, 12, 13, 14, 15, 16, 17, 18, 19, 20, 21, 22, 23, 24, 25, 26, 27, 28, 29, 30, 31, 32, 33, 34, 35, 36, 37, 38, 39, 40, 41, 42, 43, 44, 45] rfl)
                                              replace hD : va_D (fun q : Nat => s.heap.size ≤ q) (wd_X7 AA CA uf_3 um_4 ut_5 uh_6 ug_7 ur_8 uw_225 ux_10 uy_11 ++ (wd_X8 a ca u8_228)) := (hD.sub [0, 1, 2, 3, 4, 5, 6, 7, 8, 9, 10, 11, 12, 13, 14, 15, 16, 17, 18, 19, 20, 21, 22, 23, 24, 25, 26, 27, 28, 29, 30, 31, 32, 33, 34, 35, 36, 37, 38, 39, 40, 41, 42, 43, 44, 45] (by decide) rfl)
                                              generalize H1 = H at hP hS ⊢
                                              refine lv_icmp_eq (tgt := 892) hx hb dL_law_768 (by decide) (fun hc_229 => ?_) (fun hc_229 => ?_)
                                              · replace h := h.1 hc_229
                                                refine lv_iinc (v := (v3_2 + 6)) (lv' := [(3, .int (v3_2 + 6)), (2, .ref (a 0)), (1, .ref (AA 0 0)), (0, .ref b)]) hx hb dL_law_892 hl (k := 0) rfl rfl (by decide) rfl (fun ls hl => ?_)
                                                refine lv_goto (tgt := 18) hx hb dL_law_895 (by decide) ?_
                                                exact ih_LL_1 _ _ _ _ _ _ _ _ _ _ _ h _ _ _ hP hD hS (lv_sub hl [0, 1, 2, 3] rfl)
                                              · replace h := h.2 hc_229
                                                refine lv_iconst (v := 0) hx hb dL_law_771 (by decide) ?_
                                                exact h.elim
                                            · replace h := h.2 hs_222
                                              by_cases hs_230 : ((xs v3_2.toNatClampNeg) &&& 31) = 21
                                              · replace h := h.1 hs_230
                                                refine lv_tableIn (tgt := 773) hx hb dL_law_33 (by rw [hs_230]; decide) (by rw [hs_230]; decide) (by rw [hs_230]; rfl) (by decide) ?_
                                                refine lv_aload_n hx hb dL_law_773 rfl (lv_at hl 2 rfl) ?_
                                                refine lv_aload_n hx hb dL_law_774 rfl (lv_at hl 3 rfl) ?_
                                                refine lv_iload_n hx hb dL_law_775 rfl (lv_at hl 0 rfl) ?_
                                                refine lv_iconst (v := 1) hx hb dL_law_776 (by decide) ?_
                                                refine lv_iadd hx hb dL_law_777 ?_
                                                obtain ⟨hi_231, h⟩ := h
                                                refine va_sld hx hb hX hbl hbA hS hi_231 dL_law_778 ?_
                                                refine lv_aload_n hx hb dL_law_779 rfl (lv_at hl 3 rfl) ?_
                                                refine lv_iload_n hx hb dL_law_780 rfl (lv_at hl 0 rfl) ?_
                                                refine lv_iconst (v := 2) hx hb dL_law_781 (by decide) ?_
                                                refine lv_iadd hx hb dL_law_782 ?_
                                                obtain ⟨hi_232, h⟩ := h
                                                refine va_sld hx hb hX hbl hbA hS hi_232 dL_law_783 ?_
                                                refine lv_aload_n hx hb dL_law_784 rfl (lv_at hl 3 rfl) ?_
                                                refine lv_iload_n hx hb dL_law_785 rfl (lv_at hl 0 rfl) ?_
                                                refine lv_iconst (v := 3) hx hb dL_law_786 (by decide) ?_
                                                refine lv_iadd hx hb dL_law_787 ?_
                                                obtain ⟨hi_233, h⟩ := h
                                                refine va_sld hx hb hX hbl hbA hS hi_233 dL_law_788 ?_
                                                have hPc := hP.sub (ws' := (wd_X7 AA CA uf_3 um_4 ut_5 uh_6 ug_7 ur_8 uw_9 ux_10 uy_11)) [0, 1, 2, 3, 4, 5, 6, 7, 8, 9, 10, 11, 12, 13, 14, 15, 16, 17, 18, 19, 20, 21, 22, 23, 24, 25] rfl
                                                have hDc := hD.sub (ws' := (wd_X7 AA CA uf_3 um_4 ut_5 uh_6 ug_7 ur_8 uw_9 ux_10 uy_11)) [0, 1, 2, 3, 4, 5, 6, 7, 8, 9, 10, 11, 12, 13, 14, 15, 16, 17, 18, 19, 20, 21, 22, 23, 24, 25] (by decide) rfl
                                                have hKc := hK.sub (tys' := (ty_X7 CA)) [0, 1, 2, 3, 4, 5, 6, 7, 8, 9, 10, 11, 12, 13, 14, 15, 16] rfl
                                                have hFc := va_free (wc := (wd_X7 AA CA uf_3 um_4 ut_5 uh_6 ug_7 ur_8 uw_9 ux_10 uy_11)) hD hS hA [0, 1, 2, 3, 4, 5, 6, 7, 8, 9, 10, 11, 12, 13, 14, 15, 16, 17, 18, 19, 20, 21, 22, 23, 24, 25] rfl
                                                refine va_calli (va_runV (As := [.int (xs (v3_2 + 1).toNatClampNeg), .int (xs (v3_2 + 2).toNatClampNeg), .int (xs (v3_2 + 3).toNatClampNeg)]) (rest := []) ⟨hx, hb, hml, hown, hts⟩ (c_X7_sheet l dC dI AA CA H.size uf_3 um_4 ut_5 uh_6 ug_7 ur_8 uw_9 ux_10 uy_11 (xs (v3_2 + 1).toNatClampNeg) (xs (v3_2 + 2).toNatClampNeg) (xs (v3_2 + 3).toNatClampNeg) _ h) (cwV 3 hts gL_law_X7_sheet rfl rfl rfl (by decide +kernel) ⟨Nat.le_of_ble_eq_true rfl, Nat.le_of_ble_eq_true rfl⟩) ⟨fun a U g mk q => by obtain ⟨q0, q1, qP, qK, qD⟩ := q; exact ⟨q0, q1, qP, va_K.moved (u := U) (U := U.calling g mk a) (Vm.Alike.refl U.vm) qK, qD⟩, va_recv hKc hPc (ci := 6) (q0 := 0) rfl rfl, fun U hU hW => ⟨rfl, by rw [hU], by rw [hU]; exact hPc, va_K.moved hW.alike hKc, hDc.weaken (fun _ _ _ _ => trivial)⟩⟩ rfl rfl hl.1 rfl (lv_room (Nat.le_of_ble_eq_true rfl)) dL_law_789 ⟨Nat.le_of_ble_eq_true rfl, Nat.le_of_ble_eq_true rfl⟩) hS (fun q _ h => hFc q h) hFc (fun r_234 zz t H1 locs ht hvm hw hB hz1 hk1 hS => ?_)
                                                obtain ⟨ux_235, uy_236⟩ := zz
                                                replace h := hw
                                                obtain ⟨hP1, hD1⟩ := hB
                                                rw [ht] at hP1
                                                obtain ⟨hP, hD⟩ := va_join (wr := [26, 27, 28, 29, 30, 31, 32, 33, 34, 35, 36, 37, 38, 39, 40, 41, 42, 43, 44, 45].filterMap (fun i => (wd_X7 AA CA uf_3 um_4 ut_5 uh_6 ug_7 ur_8 uw_9 ux_10 uy_11 ++ (wd_X8 a ca u8_12))[i]?)) (w1 := (wd_X7 AA CA uf_3 um_4 ut_5 uh_6 ug_7 ur_8 uw_9 ux_235 uy_236)) hP hD [0, 1, 2, 3, 4, 5, 6, 7, 8, 9, 10, 11, 12, 13, 14, 15, 16, 17, 18, 19, 20, 21, 22, 23, 24, 25] [26, 27, 28, 29, 30, 31, 32, 33, 34, 35, 36, 37, 38, 39, 40, 41, 42, 43, 44, 45] rfl rfl (by decide) (by decide) hk1 hFc hP1 hD1
                                                replace hP : va_P (dC, dI) vwCl (wd_X7 AA CA uf_3 um_4 ut_5 uh_6 ug_7 ur_8 uw_9 ux_235 uy_236 ++ (wd_X8 a ca u8_12)) H1 := (hP.sub [20, 21, 22, 23, 24, 25, 26, 27, 28, 29, 30, 31, 32, 33, 34, 35, 36, 37, 38, 39, 40, 41, 42, 43, 44, 45, 0, 1, 2, 3, 4, 5, 6, 7, 8, 9, 10, 11, 12, 13, 14, 15, 16, 17, 18, 19] rfl)
                                                replace hD : va_D (fun q : Nat => s.heap.size ≤ q) (wd_X7 AA CA uf_3 um_4 ut_5 uh_6 ug_7 ur_8 uw_9 ux_235 uy_236 ++ (wd_X8 a ca u8_12)) := (hD.sub [20, 21, 22, 23, 24, 25, 26, 27, 28, 29, 30, 31, 32, 33, 34, 35, 36, 37, 38, 39, 40, 41, 42, 43, 44, 45, 0, 1, 2, 3, 4, 5, 6, 7, 8, 9, 10, 11, 12, 13, 14, 15, 16, 17, 18, 19] (by decide) rfl)
                                                generalize H1 = H at hP hS ⊢
                                                refine lv_aload_n hx hb dL_law_792 rfl (lv_at hl 1 rfl) ?_
                                                refine lv_aload_n hx hb dL_law_793 rfl (lv_at hl 3 rfl) ?_
                                                refine lv_iload_n hx hb dL_law_794 rfl (lv_at hl 0 rfl) ?_
                                                refine lv_iconst (v := 1) hx hb dL_law_795 (by decide) ?_
                                                refine lv_iadd hx hb dL_law_796 ?_
                                                obtain ⟨hi_237, h⟩ := h
                                                refine va_sld hx hb hX hbl hbA hS hi_237 dL_law_797 ?_
                                                refine lv_aload_n hx hb dL_law_798 rfl (lv_at hl 3 rfl) ?_
                                                refine lv_iload_n hx hb dL_law_799 rfl (lv_at hl 0 rfl) ?_
                                                refine lv_iconst (v := 2) hx hb dL_law_800 (by decide) ?_
                                                refine lv_iadd hx hb dL_law_801 ?_
                                                obtain ⟨hi_238, h⟩ := h
                                                refine va_sld hx hb hX hbl hbA hS hi_238 dL_law_802 ?_
                                                refine lv_aload_n hx hb dL_law_803 rfl (lv_at hl 3 rfl) ?_
                                                refine lv_iload_n hx hb dL_law_804 rfl (lv_at hl 0 rfl) ?_
                                                refine lv_iconst (v := 3) hx hb dL_law_805 (by decide) ?_
                                                refine lv_iadd hx hb dL_law_806 ?_
                                                obtain ⟨hi_239, h⟩ := h
                                                refine va_sld hx hb hX hbl hbA hS hi_239 dL_law_807 ?_
                                                have hPc := hP.sub (ws' := (wd_X8 a ca u8_12)) [26, 27, 28, 29, 30, 31, 32, 33, 34, 35, 36, 37, 38, 39, 40, 41, 42, 43, 44, 45] rfl
                                                have hDc := hD.sub (ws' := (wd_X8 a ca u8_12)) [26, 27, 28, 29, 30, 31, 32, 33, 34, 35, 36, 37, 38, 39, 40, 41, 42, 43, 44, 45] (by decide) rfl
                                                have hKc := hK.sub (tys' := (ty_X8 ca)) [17, 18, 19, 20, 21, 22, 23, 24, 25, 26, 27, 28, 29, 30, 31, 32, 33, 34, 35] rfl
                                                have hFc := va_free (wc := (wd_X8 a ca u8_12)) hD hS hA [26, 27, 28, 29, 30, 31, 32, 33, 34, 35, 36, 37, 38, 39, 40, 41, 42, 43, 44, 45] rfl
                                                refine va_calli (va_runV (As := [.int (xs (v3_2 + 1).toNatClampNeg), .int (xs (v3_2 + 2).toNatClampNeg), .int (xs (v3_2 + 3).toNatClampNeg)]) (rest := [.int r_234]) ⟨hx, hb, hml, hown, hts⟩ (c_X8_sheet l dC dI a ca H.size u8_12 (xs (v3_2 + 1).toNatClampNeg) (xs (v3_2 + 2).toNatClampNeg) (xs (v3_2 + 3).toNatClampNeg) _ h) (cwV 3 hts gL_law_X8_sheet rfl rfl rfl (by decide +kernel) ⟨Nat.le_of_ble_eq_true rfl, Nat.le_of_ble_eq_true rfl⟩) ⟨fun a U g mk q => by obtain ⟨q0, q1, qP, qK, qD⟩ := q; exact ⟨q0, q1, qP, va_K.moved (u := U) (U := U.calling g mk a) (Vm.Alike.refl U.vm) qK, qD⟩, va_recv hKc hPc (ci := 7) (q0 := 0) rfl rfl, fun U hU hW => ⟨rfl, by rw [hU], by rw [hU]; exact hPc, va_K.moved hW.alike hKc, hDc.weaken (fun _ _ _ _ => trivial)⟩⟩ rfl rfl hl.1 rfl (lv_room (Nat.le_of_ble_eq_true rfl)) dL_law_808 ⟨Nat.le_of_ble_eq_true rfl, Nat.le_of_ble_eq_true rfl⟩) hS (fun q _ h => hFc q h) hFc (fun r_240 zz t H1 locs ht hvm hw hB hz1 hk1 hS => ?_)
                                                obtain ⟨u8_241, rfl⟩ : ∃ z, z = zz := ⟨_, rfl⟩
                                                replace h := hw
                                                obtain ⟨hP1, hD1⟩ := hB
                                                rw [ht] at hP1
                                                obtain ⟨hP, hD⟩ := va_join (wr := [0, 1, 2, 3, 4, 5, 6, 7, 8, 9, 10, 11, 12, 13, 14, 15, 16, 17, 18, 19, 20, 21, 22, 23, 24, 25].filterMap (fun i => (wd_X7 AA CA uf_3 um_4 ut_5 uh_6 ug_7 ur_8 uw_9 ux_235 uy_236 ++ (wd_X8 a ca u8_12))[i]?)) (w1 := (wd_X8 a ca u8_241)) hP hD [26, 27, 28, 29, 30, 31, 32, 33, 34, 35, 36, 37, 38, 39, 40, 41, 42, 43, 44, 45] [0, 1, 2, 3, 4, 5, 6, 7, 8, 9, 10, 11, 12, 13, 14, 15, 16, 17, 18, 19, 20, 21, 22, 23, 24, 25] rfl rfl (by decide) (by decide) hk1 hFc hP1 hD1
                                                replace hP : va_P (dC, dI) vwCl (wd_X7 AA CA uf_3 um_4 ut_5 uh_6 ug_7 ur_8 uw_9 ux_235 uy_236 ++ (wd_X8 a ca u8_241)) H1 := (hP.sub [0, 1, 2, 3, 4, 5, 6, 7, 8, 9, 10, 11, 12, 13, 14, 15, 16, 17, 18, 19, 20, 21, 22, 23, 24, 25, 26, 27, 28, 29, 30, 31, 32, 33, 34, 35, 36, 37, 38, 39, 40, 41, 42, 43, 44, 45] rfl)
                                                replace hD : va_D (fun q : Nat => s.heap.size ≤ q) (wd_X7 AA CA uf_3 um_4 ut_5 uh_6 ug_7 ur_8 uw_9 ux_235 uy_236 ++ (wd_X8 a ca u8_241)) := (hD.sub [0, 1, 2, 3, 4, 5, 6, 7, 8, 9, 10, 11, 12, 13, 14, 15, 16, 17, 18, 19, 20, 21, 22, 23, 24, 25, 26, 27, 28, 29, 30, 31, 32, 33, 34, 35, 36, 37, 38, 39, 40, 41, 42, 43, 44, 45] (by decide) rfl)
                                                generalize H1 = H at hP hS ⊢
                                                refine lv_icmp_eq (tgt := 892) hx hb dL_law_811 (by decide) (fun hc_242 => ?_) (fun hc_242 => ?_)
                                                · replace h := h.1 hc_242
                                                  refine lv_iinc (v := (v3_2 + 6)) (lv' := [(3, .int (v3_2 + 6)), (2, .ref (a 0)), (1, .ref (AA 0 0)), (0, .ref b)]) hx hb dL_law_892 hl (k := 0) rfl rfl (by decide) rfl (fun ls hl => ?_)
                                                  refine lv_goto (tgt := 18) hx hb dL_law_895 (by decide) ?_
                                                  exact ih_LL_1 _ _ _ _ _ _ _ _ _ _ _ h _ _ _ hP hD hS (lv_sub hl [0, 1, 2, 3] rfl)
                                                · replace h := h.2 hc_242
                                                  refine lv_iconst (v := 0) hx hb dL_law_814 (by decide) ?_
                                                  exact h.elim
                                              · replace h := h.2 hs_230
                                                by_cases hs_243 : ((xs v3_2.toNatClampNeg) &&& 31) = 22
                                                · replace h := h.1 hs_243
                                                  refine lv_tableIn (tgt := 816) hx hb dL_law_33 (by rw [hs_243]; decide) (by rw [hs_243]; decide) (by rw [hs_243]; rfl) (by decide) ?_
                                                  refine lv_aload_n hx hb dL_law_816 rfl (lv_at hl 2 rfl) ?_
                                                  refine lv_aload_n hx hb dL_law_817 rfl (lv_at hl 3 rfl) ?_
                                                  refine lv_iload_n hx hb dL_law_818 rfl (lv_at hl 0 rfl) ?_
                                                  refine lv_iconst (v := 1) hx hb dL_law_819 (by decide) ?_
                                                  refine lv_iadd hx hb dL_law_820 ?_
                                                  obtain ⟨hi_244, h⟩ := h
                                                  refine va_sld hx hb hX hbl hbA hS hi_244 dL_law_821 ?_
                                                  have hPc := hP.sub (ws' := (wd_X7 AA CA uf_3 um_4 ut_5 uh_6 ug_7 ur_8 uw_9 ux_10 uy_11)) [0, 1, 2, 3, 4, 5, 6, 7, 8, 9, 10, 11, 12, 13, 14, 15, 16, 17, 18, 19, 20, 21, 22, 23, 24, 25] rfl
                                                  have hDc := hD.sub (ws' := (wd_X7 AA CA uf_3 um_4 ut_5 uh_6 ug_7 ur_8 uw_9 ux_10 uy_11)) [0, 1, 2, 3, 4, 5, 6, 7, 8, 9, 10, 11, 12, 13, 14, 15, 16, 17, 18, 19, 20, 21, 22, 23, 24, 25] (by decide) rfl
                                                  have hKc := hK.sub (tys' := (ty_X7 CA)) [0, 1, 2, 3, 4, 5, 6, 7, 8, 9, 10, 11, 12, 13, 14, 15, 16] rfl
                                                  have hFc := va_free (wc := (wd_X7 AA CA uf_3 um_4 ut_5 uh_6 ug_7 ur_8 uw_9 ux_10 uy_11)) hD hS hA [0, 1, 2, 3, 4, 5, 6, 7, 8, 9, 10, 11, 12, 13, 14, 15, 16, 17, 18, 19, 20, 21, 22, 23, 24, 25] rfl
                                                  refine va_calli (va_runV (As := [.int (xs (v3_2 + 1).toNatClampNeg)]) (rest := []) ⟨hx, hb, hml, hown, hts⟩ (c_X7_drop l dC dI AA CA H.size uf_3 um_4 ut_5 uh_6 ug_7 ur_8 uw_9 ux_10 uy_11 (xs (v3_2 + 1).toNatClampNeg) _ h) (cwV 1 hts gL_law_X7_drop rfl rfl rfl (by decide +kernel) ⟨Nat.le_of_ble_eq_true rfl, Nat.le_of_ble_eq_true rfl⟩) ⟨fun a U g mk q => by obtain ⟨q0, q1, qP, qK, qD⟩ := q; exact ⟨q0, q1, qP, va_K.moved (u := U) (U := U.calling g mk a) (Vm.Alike.refl U.vm) qK, qD⟩, va_recv hKc hPc (ci := 6) (q0 := 0) rfl rfl, fun U hU hW => ⟨rfl, by rw [hU], by rw [hU]; exact hPc, va_K.moved hW.alike hKc, hDc.weaken (fun _ _ _ _ => trivial)⟩⟩ rfl rfl hl.1 rfl (lv_room (Nat.le_of_ble_eq_true rfl)) dL_law_822 ⟨Nat.le_of_ble_eq_true rfl, Nat.le_of_ble_eq_true rfl⟩) hS (fun q _ h => hFc q h) hFc (fun r_245 zz t H1 locs ht hvm hw hB hz1 hk1 hS => ?_)
                                                  obtain ⟨ux_246, uy_247⟩ := zz
                                                  replace h := hw
                                                  obtain ⟨hP1, hD1⟩ := hB
                                                  rw [ht] at hP1
                                                  obtain ⟨hP, hD⟩ := va_join (wr := [26, 27, 28, 29, 30, 31, 32, 33, 34, 35, 36, 37, 38, 39, 40, 41, 42, 43, 44, 45].filterMap (fun i => (wd_X7 AA CA uf_3 um_4 ut_5 uh_6 ug_7 ur_8 uw_9 ux_10 uy_11 ++ (wd_X8 a ca u8_12))[i]?)) (w1 := (wd_X7 AA CA uf_3 um_4 ut_5 uh_6 ug_7 ur_8 uw_9 ux_246 uy_247)) hP hD [0, 1, 2, 3, 4, 5, 6, 7, 8, 9, 10, 11, 12, 13, 14, 15, 16, 17, 18, 19, 20, 21, 22, 23, 24, 25] [26, 27, 28, 29, 30, 31, 32, 33, 34, 35, 36, 37, 38, 39, 40, 41, 42, 43, 44, 45] rfl rfl (by decide) (by decide) hk1 hFc hP1 hD1
                                                  replace hP : va_P (dC, dI) vwCl (wd_X7 AA CA uf_3 um_4 ut_5 uh_6 ug_7 ur_8 uw_9 ux_246 uy_247 ++ (wd_X8 a ca u8_12)) H1 := (hP.sub [20, 21, 22, 23, 24, 25, 26, 27, 28, 29, 30, 31, 32, 33, 34, 35, 36, 37, 38, 39, 40, 41, 42, 43, 44, 45, 0, 1, 2, 3, 4, 5, 6, 7, 8, 9, 10, 11, 12, 13, 14, 15, 16, 17, 18, 19] rfl)
                                                  replace hD : va_D (fun q : Nat => s.heap.size ≤ q) (wd_X7 AA CA uf_3 um_4 ut_5 uh_6 ug_7 ur_8 uw_9 ux_246 uy_247 ++ (wd_X8 a ca u8_12)) := (hD.sub [20, 21, 22, 23, 24, 25, 26, 27, 28, 29, 30, 31, 32, 33, 34, 35, 36, 37, 38, 39, 40, 41, 42, 43, 44, 45, 0, 1, 2, 3, 4, 5, 6, 7, 8, 9, 10, 11, 12, 13, 14, 15, 16, 17, 18, 19] (by decide) rfl)
                                                  generalize H1 = H at hP hS ⊢
                                                  refine lv_aload_n hx hb dL_law_825 rfl (lv_at hl 1 rfl) ?_
                                                  refine lv_aload_n hx hb dL_law_826 rfl (lv_at hl 3 rfl) ?_
                                                  refine lv_iload_n hx hb dL_law_827 rfl (lv_at hl 0 rfl) ?_
                                                  refine lv_iconst (v := 1) hx hb dL_law_828 (by decide) ?_
                                                  refine lv_iadd hx hb dL_law_829 ?_
                                                  obtain ⟨hi_248, h⟩ := h
                                                  refine va_sld hx hb hX hbl hbA hS hi_248 dL_law_830 ?_
                                                  have hPc := hP.sub (ws' := (wd_X8 a ca u8_12)) [26, 27, 28, 29, 30, 31, 32, 33, 34, 35, 36, 37, 38, 39, 40, 41, 42, 43, 44, 45] rfl
                                                  have hDc := hD.sub (ws' := (wd_X8 a ca u8_12)) [26, 27, 28, 29, 30, 31, 32, 33, 34, 35, 36, 37, 38, 39, 40, 41, 42, 43, 44, 45] (by decide) rfl
                                                  have hKc := hK.sub (tys' := (ty_X8 ca)) [17, 18, 19, 20, 21, 22, 23, 24, 25, 26, 27, 28, 29, 30, 31, 32, 33, 34, 35] rfl
                                                  have hFc := va_free (wc := (wd_X8 a ca u8_12)) hD hS hA [26, 27, 28, 29, 30, 31, 32, 33, 34, 35, 36, 37, 38, 39, 40, 41, 42, 43, 44, 45] rfl
                                                  refine va_calli (va_runV (As := [.int (xs (v3_2 + 1).toNatClampNeg)]) (rest := [.int r_245]) ⟨hx, hb, hml, hown, hts⟩ (c_X8_drop l dC dI a ca H.size u8_12 (xs (v3_2 + 1).toNatClampNeg) _ h) (cwV 1 hts gL_law_X8_drop rfl rfl rfl (by decide +kernel) ⟨Nat.le_of_ble_eq_true rfl, Nat.le_of_ble_eq_true rfl⟩) ⟨fun a U g mk q => by obtain ⟨q0, q1, qP, qK, qD⟩ := q; exact ⟨q0, q1, qP, va_K.moved (u := U) (U := U.calling g mk a) (Vm.Alike.refl U.vm) qK, qD⟩, va_recv hKc hPc (ci := 7) (q0 := 0) rfl rfl, fun U hU hW => ⟨rfl, by rw [hU], by rw [hU]; exact hPc, va_K.moved hW.alike hKc, hDc.weaken (fun _ _ _ _ => trivial)⟩⟩ rfl rfl hl.1 rfl (lv_room (Nat.le_of_ble_eq_true rfl)) dL_law_831 ⟨Nat.le_of_ble_eq_true rfl, Nat.le_of_ble_eq_true rfl⟩) hS (fun q _ h => hFc q h) hFc (fun r_249 zz t H1 locs ht hvm hw hB hz1 hk1 hS => ?_)
                                                  obtain ⟨u8_250, rfl⟩ : ∃ z, z = zz := ⟨_, rfl⟩
                                                  replace h := hw
                                                  obtain ⟨hP1, hD1⟩ := hB
                                                  rw [ht] at hP1
                                                  obtain ⟨hP, hD⟩ := va_join (wr := [0, 1, 2, 3, 4, 5, 6, 7, 8, 9, 10, 11, 12, 13, 14, 15, 16, 17, 18, 19, 20, 21, 22, 23, 24, 25].filterMap (fun i => (wd_X7 AA CA uf_3 um_4 ut_5 uh_6 ug_7 ur_8 uw_9 ux_246 uy_247 ++ (wd_X8 a ca u8_12))[i]?)) (w1 := (wd_X8 a ca u8_250)) hP hD [26, 27, 28, 29, 30, 31, 32, 33, 34, 35, 36, 37, 38, 39, 40, 41, 42, 43, 44, 45] [0, 1, 2, 3, 4, 5, 6, 7, 8, 9, 10, 11, 12, 13, 14, 15, 16, 17, 18, 19, 20, 21, 22, 23, 24, 25] rfl rfl (by decide) (by decide) hk1 hFc hP1 hD1
                                                  replace hP : va_P (dC, dI) vwCl (wd_X7 AA CA uf_3 um_4 ut_5 uh_6 ug_7 ur_8 uw_9 ux_246 uy_247 ++ (wd_X8 a ca u8_250)) H1 := (hP.sub [0, 1, 2, 3, 4, 5, 6, 7, 8, 9, 10, 11, 12, 13, 14, 15, 16, 17, 18, 19, 20, 21, 22, 23, 24, 25, 26, 27, 28, 29, 30, 31, 32, 33, 34, 35, 36, 37, 38, 39, 40, 41, 42, 43, 44, 45] rfl)
                                                  replace hD : va_D (fun q : Nat => s.heap.size ≤ q) (wd_X7 AA CA uf_3 um_4 ut_5 uh_6 ug_7 ur_8 uw_9 ux_246 uy_247 ++ (wd_X8 a ca u8_250)) := (hD.sub [0, 1, 2, 3, 4, 5, 6, 7, 8, 9, 10, 11, 12, 13, 14, 15, 16, 17, 18, 19, 20, 21, 22, 23, 24, 25, 26, 27, 28, 29, 30, 31, 32, 33, 34, 35, 36, 37, 38, 39, 40, 41, 42, 43, 44, 45] (by decide) rfl)
                                                  generalize H1 = H at hP hS ⊢
                                                  refine lv_icmp_eq (tgt := 892) hx hb dL_law_834 (by decide) (fun hc_251 => ?_) (fun hc_251 => ?_)
                                                  · replace h := h.1 hc_251
                                                    refine lv_iinc (v := (v3_2 + 6)) (lv' := [(3, .int (v3_2 + 6)), (2, .ref (a 0)), (1, .ref (AA 0 0)), (0, .ref b)]) hx hb dL_law_892 hl (k := 0) rfl rfl (by decide) rfl (fun ls hl => ?_)
                                                    refine lv_goto (tgt := 18) hx hb dL_law_895 (by decide) ?_
                                                    exact ih_LL_1 _ _ _ _ _ _ _ _ _ _ _ h _ _ _ hP hD hS (lv_sub hl [0, 1, 2, 3] rfl)
                                                  · replace h := h.2 hc_251
                                                    refine lv_iconst (v := 0) hx hb dL_law_837 (by decide) ?_
                                                    exact h.elim
                                                · replace h := h.2 hs_243
                                                  by_cases hs_252 : ((xs v3_2.toNatClampNeg) &&& 31) = 23
                                                  · replace h := h.1 hs_252
                                                    refine lv_tableIn (tgt := 839) hx hb dL_law_33 (by rw [hs_252]; decide) (by rw [hs_252]; decide) (by rw [hs_252]; rfl) (by decide) ?_
                                                    refine lv_aload_n hx hb dL_law_839 rfl (lv_at hl 2 rfl) ?_
                                                    refine lv_aload_n hx hb dL_law_840 rfl (lv_at hl 3 rfl) ?_
                                                    refine lv_iload_n hx hb dL_law_841 rfl (lv_at hl 0 rfl) ?_
                                                    refine lv_iconst (v := 1) hx hb dL_law_842 (by decide) ?_
                                                    refine lv_iadd hx hb dL_law_843 ?_
                                                    obtain ⟨hi_253, h⟩ := h
                                                    refine va_sld hx hb hX hbl hbA hS hi_253 dL_law_844 ?_
                                                    refine lv_aload_n hx hb dL_law_845 rfl (lv_at hl 3 rfl) ?_
                                                    refine lv_iload_n hx hb dL_law_846 rfl (lv_at hl 0 rfl) ?_
                                                    refine lv_iconst (v := 2) hx hb dL_law_847 (by decide) ?_
                                                    refine lv_iadd hx hb dL_law_848 ?_
                                                    obtain ⟨hi_254, h⟩ := h
                                                    refine va_sld hx hb hX hbl hbA hS hi_254 dL_law_849 ?_
                                                    refine lv_aload_n hx hb dL_law_850 rfl (lv_at hl 3 rfl) ?_
                                                    refine lv_iload_n hx hb dL_law_851 rfl (lv_at hl 0 rfl) ?_
                                                    refine lv_iconst (v := 3) hx hb dL_law_852 (by decide) ?_
                                                    refine lv_iadd hx hb dL_law_853 ?_
                                                    obtain ⟨hi_255, h⟩ := h
                                                    refine va_sld hx hb hX hbl hbA hS hi_255 dL_law_854 ?_
                                                    refine lv_aload_n hx hb dL_law_855 rfl (lv_at hl 3 rfl) ?_
                                                    refine lv_iload_n hx hb dL_law_856 rfl (lv_at hl 0 rfl) ?_
                                                    refine lv_iconst (v := 4) hx hb dL_law_857 (by decide) ?_
                                                    refine lv_iadd hx hb dL_law_858 ?_
                                                    obtain ⟨hi_256, h⟩ := h
                                                    refine va_sld hx hb hX hbl hbA hS hi_256 dL_law_859 ?_
                                                    have hPc := hP.sub (ws' := (wd_X7 AA CA uf_3 um_4 ut_5 uh_6 ug_7 ur_8 uw_9 ux_10 uy_11)) [0, 1, 2, 3, 4, 5, 6, 7, 8, 9, 10, 11, 12, 13, 14, 15, 16, 17, 18, 19, 20, 21, 22, 23, 24, 25] rfl
                                                    have hDc := hD.sub (ws' := (wd_X7 AA CA uf_3 um_4 ut_5 uh_6 ug_7 ur_8 uw_9 ux_10 uy_11)) [0, 1, 2, 3, 4, 5, 6, 7, 8, 9, 10, 11, 12, 13, 14, 15, 16, 17, 18, 19, 20, 21, 22, 23, 24, 25] (by decide) rfl
                                                    have hKc := hK.sub (tys' := (ty_X7 CA)) [0, 1, 2, 3, 4, 5, 6, 7, 8, 9, 10, 11, 12, 13, 14, 15, 16] rfl
                                                    have hFc := va_free (wc := (wd_X7 AA CA uf_3 um_4 ut_5 uh_6 ug_7 ur_8 uw_9 ux_10 uy_11)) hD hS hA [0, 1, 2, 3, 4, 5, 6, 7, 8, 9, 10, 11, 12, 13, 14, 15, 16, 17, 18, 19, 20, 21, 22, 23, 24, 25] rfl
                                                    refine va_calli (va_runV (As := [.int (xs (v3_2 + 1).toNatClampNeg), .int (xs (v3_2 + 2).toNatClampNeg), .int (xs (v3_2 + 3).toNatClampNeg), .int (xs (v3_2 + 4).toNatClampNeg)]) (rest := []) ⟨hx, hb, hml, hown, hts⟩ (c_X7_item l dC dI AA CA H.size uf_3 um_4 ut_5 uh_6 ug_7 ur_8 uw_9 ux_10 uy_11 (xs (v3_2 + 1).toNatClampNeg) (xs (v3_2 + 2).toNatClampNeg) (xs (v3_2 + 3).toNatClampNeg) (xs (v3_2 + 4).toNatClampNeg) _ h) (cwV 4 hts gL_law_X7_item rfl rfl rfl (by decide +kernel) ⟨Nat.le_of_ble_eq_true rfl, Nat.le_of_ble_eq_true rfl⟩) ⟨fun a U g mk q => by obtain ⟨q0, q1, qP, qK, qD⟩ := q; exact ⟨q0, q1, qP, va_K.moved (u := U) (U := U.calling g mk a) (Vm.Alike.refl U.vm) qK, qD⟩, va_recv hKc hPc (ci := 6) (q0 := 0) rfl rfl, fun U hU hW => ⟨rfl, by rw [hU], by rw [hU]; exact hPc, va_K.moved hW.alike hKc, hDc.weaken (fun _ _ _ _ => trivial)⟩⟩ rfl rfl hl.1 rfl (lv_room (Nat.le_of_ble_eq_true rfl)) dL_law_860 ⟨Nat.le_of_ble_eq_true rfl, Nat.le_of_ble_eq_true rfl⟩) hS (fun q _ h => hFc q h) hFc (fun r_257 zz t H1 locs ht hvm hw hB hz1 hk1 hS => ?_)
                                                    obtain ⟨ux_258, uy_259⟩ := zz
                                                    replace h := hw
                                                    obtain ⟨hP1, hD1⟩ := hB
                                                    rw [ht] at hP1
                                                    obtain ⟨hP, hD⟩ := va_join (wr := [26, 27, 28, 29, 30, 31, 32, 33, 34, 35, 36, 37, 38, 39, 40, 41, 42, 43, 44, 45].filterMap (fun i => (wd_X7 AA CA uf_3 um_4 ut_5 uh_6 ug_7 ur_8 uw_9 ux_10 uy_11 ++ (wd_X8 a ca u8_12))[i]?)) (w1 := (wd_X7 AA CA uf_3 um_4 ut_5 uh_6 ug_7 ur_8 uw_9 ux_258 uy_259)) hP hD [0, 1, 2, 3, 4, 5, 6, 7, 8, 9, 10, 11, 12, 13, 14, 15, 16, 17, 18, 19, 20, 21, 22, 23, 24, 25] [26, 27, 28, 29, 30, 31, 32, 33, 34, 35, 36, 37, 38, 39, 40, 41, 42, 43, 44, 45] rfl rfl (by decide) (by decide) hk1 hFc hP1 hD1
                                                    replace hP : va_P (dC, dI) vwCl (wd_X7 AA CA uf_3 um_4 ut_5 uh_6 ug_7 ur_8 uw_9 ux_258 uy_259 ++ (wd_X8 a ca u8_12)) H1 := (hP.sub [20, 21, 22, 23, 24, 25, 26, 27, 28, 29, 30, 31, 32, 33, 34, 35, 36, 37, 38, 39, 40, 41, 42, 43, 44, 45, 0, 1, 2, 3, 4, 5, 6, 7, 8, 9, 10, 11, 12, 13, 14, 15, 16, 17, 18, 19] rfl)
                                                    replace hD : va_D (fun q : Nat => s.heap.size ≤ q) (wd_X7 AA CA uf_3 um_4 ut_5 uh_6 ug_7 ur_8 uw_9 ux_258 uy_259 ++ (wd_X8 a ca u8_12)) := (hD.sub [20, 21, 22, 23, 24, 25, 26, 27, 28, 29, 30, 31, 32, 33, 34, 35, 36, 37, 38, 39, 40, 41, 42, 43, 44, 45, 0, 1, 2, 3, 4, 5, 6, 7, 8, 9, 10, 11, 12, 13, 14, 15, 16, 17, 18, 19] (by decide) rfl)
                                                    generalize H1 = H at hP hS ⊢
                                                    refine lv_aload_n hx hb dL_law_863 rfl (lv_at hl 1 rfl) ?_
                                                    refine lv_aload_n hx hb dL_law_864 rfl (lv_at hl 3 rfl) ?_
                                                    refine lv_iload_n hx hb dL_law_865 rfl (lv_at hl 0 rfl) ?_
                                                    refine lv_iconst (v := 1) hx hb dL_law_866 (by decide) ?_
                                                    refine lv_iadd hx hb dL_law_867 ?_
                                                    obtain ⟨hi_260, h⟩ := h
                                                    refine va_sld hx hb hX hbl hbA hS hi_260 dL_law_868 ?_
                                                    refine lv_aload_n hx hb dL_law_869 rfl (lv_at hl 3 rfl) ?_
                                                    refine lv_iload_n hx hb dL_law_870 rfl (lv_at hl 0 rfl) ?_
                                                    refine lv_iconst (v := 2) hx hb dL_law_871 (by decide) ?_
                                                    refine lv_iadd hx hb dL_law_872 ?_
                                                    obtain ⟨hi_261, h⟩ := h
                                                    refine va_sld hx hb hX hbl hbA hS hi_261 dL_law_873 ?_
                                                    refine lv_aload_n hx hb dL_law_874 rfl (lv_at hl 3 rfl) ?_
                                                    refine lv_iload_n hx hb dL_law_875 rfl (lv_at hl 0 rfl) ?_
                                                    refine lv_iconst (v := 3) hx hb dL_law_876 (by decide) ?_
                                                    refine lv_iadd hx hb dL_law_877 ?_
                                                    obtain ⟨hi_262, h⟩ := h
                                                    refine va_sld hx hb hX hbl hbA hS hi_262 dL_law_878 ?_
                                                    refine lv_aload_n hx hb dL_law_879 rfl (lv_at hl 3 rfl) ?_
                                                    refine lv_iload_n hx hb dL_law_880 rfl (lv_at hl 0 rfl) ?_
                                                    refine lv_iconst (v := 4) hx hb dL_law_881 (by decide) ?_
                                                    refine lv_iadd hx hb dL_law_882 ?_
                                                    obtain ⟨hi_263, h⟩ := h
                                                    refine va_sld hx hb hX hbl hbA hS hi_263 dL_law_883 ?_
                                                    have hPc := hP.sub (ws' := (wd_X8 a ca u8_12)) [26, 27, 28, 29, 30, 31, 32, 33, 34, 35, 36, 37, 38, 39, 40, 41, 42, 43, 44, 45] rfl
                                                    have hDc := hD.sub (ws' := (wd_X8 a ca u8_12)) [26, 27, 28, 29, 30, 31, 32, 33, 34, 35, 36, 37, 38, 39, 40, 41, 42, 43, 44, 45] (by decide) rfl
                                                    have hKc := hK.sub (tys' := (ty_X8 ca)) [17, 18, 19, 20, 21, 22, 23, 24, 25, 26, 27, 28, 29, 30, 31, 32, 33, 34, 35] rfl
                                                    have hFc := va_free (wc := (wd_X8 a ca u8_12)) hD hS hA [26, 27, 28, 29, 30, 31, 32, 33, 34, 35, 36, 37, 38, 39, 40, 41, 42, 43, 44, 45] rfl
                                                    refine va_calli (va_runV (As := [.int (xs (v3_2 + 1).toNatClampNeg), .int (xs (v3_2 + 2).toNatClampNeg), .int (xs (v3_2 + 3).toNatClampNeg), .int (xs (v3_2 + 4).toNatClampNeg)]) (rest := [.int r_257]) ⟨hx, hb, hml, hown, hts⟩ (c_X8_item l dC dI a ca H.size u8_12 (xs (v3_2 + 1).toNatClampNeg) (xs (v3_2 + 2).toNatClampNeg) (xs (v3_2 + 3).toNatClampNeg) (xs (v3_2 + 4).toNatClampNeg) _ h) (cwV 4 hts gL_law_X8_item rfl rfl rfl (by decide +kernel) ⟨Nat.le_of_ble_eq_true rfl, Nat.le_of_ble_eq_true rfl⟩) ⟨fun a U g mk q => by obtain ⟨q0, q1, qP, qK, qD⟩ := q; exact ⟨q0, q1, qP, va_K.moved (u := U) (U := U.calling g mk a) (Vm.Alike.refl U.vm) qK, qD⟩, va_recv hKc hPc (ci := 7) (q0 := 0) rfl rfl, fun U hU hW => ⟨rfl, by rw [hU], by rw [hU]; exact hPc, va_K.moved hW.alike hKc, hDc.weaken (fun _ _ _ _ => trivial)⟩⟩ rfl rfl hl.1 rfl (lv_room (Nat.le_of_ble_eq_true rfl)) dL_law_884 ⟨Nat.le_of_ble_eq_true rfl, Nat.le_of_ble_eq_true rfl⟩) hS (fun q _ h => hFc q h) hFc (fun r_264 zz t H1 locs ht hvm hw hB hz1 hk1 hS => ?_)
                                                    obtain ⟨u8_265, rfl⟩ : ∃ z, z = zz := ⟨_, rfl⟩
                                                    replace h := hw
                                                    obtain ⟨hP1, hD1⟩ := hB
                                                    rw [ht] at hP1
                                                    obtain ⟨hP, hD⟩ := va_join (wr := [0, 1, 2, 3, 4, 5, 6, 7, 8, 9, 10, 11, 12, 13, 14, 15, 16, 17, 18, 19, 20, 21, 22, 23, 24, 25].filterMap (fun i => (wd_X7 AA CA uf_3 um_4 ut_5 uh_6 ug_7 ur_8 uw_9 ux_258 uy_259 ++ (wd_X8 a ca u8_12))[i]?)) (w1 := (wd_X8 a ca u8_265)) hP hD [26, 27, 28, 29, 30, 31, 32, 33, 34, 35, 36, 37, 38, 39, 40, 41, 42, 43, 44, 45] [0, 1, 2, 3, 4, 5, 6, 7, 8, 9, 10, 11, 12, 13, 14, 15, 16, 17, 18, 19, 20, 21, 22, 23, 24, 25] rfl rfl (by decide) (by decide) hk1 hFc hP1 hD1
                                                    replace hP : va_P (dC, dI) vwCl (wd_X7 AA CA uf_3 um_4 ut_5 uh_6 ug_7 ur_8 uw_9 ux_258 uy_259 ++ (wd_X8 a ca u8_265)) H1 := (hP.sub [0, 1, 2, 3, 4, 5, 6, 7, 8, 9, 10, 11, 12, 13, 14, 15, 16, 17, 18, 19, 20, 21, 22, 23, 24, 25, 26, 27, 28, 29, 30, 31, 32, 33, 34, 35, 36, 37, 38, 39, 40, 41, 42, 43, 44, 45] rfl)
                                                    replace hD : va_D (fun q : Nat => s.heap.size ≤ q) (wd_X7 AA CA uf_3 um_4 ut_5 uh_6 ug_7 ur_8 uw_9 ux_258 uy_259 ++ (wd_X8 a ca u8_265)) := (hD.sub [0, 1, 2, 3, 4, 5, 6, 7, 8, 9, 10, 11, 12, 13, 14, 15, 16, 17, 18, 19, 20, 21, 22, 23, 24, 25, 26, 27, 28, 29, 30, 31, 32, 33, 34, 35, 36, 37, 38, 39, 40, 41, 42, 43, 44, 45] (by decide) rfl)
                                                    generalize H1 = H at hP hS ⊢
                                                    refine lv_icmp_eq (tgt := 892) hx hb dL_law_887 (by decide) (fun hc_266 => ?_) (fun hc_266 => ?_)
                                                    · replace h := h.1 hc_266
                                                      refine lv_iinc (v := (v3_2 + 6)) (lv' := [(3, .int (v3_2 + 6)), (2, .ref (a 0)), (1, .ref (AA 0 0)), (0, .ref b)]) hx hb dL_law_892 hl (k := 0) rfl rfl (by decide) rfl (fun ls hl => ?_)
                                                      refine lv_goto (tgt := 18) hx hb dL_law_895 (by decide) ?_
                                                      exact ih_LL_1 _ _ _ _ _ _ _ _ _ _ _ h _ _ _ hP hD hS (lv_sub hl [0, 1, 2, 3] rfl)
                                                    · replace h := h.2 hc_266
                                                      refine lv_iconst (v := 0) hx hb dL_law_890 (by decide) ?_
                                                      exact h.elim
                                                  · replace h := h.2 hs_252
                                                    have ths_15 := lv_neT (a := 0) hs_15 rfl
                                                    have ths_26 := lv_neT (a := 1) hs_26 rfl
                                                    have ths_45 := lv_neT (a := 2) hs_45 rfl
                                                    have ths_63 := lv_neT (a := 3) hs_63 rfl
                                                    have ths_71 := lv_neT (a := 4) hs_71 rfl
                                                    have ths_79 := lv_neT (a := 5) hs_79 rfl
                                                    have ths_91 := lv_neT (a := 6) hs_91 rfl
                                                    have ths_100 := lv_neT (a := 7) hs_100 rfl
                                                    have ths_116 := lv_neT (a := 8) hs_116 rfl
                                                    have ths_124 := lv_neT (a := 9) hs_124 rfl
                                                    have ths_134 := lv_neT (a := 10) hs_134 rfl
                                                    have ths_142 := lv_neT (a := 11) hs_142 rfl
                                                    have ths_148 := lv_neT (a := 12) hs_148 rfl
                                                    have ths_157 := lv_neT (a := 13) hs_157 rfl
                                                    have ths_168 := lv_neT (a := 14) hs_168 rfl
                                                    have ths_175 := lv_neT (a := 15) hs_175 rfl
                                                    have ths_186 := lv_neT (a := 16) hs_186 rfl
                                                    have ths_199 := lv_neT (a := 17) hs_199 rfl
                                                    have ths_206 := lv_neT (a := 18) hs_206 rfl
                                                    have ths_213 := lv_neT (a := 19) hs_213 rfl
                                                    have ths_222 := lv_neT (a := 20) hs_222 rfl
                                                    have ths_230 := lv_neT (a := 21) hs_230 rfl
                                                    have ths_243 := lv_neT (a := 22) hs_243 rfl
                                                    have ths_252 := lv_neT (a := 23) hs_252 rfl
                                                    refine lv_tableOut (tgt := 892) hx hb dL_law_33 (by omega) (by decide) ?_
                                                    refine lv_iinc (v := (v3_2 + 6)) (lv' := [(3, .int (v3_2 + 6)), (2, .ref (a 0)), (1, .ref (AA 0 0)), (0, .ref b)]) hx hb dL_law_892 hl (k := 0) rfl rfl (by decide) rfl (fun ls hl => ?_)
                                                    refine lv_goto (tgt := 18) hx hb dL_law_895 (by decide) ?_
                                                    exact ih_LL_1 _ _ _ _ _ _ _ _ _ _ _ h _ _ _ hP hD hS (lv_sub hl [0, 1, 2, 3] rfl)
