set_option maxHeartbeats 40000000 in
set_option maxRecDepth 100000 in
theorem law_loop {p : Program} {l : Launch} {e : Env} {s : State} {m : MethodId} {below : List Frame} {meth : Method} {c : Code} {dC : Nat → ClassId} {dI : Nat → Nat → Nat} {b LN : Nat} {xs : Nat → Int32} (C0 : lw_At p s m meth c b LN xs) (hN : nw_ok s) (AA : Nat → Nat → Nat) (CA : Nat → Nat → ClassId) (a : Nat → Nat) (ca : Nat → ClassId) (uf : Ob) (um : Ob) (ut : Ob) (uh : Ob) (ug : Ob) (ur : Ob) (uw : Ob) (ux : Ob) (uy : Ob) (u8 : Ob) (h : wp_law LN xs uf um ut uh ug ur uw ux uy u8) (H : Heap) (locs : List Loc) (ls : Array Slot) (hK : va_K (dC, dI) vwCl (ty_X7 CA ++ (ty_X8 ca)) s) (hP : va_P (dC, dI) vwCl (wd_X7 AA CA uf um ut uh ug ur uw ux uy ++ (wd_X8 a ca u8)) H) (hD : va_D (fun q : Nat => s.heap.size ≤ q) (wd_X7 AA CA uf um ut uh ug ur uw ux uy ++ (wd_X8 a ca u8))) (hS : va_S (fun q : Nat => s.heap.size ≤ q) s.heap H locs) (hl : lv_has ls 4 [(2, .ref (a 0)), (1, .ref (AA 0 0)), (0, .ref b)]) : W p l e room_1 s m #[Value.ref b] below meth c H locs 46 82621 (lw_Z below #[Value.ref b] s) (F0 m 16 ls []) := by
  have C1 := C0
  obtain ⟨hx, hb, hr, hml, hown, hts0, hX, hbl, hlocks, hgv⟩ := C0
  have hts : ∀ w ∈ wsL_law, w.before #[Value.ref b] s = true := fun w h => hts0 w (wsL_law_in w h)
  have hown : s.vm.findClass RL = some m.cls := hown
  have hA : ∀ q : Nat, s.heap.size ≤ q → (fun q : Nat => s.heap.size ≤ q) q := fun _ h => h
  have hbA : ¬ (fun q : Nat => s.heap.size ≤ q) b := Nat.not_le.mpr hbl
  have lk_0 := hts (.constantLong RL 38 4294967295) (by decide +kernel)
  unfold wp_law at h
  refine lv_iconst (v := 0) hx hb dL_law_16 (by decide) ?_
  refine lv_istore_n (lv' := [(3, .int 0), (2, .ref (a 0)), (1, .ref (AA 0 0)), (0, .ref b)]) hx hb dL_law_17 rfl hl (by decide) rfl (fun ls hl => ?_)
  obtain ⟨n_267, h⟩ := h
  refine lq11_ind (GG := (fun (v3_2 : Int32) (uf_3 : Ob) (um_4 : Ob) (ut_5 : Ob) (uh_6 : Ob) (ug_7 : Ob) (ur_8 : Ob) (uw_9 : Ob) (ux_10 : Ob) (uy_11 : Ob) (u8_12 : Ob) => ∀ (H : Heap) (locs : List Loc) (ls : Array Slot), va_P (dC, dI) vwCl (wd_X7 AA CA uf_3 um_4 ut_5 uh_6 ug_7 ur_8 uw_9 ux_10 uy_11 ++ (wd_X8 a ca u8_12)) H → va_D (fun q : Nat => s.heap.size ≤ q) (wd_X7 AA CA uf_3 um_4 ut_5 uh_6 ug_7 ur_8 uw_9 ux_10 uy_11 ++ (wd_X8 a ca u8_12)) → va_S (fun q : Nat => s.heap.size ≤ q) s.heap H locs → lv_has ls 4 [(3, .int v3_2), (2, .ref (a 0)), (1, .ref (AA 0 0)), (0, .ref b)] → W p l e room_1 s m #[Value.ref b] below meth c H locs 46 82621 (lw_Z below #[Value.ref b] s) (F0 m 18 ls []))) (fun LL_1 ih_LL_1 v3_2 uf_3 um_4 ut_5 uh_6 ug_7 ur_8 uw_9 ux_10 uy_11 u8_12 h H locs ls hP hD hS hl => ?_) n_267 _ _ _ _ _ _ _ _ _ _ _ h _ _ _ hP hD hS (lv_sub hl [0, 1, 2, 3] rfl)
  refine lv_iload_n hx hb dL_law_18 rfl (lv_at hl 0 rfl) ?_
  refine lv_aload_n hx hb dL_law_19 rfl (lv_at hl 3 rfl) ?_
  refine va_slen hx hb hX hbl hbA hS dL_law_20 ?_
  refine lv_bipush (v := 6) hx hb dL_law_21 (by decide) ?_
  refine lv_isub hx hb dL_law_23 ?_
  refine lv_icmp_gt (tgt := 898) hx hb dL_law_24 (by decide) (fun hc_13 => ?_) (fun hc_13 => ?_)
  · replace h := h.1 hc_13
    refine lv_iconst (v := 1) hx hb dL_law_898 (by decide) ?_
    refine va_forget (fun q hq => hS.2.2 q hq) ?_
    refine W.widen (k := 600000) (n := 7302250) (Nat.le_of_ble_eq_true rfl) (Nat.le_of_ble_eq_true rfl) ?_
    exact lw_ret hx hb hr hlocks dL_law_899
  · replace h := h.2 hc_13
    refine lv_aload_n hx hb dL_law_27 rfl (lv_at hl 3 rfl) ?_
    refine lv_iload_n hx hb dL_law_28 rfl (lv_at hl 0 rfl) ?_
    obtain ⟨hi_14, h⟩ := h
    refine va_sld hx hb hX hbl hbA hS hi_14 dL_law_29 ?_
    refine lv_bipush (v := 31) hx hb dL_law_30 (by decide) ?_
    refine lv_iand hx hb dL_law_32 ?_
    by_cases hs_15 : ((xs v3_2.toNatClampNeg) &&& 31) = 0
    · replace h := h.1 hs_15
      refine lv_tableIn (tgt := 144) hx hb dL_law_33 (by rw [hs_15]; decide) (by rw [hs_15]; decide) (by rw [hs_15]; rfl) (by decide) ?_
      exact lc_0 C1 hN AA CA a ca LL_1 ih_LL_1 v3_2 uf_3 um_4 ut_5 uh_6 ug_7 ur_8 uw_9 ux_10 uy_11 u8_12 h H locs ls hK hP hD hS hl
    · replace h := h.2 hs_15
      by_cases hs_26 : ((xs v3_2.toNatClampNeg) &&& 31) = 1
      · replace h := h.1 hs_26
        refine lv_tableIn (tgt := 167) hx hb dL_law_33 (by rw [hs_26]; decide) (by rw [hs_26]; decide) (by rw [hs_26]; rfl) (by decide) ?_
        exact lc_1 C1 hN AA CA a ca LL_1 ih_LL_1 v3_2 uf_3 um_4 ut_5 uh_6 ug_7 ur_8 uw_9 ux_10 uy_11 u8_12 h H locs ls hK hP hD hS hl
      · replace h := h.2 hs_26
        by_cases hs_45 : ((xs v3_2.toNatClampNeg) &&& 31) = 2
        · replace h := h.1 hs_45
          refine lv_tableIn (tgt := 216) hx hb dL_law_33 (by rw [hs_45]; decide) (by rw [hs_45]; decide) (by rw [hs_45]; rfl) (by decide) ?_
          exact lc_2 C1 hN AA CA a ca LL_1 ih_LL_1 v3_2 uf_3 um_4 ut_5 uh_6 ug_7 ur_8 uw_9 ux_10 uy_11 u8_12 h H locs ls hK hP hD hS hl
        · replace h := h.2 hs_45
          by_cases hs_63 : ((xs v3_2.toNatClampNeg) &&& 31) = 3
          · replace h := h.1 hs_63
            refine lv_tableIn (tgt := 279) hx hb dL_law_33 (by rw [hs_63]; decide) (by rw [hs_63]; decide) (by rw [hs_63]; rfl) (by decide) ?_
            exact lc_3 C1 hN AA CA a ca LL_1 ih_LL_1 v3_2 uf_3 um_4 ut_5 uh_6 ug_7 ur_8 uw_9 ux_10 uy_11 u8_12 h H locs ls hK hP hD hS hl
          · replace h := h.2 hs_63
            by_cases hs_71 : ((xs v3_2.toNatClampNeg) &&& 31) = 4
            · replace h := h.1 hs_71
              refine lv_tableIn (tgt := 292) hx hb dL_law_33 (by rw [hs_71]; decide) (by rw [hs_71]; decide) (by rw [hs_71]; rfl) (by decide) ?_
              exact lc_4 C1 hN AA CA a ca LL_1 ih_LL_1 v3_2 uf_3 um_4 ut_5 uh_6 ug_7 ur_8 uw_9 ux_10 uy_11 u8_12 h H locs ls hK hP hD hS hl
            · replace h := h.2 hs_71
              by_cases hs_79 : ((xs v3_2.toNatClampNeg) &&& 31) = 5
              · replace h := h.1 hs_79
                refine lv_tableIn (tgt := 325) hx hb dL_law_33 (by rw [hs_79]; decide) (by rw [hs_79]; decide) (by rw [hs_79]; rfl) (by decide) ?_
                exact lc_5 C1 hN AA CA a ca LL_1 ih_LL_1 v3_2 uf_3 um_4 ut_5 uh_6 ug_7 ur_8 uw_9 ux_10 uy_11 u8_12 h H locs ls hK hP hD hS hl
              · replace h := h.2 hs_79
                by_cases hs_91 : ((xs v3_2.toNatClampNeg) &&& 31) = 6
                · replace h := h.1 hs_91
                  refine lv_tableIn (tgt := 388) hx hb dL_law_33 (by rw [hs_91]; decide) (by rw [hs_91]; decide) (by rw [hs_91]; rfl) (by decide) ?_
                  exact lc_6 C1 hN AA CA a ca LL_1 ih_LL_1 v3_2 uf_3 um_4 ut_5 uh_6 ug_7 ur_8 uw_9 ux_10 uy_11 u8_12 h H locs ls hK hP hD hS hl
                · replace h := h.2 hs_91
                  by_cases hs_100 : ((xs v3_2.toNatClampNeg) &&& 31) = 7
                  · replace h := h.1 hs_100
                    refine lv_tableIn (tgt := 401) hx hb dL_law_33 (by rw [hs_100]; decide) (by rw [hs_100]; decide) (by rw [hs_100]; rfl) (by decide) ?_
                    exact lc_7 C1 hN AA CA a ca LL_1 ih_LL_1 v3_2 uf_3 um_4 ut_5 uh_6 ug_7 ur_8 uw_9 ux_10 uy_11 u8_12 h H locs ls hK hP hD hS hl
                  · replace h := h.2 hs_100
                    by_cases hs_116 : ((xs v3_2.toNatClampNeg) &&& 31) = 8
                    · replace h := h.1 hs_116
                      refine lv_tableIn (tgt := 454) hx hb dL_law_33 (by rw [hs_116]; decide) (by rw [hs_116]; decide) (by rw [hs_116]; rfl) (by decide) ?_
                      exact lc_8 C1 hN AA CA a ca LL_1 ih_LL_1 v3_2 uf_3 um_4 ut_5 uh_6 ug_7 ur_8 uw_9 ux_10 uy_11 u8_12 h H locs ls hK hP hD hS hl
                    · replace h := h.2 hs_116
                      by_cases hs_124 : ((xs v3_2.toNatClampNeg) &&& 31) = 9
                      · replace h := h.1 hs_124
                        refine lv_tableIn (tgt := 477) hx hb dL_law_33 (by rw [hs_124]; decide) (by rw [hs_124]; decide) (by rw [hs_124]; rfl) (by decide) ?_
                        exact lc_9 C1 hN AA CA a ca LL_1 ih_LL_1 v3_2 uf_3 um_4 ut_5 uh_6 ug_7 ur_8 uw_9 ux_10 uy_11 u8_12 h H locs ls hK hP hD hS hl
                      · replace h := h.2 hs_124
                        by_cases hs_134 : ((xs v3_2.toNatClampNeg) &&& 31) = 10
                        · replace h := h.1 hs_134
                          refine lv_tableIn (tgt := 510) hx hb dL_law_33 (by rw [hs_134]; decide) (by rw [hs_134]; decide) (by rw [hs_134]; rfl) (by decide) ?_
                          exact lc_10 C1 hN AA CA a ca LL_1 ih_LL_1 v3_2 uf_3 um_4 ut_5 uh_6 ug_7 ur_8 uw_9 ux_10 uy_11 u8_12 h H locs ls hK hP hD hS hl
                        · replace h := h.2 hs_134
                          by_cases hs_142 : ((xs v3_2.toNatClampNeg) &&& 31) = 11
                          · replace h := h.1 hs_142
                            refine lv_tableIn (tgt := 543) hx hb dL_law_33 (by rw [hs_142]; decide) (by rw [hs_142]; decide) (by rw [hs_142]; rfl) (by decide) ?_
                            exact lc_11 C1 hN AA CA a ca LL_1 ih_LL_1 v3_2 uf_3 um_4 ut_5 uh_6 ug_7 ur_8 uw_9 ux_10 uy_11 u8_12 h H locs ls hK hP hD hS hl
                          · replace h := h.2 hs_142
                            by_cases hs_148 : ((xs v3_2.toNatClampNeg) &&& 31) = 12
                            · replace h := h.1 hs_148
                              refine lv_tableIn (tgt := 556) hx hb dL_law_33 (by rw [hs_148]; decide) (by rw [hs_148]; decide) (by rw [hs_148]; rfl) (by decide) ?_
                              exact lc_12 C1 hN AA CA a ca LL_1 ih_LL_1 v3_2 uf_3 um_4 ut_5 uh_6 ug_7 ur_8 uw_9 ux_10 uy_11 u8_12 h H locs ls hK hP hD hS hl
                            · replace h := h.2 hs_148
                              by_cases hs_157 : ((xs v3_2.toNatClampNeg) &&& 31) = 13
                              · replace h := h.1 hs_157
                                refine lv_tableIn (tgt := 579) hx hb dL_law_33 (by rw [hs_157]; decide) (by rw [hs_157]; decide) (by rw [hs_157]; rfl) (by decide) ?_
                                exact lc_13 C1 hN AA CA a ca LL_1 ih_LL_1 v3_2 uf_3 um_4 ut_5 uh_6 ug_7 ur_8 uw_9 ux_10 uy_11 u8_12 h H locs ls hK hP hD hS hl
                              · replace h := h.2 hs_157
                                by_cases hs_168 : ((xs v3_2.toNatClampNeg) &&& 31) = 14
                                · replace h := h.1 hs_168
                                  refine lv_tableIn (tgt := 612) hx hb dL_law_33 (by rw [hs_168]; decide) (by rw [hs_168]; decide) (by rw [hs_168]; rfl) (by decide) ?_
                                  exact lc_14 C1 hN AA CA a ca LL_1 ih_LL_1 v3_2 uf_3 um_4 ut_5 uh_6 ug_7 ur_8 uw_9 ux_10 uy_11 u8_12 h H locs ls hK hP hD hS hl
                                · replace h := h.2 hs_168
                                  by_cases hs_175 : ((xs v3_2.toNatClampNeg) &&& 31) = 15
                                  · replace h := h.1 hs_175
                                    refine lv_tableIn (tgt := 625) hx hb dL_law_33 (by rw [hs_175]; decide) (by rw [hs_175]; decide) (by rw [hs_175]; rfl) (by decide) ?_
                                    exact lc_15 C1 hN AA CA a ca LL_1 ih_LL_1 v3_2 uf_3 um_4 ut_5 uh_6 ug_7 ur_8 uw_9 ux_10 uy_11 u8_12 h H locs ls hK hP hD hS hl
                                  · replace h := h.2 hs_175
                                    by_cases hs_186 : ((xs v3_2.toNatClampNeg) &&& 31) = 16
                                    · replace h := h.1 hs_186
                                      refine lv_tableIn (tgt := 658) hx hb dL_law_33 (by rw [hs_186]; decide) (by rw [hs_186]; decide) (by rw [hs_186]; rfl) (by decide) ?_
                                      exact lc_16 C1 hN AA CA a ca LL_1 ih_LL_1 v3_2 uf_3 um_4 ut_5 uh_6 ug_7 ur_8 uw_9 ux_10 uy_11 u8_12 h H locs ls hK hP hD hS hl
                                    · replace h := h.2 hs_186
                                      by_cases hs_199 : ((xs v3_2.toNatClampNeg) &&& 31) = 17
                                      · replace h := h.1 hs_199
                                        refine lv_tableIn (tgt := 701) hx hb dL_law_33 (by rw [hs_199]; decide) (by rw [hs_199]; decide) (by rw [hs_199]; rfl) (by decide) ?_
                                        exact lc_17 C1 hN AA CA a ca LL_1 ih_LL_1 v3_2 uf_3 um_4 ut_5 uh_6 ug_7 ur_8 uw_9 ux_10 uy_11 u8_12 h H locs ls hK hP hD hS hl
                                      · replace h := h.2 hs_199
                                        by_cases hs_206 : ((xs v3_2.toNatClampNeg) &&& 31) = 18
                                        · replace h := h.1 hs_206
                                          refine lv_tableIn (tgt := 714) hx hb dL_law_33 (by rw [hs_206]; decide) (by rw [hs_206]; decide) (by rw [hs_206]; rfl) (by decide) ?_
                                          exact lc_18 C1 hN AA CA a ca LL_1 ih_LL_1 v3_2 uf_3 um_4 ut_5 uh_6 ug_7 ur_8 uw_9 ux_10 uy_11 u8_12 h H locs ls hK hP hD hS hl
                                        · replace h := h.2 hs_206
                                          by_cases hs_213 : ((xs v3_2.toNatClampNeg) &&& 31) = 19
                                          · replace h := h.1 hs_213
                                            refine lv_tableIn (tgt := 727) hx hb dL_law_33 (by rw [hs_213]; decide) (by rw [hs_213]; decide) (by rw [hs_213]; rfl) (by decide) ?_
                                            exact lc_19 C1 hN AA CA a ca LL_1 ih_LL_1 v3_2 uf_3 um_4 ut_5 uh_6 ug_7 ur_8 uw_9 ux_10 uy_11 u8_12 h H locs ls hK hP hD hS hl
                                          · replace h := h.2 hs_213
                                            by_cases hs_222 : ((xs v3_2.toNatClampNeg) &&& 31) = 20
                                            · replace h := h.1 hs_222
                                              refine lv_tableIn (tgt := 750) hx hb dL_law_33 (by rw [hs_222]; decide) (by rw [hs_222]; decide) (by rw [hs_222]; rfl) (by decide) ?_
                                              exact lc_20 C1 hN AA CA a ca LL_1 ih_LL_1 v3_2 uf_3 um_4 ut_5 uh_6 ug_7 ur_8 uw_9 ux_10 uy_11 u8_12 h H locs ls hK hP hD hS hl
                                            · replace h := h.2 hs_222
                                              by_cases hs_230 : ((xs v3_2.toNatClampNeg) &&& 31) = 21
                                              · replace h := h.1 hs_230
                                                refine lv_tableIn (tgt := 773) hx hb dL_law_33 (by rw [hs_230]; decide) (by rw [hs_230]; decide) (by rw [hs_230]; rfl) (by decide) ?_
                                                exact lc_21 C1 hN AA CA a ca LL_1 ih_LL_1 v3_2 uf_3 um_4 ut_5 uh_6 ug_7 ur_8 uw_9 ux_10 uy_11 u8_12 h H locs ls hK hP hD hS hl
                                              · replace h := h.2 hs_230
                                                by_cases hs_243 : ((xs v3_2.toNatClampNeg) &&& 31) = 22
                                                · replace h := h.1 hs_243
                                                  refine lv_tableIn (tgt := 816) hx hb dL_law_33 (by rw [hs_243]; decide) (by rw [hs_243]; decide) (by rw [hs_243]; rfl) (by decide) ?_
                                                  exact lc_22 C1 hN AA CA a ca LL_1 ih_LL_1 v3_2 uf_3 um_4 ut_5 uh_6 ug_7 ur_8 uw_9 ux_10 uy_11 u8_12 h H locs ls hK hP hD hS hl
                                                · replace h := h.2 hs_243
                                                  by_cases hs_252 : ((xs v3_2.toNatClampNeg) &&& 31) = 23
                                                  · replace h := h.1 hs_252
                                                    refine lv_tableIn (tgt := 839) hx hb dL_law_33 (by rw [hs_252]; decide) (by rw [hs_252]; decide) (by rw [hs_252]; rfl) (by decide) ?_
                                                    exact lc_23 C1 hN AA CA a ca LL_1 ih_LL_1 v3_2 uf_3 um_4 ut_5 uh_6 ug_7 ur_8 uw_9 ux_10 uy_11 u8_12 h H locs ls hK hP hD hS hl
                                                  · replace h := h.2 hs_252
                                                    have ths_15 := lv_neT (a := 0) hs_15 rfl
                                                    have ths_26 := lv_neT (a := 1) hs_26 rfl
                                                    have ths_45 := lv_neT (a := 2) hs_45 rfl
                                                    have ths_63 := lv_neT (a := 3) hs_63 rfl
                                                    have ths_71 := lv_neT (a := 4) hs_71 rfl
                                                    have ths_79 := lv_neT (a := 5) hs_79 rfl
                                                    have ths_91 := lv_neT (a := 6) hs_91 rfl
                                                    have ths_100 := lv_neT (a := 7) hs_100 rfl
                                                    have ths_116 := lv_neT (a := 8) hs_116 rfl
                                                    have ths_124 := lv_neT (a := 9) hs_124 rfl
                                                    have ths_134 := lv_neT (a := 10) hs_134 rfl
                                                    have ths_142 := lv_neT (a := 11) hs_142 rfl
                                                    have ths_148 := lv_neT (a := 12) hs_148 rfl
                                                    have ths_157 := lv_neT (a := 13) hs_157 rfl
                                                    have ths_168 := lv_neT (a := 14) hs_168 rfl
                                                    have ths_175 := lv_neT (a := 15) hs_175 rfl
                                                    have ths_186 := lv_neT (a := 16) hs_186 rfl
                                                    have ths_199 := lv_neT (a := 17) hs_199 rfl
                                                    have ths_206 := lv_neT (a := 18) hs_206 rfl
                                                    have ths_213 := lv_neT (a := 19) hs_213 rfl
                                                    have ths_222 := lv_neT (a := 20) hs_222 rfl
                                                    have ths_230 := lv_neT (a := 21) hs_230 rfl
                                                    have ths_243 := lv_neT (a := 22) hs_243 rfl
                                                    have ths_252 := lv_neT (a := 23) hs_252 rfl
                                                    refine lv_tableOut (tgt := 892) hx hb dL_law_33 (by omega) (by decide) ?_
                                                    refine lv_iinc (v := (v3_2 + 6)) (lv' := [(3, .int (v3_2 + 6)), (2, .ref (a 0)), (1, .ref (AA 0 0)), (0, .ref b)]) hx hb dL_law_892 hl (k := 0) rfl rfl (by decide) rfl (fun ls hl => ?_)
                                                    refine lv_goto (tgt := 18) hx hb dL_law_895 (by decide) ?_
                                                    exact ih_LL_1 _ _ _ _ _ _ _ _ _ _ _ h _ _ _ hP hD hS (lv_sub hl [0, 1, 2, 3] rfl)
