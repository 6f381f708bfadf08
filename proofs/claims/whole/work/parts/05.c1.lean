abbrev rm_X2_arcOfWay : Room := { frames := 0, cells := 0, slots := 0, locals := 0 }
set_option maxHeartbeats 4000000 in
set_option maxRecDepth 100000 in
theorem c_X2_arcOfWay (l : Launch) (dC : Nat → ClassId) (dI : Nat → Nat → Nat) (a : Nat → Nat) (ca : Nat → ClassId) (sz : Nat) (u : Ob) (x1 : Int32) (x2 : Int32) (post : Int32 → Prop) (h : wp_X2_arcOfWay u x1 x2 post) : Met l yX2_arcOfWay wsX2_arcOfWay rm_X2_arcOfWay (va_Pc [.ref (a 0), .int x1, .int x2] (fun U => U.heap.size = sz ∧ va_P (dC, dI) vwCl (wd_X2 a ca u) U.heap ∧ va_K (dC, dI) vwCl (ty_X2 ca) U ∧ va_D (fun _ => True) (wd_X2 a ca u))) (va_Qi (fun (rr : Int32) (_ : Unit) => post rr) (fun (zz : Unit) (t : State) => va_P (dC, dI) vwCl (wd_X2 a ca u) t.heap ∧ va_D (va_A (wd_X2 a ca u) sz) (wd_X2 a ca u)) (va_A (wd_X2 a ca u) sz)) 0 0 (va_A (wd_X2 a ca u) sz) := by
  refine fl_ofW (cc := cX2_arcOfWay) (maxL := 5) (ret := (some .int)) (by decide) rfl ?_
  intro p e s m args below meth c s₁ Q B hml hv hQ
  obtain ⟨hargs, hsz, hP, hK, hD0⟩ := hv
  have hx := B.exec
  have hb := B.bytes
  have hr := B.returns
  have hts := atoms_spec (ws := wsX2_arcOfWay) B.pre
  have hown : s.vm.findClass RX2 = some m.cls := findClass_of_methodNamed B.named
  subst hsz
  have hD := hD0.self (sz := s.heap.size)
  generalize hAe : va_A (wd_X2 a ca u) s.heap.size = A at hD hQ
  have hA : ∀ q : Nat, s.heap.size ≤ q → A q := fun q h => by rw [← hAe]; exact Or.inr h
  have hS : va_S A s.heap s.heap [] := va_S.rf
  have hl := lv_entry ([.ref (a 0), .int x1, .int x2]) (n := 5) (Nat.le_of_ble_eq_true rfl)
  refine W.eq (g2 := F0 m 0 ((lg_sl ([.ref (a 0), .int x1, .int x2]) ++ List.replicate (5 - (lg_sl ([.ref (a 0), .int x1, .int x2])).length) Slot.unset).toArray) []) (by rw [hargs]; exact lg_entry_eq m _ 5) ?_
  generalize (lg_sl ([.ref (a 0), .int x1, .int x2]) ++ List.replicate (5 - (lg_sl ([.ref (a 0), .int x1, .int x2])).length) Slot.unset).toArray = ls at hl ⊢
  have hl : lv_has ls 5 [(0, .ref (a 0)), (1, .int x1), (2, .int x2)] := hl
  suffices hstart : ∀ (H : Heap) (locs : List Loc) (ls : Array Slot), va_P (dC, dI) vwCl (wd_X2 a ca u) H → va_D A (wd_X2 a ca u) → va_S A s.heap H locs → lv_has ls 5 [(0, .ref (a 0)), (1, .int x1), (2, .int x2)] → W p l e (headSpec wsX2_arcOfWay rm_X2_arcOfWay).room s m args below meth c H locs 0 0 Q (F0 m 0 ls []) from hstart _ _ _ hP hD hS hl
  clear hS hP hD hD0
  intro H locs ls hP hD hS hl
  have hin_X2 : ∀ w ∈ wsX20, w ∈ wsX2_arcOfWay := by decide +kernel
  have lk_0 := hts (.fieldLink RX2 24 "ForgettingLines$Search" "arcs" "[I") (by decide +kernel)
  have lk_1 := hts (.fieldLink RX2 27 "ForgettingLines$Search" "origins" "[I") (by decide +kernel)
  unfold wp_X2_arcOfWay at h
  refine lv_iload_n hx hb dX2_arcOfWay_0 rfl (lv_at hl 1 rfl) ?_
  refine lv_istore_n (lv' := [(3, .int x1), (0, .ref (a 0)), (1, .int x1), (2, .int x2)]) hx hb dX2_arcOfWay_1 rfl hl (by decide) rfl (fun ls hl => ?_)
  refine lv_iconst (v := 0) hx hb dX2_arcOfWay_2 (by decide) ?_
  refine lv_istore (lv' := [(4, .int 0), (3, .int x1), (0, .ref (a 0)), (1, .int x1), (2, .int x2)]) hx hb dX2_arcOfWay_3 hl (by decide) rfl (fun ls hl => ?_)
  obtain ⟨n_10, h⟩ := h
  refine lq2_ind (GG := (fun (v4_2 : Int32) (v3_3 : Int32) => ∀ (H : Heap) (locs : List Loc) (ls : Array Slot), va_P (dC, dI) vwCl (wd_X2 a ca u) H → va_D A (wd_X2 a ca u) → va_S A s.heap H locs → lv_has ls 5 [(4, .int v4_2), (3, .int v3_3), (0, .ref (a 0)), (2, .int x2)] → W p l e (headSpec wsX2_arcOfWay rm_X2_arcOfWay).room s m args below meth c H locs 0 0 Q (F0 m 5 ls []))) (fun LL_1 ih_LL_1 v4_2 v3_3 h H locs ls hP hD hS hl => ?_) n_10 _ _ h _ _ _ hP hD hS (lv_sub hl [0, 1, 2, 4] rfl)
  refine lv_iload hx hb dX2_arcOfWay_5 (lv_at hl 0 rfl) ?_
  refine lv_iload_n hx hb dX2_arcOfWay_7 rfl (lv_at hl 3 rfl) ?_
  refine jn0_ind (GG := (∀ (H : Heap) (locs : List Loc) (ls : Array Slot), va_P (dC, dI) vwCl (wd_X2 a ca u) H → va_D A (wd_X2 a ca u) → va_S A s.heap H locs → lv_has ls 5 [(3, .int v3_3), (0, .ref (a 0))] → W p l e (headSpec wsX2_arcOfWay rm_X2_arcOfWay).room s m args below meth c H locs 0 0 Q (F0 m 33 ls []))) h (fun  h H locs ls hP hD hS hl => ?_) (fun JJ_4 ih_JJ_4 h => ?_)
  · refine lv_aload_n hx hb dX2_arcOfWay_33 rfl (lv_at hl 1 rfl) ?_
    refine va_get (D := (dC, dI)) (ci := 2) (v := .ref (a 7)) (C := RX2) (T := TX2) (N := 8) hx hb hts hin_X2 hown hK hP 0 rfl rfl 6 (by decide) lk_0 (fun _ h9 => h9) rfl dX2_arcOfWay_34 ?_
    refine lv_iload_n hx hb dX2_arcOfWay_37 rfl (lv_at hl 0 rfl) ?_
    obtain ⟨hi_5, h⟩ := h
    refine va_iald (D := (dC, dI)) (cl := vwCl) (i := v3_3) hx hb hK hP 5 4 rfl rfl hi_5 dX2_arcOfWay_38 ?_
    subst hQ
    exact W.iret (v := (u.2.1 6 v3_3.toNatClampNeg)) hx hb hr (fun t ht hW => ⟨⟨_, (), rfl, h, by rw [ht]; exact hP, hD⟩, hS.F ht⟩) hS.2.2 dX2_arcOfWay_39
  · refine lv_icmp_ge (tgt := 33) hx hb dX2_arcOfWay_8 (by decide) (fun hc_6 => ?_) (fun hc_6 => ?_)
    · replace h := h.1 hc_6
      exact ih_JJ_4 h _ _ _ hP hD hS (lv_sub hl [1, 2] rfl)
    · replace h := h.2 hc_6
      refine lv_aload_n hx hb dX2_arcOfWay_11 rfl (lv_at hl 2 rfl) ?_
      refine va_get (D := (dC, dI)) (ci := 2) (v := .ref (a 8)) (C := RX2) (T := TX2) (N := 8) hx hb hts hin_X2 hown hK hP 0 rfl rfl 7 (by decide) lk_1 (fun _ h9 => h9) rfl dX2_arcOfWay_12 ?_
      refine lv_iload_n hx hb dX2_arcOfWay_15 rfl (lv_at hl 1 rfl) ?_
      obtain ⟨hi_7, h⟩ := h
      refine va_iald (D := (dC, dI)) (cl := vwCl) (i := v3_3) hx hb hK hP 6 5 rfl rfl hi_7 dX2_arcOfWay_16 ?_
      refine lv_if_lt (tgt := 33) hx hb dX2_arcOfWay_17 (by decide) (fun hc_8 => ?_) (fun hc_8 => ?_)
      · replace h := h.1 hc_8
        exact ih_JJ_4 h _ _ _ hP hD hS (lv_sub hl [1, 2] rfl)
      · replace h := h.2 hc_8
        refine lv_aload_n hx hb dX2_arcOfWay_20 rfl (lv_at hl 2 rfl) ?_
        refine va_get (D := (dC, dI)) (ci := 2) (v := .ref (a 8)) (C := RX2) (T := TX2) (N := 8) hx hb hts hin_X2 hown hK hP 0 rfl rfl 7 (by decide) lk_1 (fun _ h9 => h9) rfl dX2_arcOfWay_21 ?_
        refine lv_iload_n hx hb dX2_arcOfWay_24 rfl (lv_at hl 1 rfl) ?_
        obtain ⟨hi_9, h⟩ := h
        refine va_iald (D := (dC, dI)) (cl := vwCl) (i := v3_3) hx hb hK hP 6 5 rfl rfl hi_9 dX2_arcOfWay_25 ?_
        refine lv_istore_n (lv' := [(3, .int (u.2.1 7 v3_3.toNatClampNeg)), (4, .int v4_2), (0, .ref (a 0)), (2, .int x2)]) hx hb dX2_arcOfWay_26 rfl hl (by decide) rfl (fun ls hl => ?_)
        refine lv_iinc (v := (v4_2 + 1)) (lv' := [(4, .int (v4_2 + 1)), (3, .int (u.2.1 7 v3_3.toNatClampNeg)), (0, .ref (a 0)), (2, .int x2)]) hx hb dX2_arcOfWay_27 hl (k := 1) rfl rfl (by decide) rfl (fun ls hl => ?_)
        refine lv_goto (tgt := 5) hx hb dX2_arcOfWay_30 (by decide) ?_
        exact ih_LL_1 _ _ h _ _ _ hP hD hS (lv_sub hl [0, 1, 2, 3] rfl)
abbrev rm_X5_add : Room := { frames := 0, cells := 0, slots := 0, locals := 0 }
set_option maxHeartbeats 4000000 in
set_option maxRecDepth 100000 in
theorem c_X5_add (l : Launch) (dC : Nat → ClassId) (dI : Nat → Nat → Nat) (a : Nat → Nat) (ca : Nat → ClassId) (sz : Nat) (u : Ob) (x1 : Int32) (x2 : Int32) (x3 : Int32) (post : Ob → Prop) (h : wp_X5_add u x1 x2 x3 post) : Met l yX5_add wsX5_add rm_X5_add (va_Pc [.ref (a 0), .int x1, .int x2, .int x3] (fun U => U.heap.size = sz ∧ va_P (dC, dI) vwCl (wd_X5 a ca u) U.heap ∧ va_K (dC, dI) vwCl (ty_X5 ca) U ∧ va_D (fun _ => True) (wd_X5 a ca u))) (va_Qv post (fun (zz : Ob) (t : State) => va_P (dC, dI) vwCl (wd_X5 a ca zz) t.heap ∧ va_D (va_A (wd_X5 a ca u) sz) (wd_X5 a ca zz)) (va_A (wd_X5 a ca u) sz)) 0 0 (va_A (wd_X5 a ca u) sz) := by
  refine fl_ofW (cc := cX5_add) (maxL := 7) (ret := none) (by decide) rfl ?_
  intro p e s m args below meth c s₁ Q B hml hv hQ
  obtain ⟨hargs, hsz, hP, hK, hD0⟩ := hv
  have hx := B.exec
  have hb := B.bytes
  have hr := B.returns
  have hts := atoms_spec (ws := wsX5_add) B.pre
  have hown : s.vm.findClass RX5 = some m.cls := findClass_of_methodNamed B.named
  subst hsz
  have hD := hD0.self (sz := s.heap.size)
  generalize hAe : va_A (wd_X5 a ca u) s.heap.size = A at hD hQ
  have hA : ∀ q : Nat, s.heap.size ≤ q → A q := fun q h => by rw [← hAe]; exact Or.inr h
  have hS : va_S A s.heap s.heap [] := va_S.rf
  have hl := lv_entry ([.ref (a 0), .int x1, .int x2, .int x3]) (n := 7) (Nat.le_of_ble_eq_true rfl)
  refine W.eq (g2 := F0 m 0 ((lg_sl ([.ref (a 0), .int x1, .int x2, .int x3]) ++ List.replicate (7 - (lg_sl ([.ref (a 0), .int x1, .int x2, .int x3])).length) Slot.unset).toArray) []) (by rw [hargs]; exact lg_entry_eq m _ 7) ?_
  generalize (lg_sl ([.ref (a 0), .int x1, .int x2, .int x3]) ++ List.replicate (7 - (lg_sl ([.ref (a 0), .int x1, .int x2, .int x3])).length) Slot.unset).toArray = ls at hl ⊢
  have hl : lv_has ls 7 [(0, .ref (a 0)), (1, .int x1), (2, .int x2), (3, .int x3)] := hl
  suffices hstart : ∀ (H : Heap) (locs : List Loc) (ls : Array Slot), va_P (dC, dI) vwCl (wd_X5 a ca u) H → va_D A (wd_X5 a ca u) → va_S A s.heap H locs → lv_has ls 7 [(0, .ref (a 0)), (1, .int x1), (2, .int x2), (3, .int x3)] → W p l e (headSpec wsX5_add rm_X5_add).room s m args below meth c H locs 0 0 Q (F0 m 0 ls []) from hstart _ _ _ hP hD hS hl
  clear hS hP hD hD0
  intro H locs ls hP hD hS hl
  have hin_X5 : ∀ w ∈ wsX50, w ∈ wsX5_add := by decide +kernel
  have lk_0 := hts (.fieldLink RX5 11 "ForgettingLines$Walk" "seen" "[J") (by decide +kernel)
  have lk_1 := hts (.fieldLink RX5 25 "ForgettingLines$Walk" "tail" "I") (by decide +kernel)
  have lk_2 := hts (.fieldLink RX5 15 "ForgettingLines$Walk" "queue" "[I") (by decide +kernel)
  unfold wp_X5_add at h
  refine lv_iload_n hx hb dX5_add_0 rfl (lv_at hl 1 rfl) ?_
  refine lv_bipush (v := 6) hx hb dX5_add_1 (by decide) ?_
  refine lv_ishl hx hb dX5_add_3 ?_
  refine lv_iload_n hx hb dX5_add_4 rfl (lv_at hl 2 rfl) ?_
  refine lv_ior hx hb dX5_add_5 ?_
  refine lv_bipush (v := 6) hx hb dX5_add_6 (by decide) ?_
  refine lv_ishl hx hb dX5_add_8 ?_
  refine lv_iload_n hx hb dX5_add_9 rfl (lv_at hl 3 rfl) ?_
  refine lv_ior hx hb dX5_add_10 ?_
  refine lv_istore (lv' := [(4, .int ((((x1 <<< ((6 : Int32) &&& 31)) ||| x2) <<< ((6 : Int32) &&& 31)) ||| x3)), (0, .ref (a 0)), (1, .int x1), (2, .int x2), (3, .int x3)]) hx hb dX5_add_11 hl (by decide) rfl (fun ls hl => ?_)
  refine lv_lconst (v := 1) hx hb dX5_add_13 (by decide) ?_
  refine lv_iload hx hb dX5_add_14 (lv_at hl 0 rfl) ?_
  refine lv_bipush (v := 63) hx hb dX5_add_16 (by decide) ?_
  refine lv_iand hx hb dX5_add_18 ?_
  refine lv_lshl (v := (j_lshl 1 (((((x1 <<< ((6 : Int32) &&& 31)) ||| x2) <<< ((6 : Int32) &&& 31)) ||| x3) &&& 63))) hx hb dX5_add_19 rfl ?_
  refine lv_lstore (lv' := [(5, .long (j_lshl 1 (((((x1 <<< ((6 : Int32) &&& 31)) ||| x2) <<< ((6 : Int32) &&& 31)) ||| x3) &&& 63))), (4, .int ((((x1 <<< ((6 : Int32) &&& 31)) ||| x2) <<< ((6 : Int32) &&& 31)) ||| x3)), (0, .ref (a 0)), (1, .int x1), (2, .int x2), (3, .int x3)]) hx hb dX5_add_20 hl (by decide) rfl (fun ls hl => ?_)
  refine lv_aload_n hx hb dX5_add_22 rfl (lv_at hl 2 rfl) ?_
  refine va_get (D := (dC, dI)) (ci := 5) (v := .ref (a 1)) (C := RX5) (T := TX5) (N := 3) hx hb hts hin_X5 hown hK hP 0 rfl rfl 0 (by decide) lk_0 (fun _ h9 => h9) rfl dX5_add_23 ?_
  refine lv_iload hx hb dX5_add_26 (lv_at hl 1 rfl) ?_
  refine lv_bipush (v := 6) hx hb dX5_add_28 (by decide) ?_
  refine lv_ishr hx hb dX5_add_30 ?_
  obtain ⟨hi_1, h⟩ := h
  refine va_lald (D := (dC, dI)) (cl := vwCl) (i := (((((x1 <<< ((6 : Int32) &&& 31)) ||| x2) <<< ((6 : Int32) &&& 31)) ||| x3) >>> ((6 : Int32) &&& 31))) hx hb hK hP 1 0 rfl rfl hi_1 dX5_add_31 ?_
  refine lv_lload hx hb dX5_add_32 (lv_at hl 0 rfl) ?_
  refine lv_land hx hb dX5_add_34 ?_
  refine lv_lconst (v := 0) hx hb dX5_add_35 (by decide) ?_
  refine W.lcmp hx hb dX5_add_36 ?_
  refine lv_if_ne (tgt := 86) hx hb dX5_add_37 (by decide) (fun hc_2 => ?_) (fun hc_2 => ?_)
  · replace h := h.1 hc_2
    subst hQ
    exact W.vret hx hb hr (fun t ht hW => ⟨⟨u, rfl, h, by rw [ht]; exact hP, hD⟩, hS.F ht⟩) hS.2.2 dX5_add_86
  · replace h := h.2 hc_2
    refine lv_aload_n hx hb dX5_add_40 rfl (lv_at hl 2 rfl) ?_
    refine va_get (D := (dC, dI)) (ci := 5) (v := .int (u.1 2)) (C := RX5) (T := TX5) (N := 3) hx hb hts hin_X5 hown hK hP 0 rfl rfl 2 (by decide) lk_1 (fun _ h9 => h9) rfl dX5_add_41 ?_
    refine lv_sipush (v := 12800) hx hb dX5_add_44 (by decide) ?_
    refine lv_icmp_ge (tgt := 86) hx hb dX5_add_47 (by decide) (fun hc_3 => ?_) (fun hc_3 => ?_)
    · replace h := h.1 hc_3
      subst hQ
      exact W.vret hx hb hr (fun t ht hW => ⟨⟨u, rfl, h, by rw [ht]; exact hP, hD⟩, hS.F ht⟩) hS.2.2 dX5_add_86
    · replace h := h.2 hc_3
      refine lv_aload_n hx hb dX5_add_50 rfl (lv_at hl 2 rfl) ?_
      refine va_get (D := (dC, dI)) (ci := 5) (v := .ref (a 1)) (C := RX5) (T := TX5) (N := 3) hx hb hts hin_X5 hown hK hP 0 rfl rfl 0 (by decide) lk_0 (fun _ h9 => h9) rfl dX5_add_51 ?_
      refine lv_iload hx hb dX5_add_54 (lv_at hl 1 rfl) ?_
      refine lv_bipush (v := 6) hx hb dX5_add_56 (by decide) ?_
      refine lv_ishr hx hb dX5_add_58 ?_
      refine lv_dup2_11 hx hb dX5_add_59 rfl rfl ?_
      obtain ⟨hi_4, h⟩ := h
      refine va_lald (D := (dC, dI)) (cl := vwCl) (i := (((((x1 <<< ((6 : Int32) &&& 31)) ||| x2) <<< ((6 : Int32) &&& 31)) ||| x3) >>> ((6 : Int32) &&& 31))) hx hb hK hP 1 0 rfl rfl hi_4 dX5_add_60 ?_
      refine lv_lload hx hb dX5_add_61 (lv_at hl 0 rfl) ?_
      refine lv_lor hx hb dX5_add_63 ?_
      obtain ⟨hi_5, h⟩ := h
      refine va_last (D := (dC, dI)) (cl := vwCl) (i := (((((x1 <<< ((6 : Int32) &&& 31)) ||| x2) <<< ((6 : Int32) &&& 31)) ||| x3) >>> ((6 : Int32) &&& 31))) hx hb hK hP hD hS 1 0 rfl rfl hi_5 dX5_add_64 (fun H locs hP hD hS => ?_)
      obtain ⟨u_6, eu_6⟩ : ∃ z : Ob, z = fs_l u 0 (vp_updL (u.2.2 0) (((((x1 <<< ((6 : Int32) &&& 31)) ||| x2) <<< ((6 : Int32) &&& 31)) ||| x3) >>> ((6 : Int32) &&& 31)).toNatClampNeg ((u.2.2 0 (((((x1 <<< ((6 : Int32) &&& 31)) ||| x2) <<< ((6 : Int32) &&& 31)) ||| x3) >>> ((6 : Int32) &&& 31)).toNatClampNeg) ||| (j_lshl 1 (((((x1 <<< ((6 : Int32) &&& 31)) ||| x2) <<< ((6 : Int32) &&& 31)) ||| x3) &&& 63)))) := ⟨_, rfl⟩
      replace h := h u_6 eu_6
      replace hP : va_P (dC, dI) vwCl (wd_X5 a ca u_6) H := by rw [eu_6]; exact hP
      replace hD : va_D A (wd_X5 a ca u_6) := by rw [eu_6]; exact hD
      refine lv_aload_n hx hb dX5_add_65 rfl (lv_at hl 2 rfl) ?_
      refine va_get (D := (dC, dI)) (ci := 5) (v := .ref (a 2)) (C := RX5) (T := TX5) (N := 3) hx hb hts hin_X5 hown hK hP 0 rfl rfl 1 (by decide) lk_2 (fun _ h9 => h9) rfl dX5_add_66 ?_
      refine lv_aload_n hx hb dX5_add_69 rfl (lv_at hl 2 rfl) ?_
      refine va_get (D := (dC, dI)) (ci := 5) (v := .int (u_6.1 2)) (C := RX5) (T := TX5) (N := 3) hx hb hts hin_X5 hown hK hP 0 rfl rfl 2 (by decide) lk_1 (fun _ h9 => h9) rfl dX5_add_70 ?_
      refine lv_iload hx hb dX5_add_73 (lv_at hl 1 rfl) ?_
      obtain ⟨hi_7, h⟩ := h
      refine va_iast (D := (dC, dI)) (cl := vwCl) (i := (u_6.1 2)) hx hb hK hP hD hS 2 1 rfl rfl hi_7 dX5_add_75 (fun H locs hP hD hS => ?_)
      obtain ⟨u_8, eu_8⟩ : ∃ z : Ob, z = fs_a u_6 1 (upd (u_6.2.1 1) (u_6.1 2).toNatClampNeg ((((x1 <<< ((6 : Int32) &&& 31)) ||| x2) <<< ((6 : Int32) &&& 31)) ||| x3)) := ⟨_, rfl⟩
      replace h := h u_8 eu_8
      replace hP : va_P (dC, dI) vwCl (wd_X5 a ca u_8) H := by rw [eu_8]; exact hP
      replace hD : va_D A (wd_X5 a ca u_8) := by rw [eu_8]; exact hD
      refine lv_aload_n hx hb dX5_add_76 rfl (lv_at hl 2 rfl) ?_
      refine lv_dup hx hb dX5_add_77 rfl ?_
      refine va_get (D := (dC, dI)) (ci := 5) (v := .int (u_8.1 2)) (C := RX5) (T := TX5) (N := 3) hx hb hts hin_X5 hown hK hP 0 rfl rfl 2 (by decide) lk_1 (fun _ h9 => h9) rfl dX5_add_78 ?_
      refine lv_iconst (v := 1) hx hb dX5_add_81 (by decide) ?_
      refine lv_iadd hx hb dX5_add_82 ?_
      refine va_put (D := (dC, dI)) (ci := 5) (v := .int ((u_8.1 2) + 1)) (ty := .int) (C := RX5) (T := TX5) (N := 3) hx hb hts hin_X5 tyX5 tyX5_ok nmX5 hown hK hP hD hS 0 rfl rfl 2 (by decide) lk_1 (fun _ h9 => h9) rfl (by decide +kernel) rfl rfl (Nat.le_of_ble_eq_true rfl) dX5_add_83 (fun H locs hP hD hS => ?_)
      obtain ⟨u_9, eu_9⟩ : ∃ z : Ob, z = fs_i u_8 2 ((u_8.1 2) + 1) := ⟨_, rfl⟩
      replace h := h u_9 eu_9
      replace hP : va_P (dC, dI) vwCl (wd_X5 a ca u_9) H := by rw [eu_9]; exact hP
      replace hD : va_D A (wd_X5 a ca u_9) := by rw [eu_9]; exact hD
      subst hQ
      exact W.vret hx hb hr (fun t ht hW => ⟨⟨u_9, rfl, h, by rw [ht]; exact hP, hD⟩, hS.F ht⟩) hS.2.2 dX5_add_86
abbrev rm_X5_stateOf : Room := { frames := 0, cells := 0, slots := 0, locals := 0 }
set_option maxHeartbeats 4000000 in
set_option maxRecDepth 100000 in
theorem c_X5_stateOf (l : Launch) (sz : Nat) (x1 : Int32) (post : Int32 → Prop) (h : wp_X5_stateOf x1 post) : Met l yX5_stateOf wsX5_stateOf rm_X5_stateOf (va_Pc [.int x1] (fun U => U.heap.size = sz)) (va_Qi (fun (rr : Int32) (_ : Unit) => post rr) (fun (_ : Unit) (_ : State) => True) (va_A [] sz)) 0 0 (va_A [] sz) := by
  refine fl_ofW (cc := cX5_stateOf) (maxL := 1) (ret := (some .int)) (by decide) rfl ?_
  intro p e s m args below meth c s₁ Q B hml hv hQ
  obtain ⟨hargs, hsz⟩ := hv
  have hx := B.exec
  have hb := B.bytes
  have hr := B.returns
  have hts := atoms_spec (ws := wsX5_stateOf) B.pre
  have hown : s.vm.findClass RX5 = some m.cls := findClass_of_methodNamed B.named
  subst hsz
  generalize hAe : va_A [] s.heap.size = A at hQ
  have hA : ∀ q : Nat, s.heap.size ≤ q → A q := fun q h => by rw [← hAe]; exact Or.inr h
  have hS : va_S A s.heap s.heap [] := va_S.rf
  have hl := lv_entry ([.int x1]) (n := 1) (Nat.le_of_ble_eq_true rfl)
  refine W.eq (g2 := F0 m 0 ((lg_sl ([.int x1]) ++ List.replicate (1 - (lg_sl ([.int x1])).length) Slot.unset).toArray) []) (by rw [hargs]; exact lg_entry_eq m _ 1) ?_
  generalize (lg_sl ([.int x1]) ++ List.replicate (1 - (lg_sl ([.int x1])).length) Slot.unset).toArray = ls at hl ⊢
  have hl : lv_has ls 1 [(0, .int x1)] := hl
  suffices hstart : ∀ (H : Heap) (locs : List Loc) (ls : Array Slot), va_S A s.heap H locs → lv_has ls 1 [(0, .int x1)] → W p l e (headSpec wsX5_stateOf rm_X5_stateOf).room s m args below meth c H locs 0 0 Q (F0 m 0 ls []) from hstart _ _ _ hS hl
  clear hS
  intro H locs ls hS hl
  unfold wp_X5_stateOf at h
  refine lv_iload_n hx hb dX5_stateOf_0 rfl (lv_at hl 0 rfl) ?_
  refine lv_bipush (v := 12) hx hb dX5_stateOf_1 (by decide) ?_
  refine lv_ishr hx hb dX5_stateOf_3 ?_
  subst hQ
  exact W.iret (v := (x1 >>> ((12 : Int32) &&& 31))) hx hb hr (fun t ht hW => ⟨⟨_, (), rfl, h, trivial⟩, hS.F ht⟩) hS.2.2 dX5_stateOf_4
abbrev rm_X5_wordOf : Room := { frames := 0, cells := 0, slots := 0, locals := 0 }
set_option maxHeartbeats 4000000 in
set_option maxRecDepth 100000 in
theorem c_X5_wordOf (l : Launch) (sz : Nat) (x1 : Int32) (x2 : Int32) (post : Int32 → Prop) (h : wp_X5_wordOf x1 x2 post) : Met l yX5_wordOf wsX5_wordOf rm_X5_wordOf (va_Pc [.int x1, .int x2] (fun U => U.heap.size = sz)) (va_Qi (fun (rr : Int32) (_ : Unit) => post rr) (fun (_ : Unit) (_ : State) => True) (va_A [] sz)) 0 0 (va_A [] sz) := by
  refine fl_ofW (cc := cX5_wordOf) (maxL := 2) (ret := (some .int)) (by decide) rfl ?_
  intro p e s m args below meth c s₁ Q B hml hv hQ
  obtain ⟨hargs, hsz⟩ := hv
  have hx := B.exec
  have hb := B.bytes
  have hr := B.returns
  have hts := atoms_spec (ws := wsX5_wordOf) B.pre
  have hown : s.vm.findClass RX5 = some m.cls := findClass_of_methodNamed B.named
  subst hsz
  generalize hAe : va_A [] s.heap.size = A at hQ
  have hA : ∀ q : Nat, s.heap.size ≤ q → A q := fun q h => by rw [← hAe]; exact Or.inr h
  have hS : va_S A s.heap s.heap [] := va_S.rf
  have hl := lv_entry ([.int x1, .int x2]) (n := 2) (Nat.le_of_ble_eq_true rfl)
  refine W.eq (g2 := F0 m 0 ((lg_sl ([.int x1, .int x2]) ++ List.replicate (2 - (lg_sl ([.int x1, .int x2])).length) Slot.unset).toArray) []) (by rw [hargs]; exact lg_entry_eq m _ 2) ?_
  generalize (lg_sl ([.int x1, .int x2]) ++ List.replicate (2 - (lg_sl ([.int x1, .int x2])).length) Slot.unset).toArray = ls at hl ⊢
  have hl : lv_has ls 2 [(0, .int x1), (1, .int x2)] := hl
  suffices hstart : ∀ (H : Heap) (locs : List Loc) (ls : Array Slot), va_S A s.heap H locs → lv_has ls 2 [(0, .int x1), (1, .int x2)] → W p l e (headSpec wsX5_wordOf rm_X5_wordOf).room s m args below meth c H locs 0 0 Q (F0 m 0 ls []) from hstart _ _ _ hS hl
  clear hS
  intro H locs ls hS hl
  unfold wp_X5_wordOf at h
  refine lv_iload_n hx hb dX5_wordOf_0 rfl (lv_at hl 1 rfl) ?_
  refine lv_if_ne (tgt := 11) hx hb dX5_wordOf_1 (by decide) (fun hc_1 => ?_) (fun hc_1 => ?_)
  · replace h := h.1 hc_1
    refine lv_iload_n hx hb dX5_wordOf_11 rfl (lv_at hl 0 rfl) ?_
    refine lv_bipush (v := 63) hx hb dX5_wordOf_12 (by decide) ?_
    refine lv_iand hx hb dX5_wordOf_14 ?_
    subst hQ
    exact W.iret (v := (x1 &&& 63)) hx hb hr (fun t ht hW => ⟨⟨_, (), rfl, h, trivial⟩, hS.F ht⟩) hS.2.2 dX5_wordOf_15
  · replace h := h.2 hc_1
    refine lv_iload_n hx hb dX5_wordOf_4 rfl (lv_at hl 0 rfl) ?_
    refine lv_bipush (v := 6) hx hb dX5_wordOf_5 (by decide) ?_
    refine lv_ishr hx hb dX5_wordOf_7 ?_
    refine lv_goto (tgt := 12) hx hb dX5_wordOf_8 (by decide) ?_
    refine lv_bipush (v := 63) hx hb dX5_wordOf_12 (by decide) ?_
    refine lv_iand hx hb dX5_wordOf_14 ?_
    subst hQ
    exact W.iret (v := ((x1 >>> ((6 : Int32) &&& 31)) &&& 63)) hx hb hr (fun t ht hW => ⟨⟨_, (), rfl, h, trivial⟩, hS.F ht⟩) hS.2.2 dX5_wordOf_15
abbrev rm_X5_isAimed : Room := { frames := 1, cells := 0, slots := 0, locals := 24 }
set_option maxHeartbeats 4000000 in
set_option maxRecDepth 100000 in
theorem c_X5_isAimed (l : Launch) (dC : Nat → ClassId) (dI : Nat → Nat → Nat) (a1 : Nat → Nat) (ca1 : Nat → ClassId) (sz : Nat) (u1 : Ob) (x1 : Int32) (post : Int32 → Prop) (h : wp_X5_isAimed u1 x1 post) : Met l yX5_isAimed wsX5_isAimed rm_X5_isAimed (va_Pc [.int x1, .ref (a1 0)] (fun U => U.heap.size = sz ∧ va_P (dC, dI) vwCl (wd_X1 a1 ca1 u1) U.heap ∧ va_K (dC, dI) vwCl (ty_X1 ca1) U ∧ va_D (fun _ => True) (wd_X1 a1 ca1 u1))) (va_Qi (fun (rr : Int32) (_ : Unit) => post rr) (fun (zz : Unit) (t : State) => va_P (dC, dI) vwCl (wd_X1 a1 ca1 u1) t.heap ∧ va_D (va_A (wd_X1 a1 ca1 u1) sz) (wd_X1 a1 ca1 u1)) (va_A (wd_X1 a1 ca1 u1) sz)) 0 0 (va_A (wd_X1 a1 ca1 u1) sz) := by
  refine fl_ofW (cc := cX5_isAimed) (maxL := 2) (ret := (some .boolean)) (by decide) rfl ?_
  intro p e s m args below meth c s₁ Q B hml hv hQ
  obtain ⟨hargs, hsz, hP, hK, hD0⟩ := hv
  have hx := B.exec
  have hb := B.bytes
  have hr := B.returns
  have hts := atoms_spec (ws := wsX5_isAimed) B.pre
  have hown : s.vm.findClass RX5 = some m.cls := findClass_of_methodNamed B.named
  subst hsz
  have hD := hD0.self (sz := s.heap.size)
  generalize hAe : va_A (wd_X1 a1 ca1 u1) s.heap.size = A at hD hQ
  have hA : ∀ q : Nat, s.heap.size ≤ q → A q := fun q h => by rw [← hAe]; exact Or.inr h
  have hS : va_S A s.heap s.heap [] := va_S.rf
  have hl := lv_entry ([.int x1, .ref (a1 0)]) (n := 2) (Nat.le_of_ble_eq_true rfl)
  refine W.eq (g2 := F0 m 0 ((lg_sl ([.int x1, .ref (a1 0)]) ++ List.replicate (2 - (lg_sl ([.int x1, .ref (a1 0)])).length) Slot.unset).toArray) []) (by rw [hargs]; exact lg_entry_eq m _ 2) ?_
  generalize (lg_sl ([.int x1, .ref (a1 0)]) ++ List.replicate (2 - (lg_sl ([.int x1, .ref (a1 0)])).length) Slot.unset).toArray = ls at hl ⊢
  have hl : lv_has ls 2 [(0, .int x1), (1, .ref (a1 0))] := hl
  suffices hstart : ∀ (H : Heap) (locs : List Loc) (ls : Array Slot), va_P (dC, dI) vwCl (wd_X1 a1 ca1 u1) H → va_D A (wd_X1 a1 ca1 u1) → va_S A s.heap H locs → lv_has ls 2 [(0, .int x1), (1, .ref (a1 0))] → W p l e (headSpec wsX5_isAimed rm_X5_isAimed).room s m args below meth c H locs 0 0 Q (F0 m 0 ls []) from hstart _ _ _ hP hD hS hl
  clear hS hP hD hD0
  intro H locs ls hP hD hS hl
  have hin_X1 : ∀ w ∈ wsX10, w ∈ wsX5_isAimed := by decide +kernel
  have lk_0 := hts (.fieldLink RX5 29 "ForgettingLines$Place" "state" "I") (by decide +kernel)
  have lk_1 := hts (.fieldLink RX5 34 "ForgettingLines$Place" "words" "[I") (by decide +kernel)
  unfold wp_X5_isAimed at h
  refine lv_iload_n hx hb dX5_isAimed_0 rfl (lv_at hl 0 rfl) ?_
  have hFc := fl_freeN hS hA
  refine va_calli (va_runS (As := [.int x1]) (rest := []) ⟨hx, hb, hml, hown, hts⟩ (c_X5_stateOf l H.size x1 _ h) (va_cwS 1 hts gX5_isAimed_X5_stateOf rfl rfl rfl (by decide +kernel) ⟨Nat.le_of_ble_eq_true rfl, Nat.le_of_ble_eq_true rfl⟩) ⟨fun a U g mk q => by obtain ⟨q0, q1⟩ := q; exact ⟨q0, q1⟩, fun U hU hW => ⟨rfl, congrArg Array.size hU⟩⟩ rfl rfl hl.1 rfl (lv_room (Nat.le_of_ble_eq_true rfl)) dX5_isAimed_1 ⟨Nat.zero_le _, Nat.zero_le _⟩) hS (fun q _ h => hFc q h) hFc (fun r_1 zz t H1 locs ht hvm hw hB hz1 hk1 hS => ?_)
  replace hP := fl_keep hP hk1
  replace h := hw
  generalize H1 = H at hP hS ⊢
  refine lv_aload_n hx hb dX5_isAimed_4 rfl (lv_at hl 1 rfl) ?_
  refine va_get (D := (dC, dI)) (ci := 1) (v := .int (u1.1 0)) (C := RX1) (T := TX1) (N := 2) hx hb hts hin_X1 hown hK hP 0 rfl rfl 0 (by decide) lk_0 (fun _ h9 => h9) rfl dX5_isAimed_5 ?_
  refine lv_icmp_ne (tgt := 49) hx hb dX5_isAimed_8 (by decide) (fun hc_2 => ?_) (fun hc_2 => ?_)
  · replace h := h.1 hc_2
    refine lv_iconst (v := 0) hx hb dX5_isAimed_49 (by decide) ?_
    subst hQ
    exact W.zret (v := 0) hx hb hr (by rfl) (fun t ht hW => ⟨⟨_, (), rfl, h, by rw [ht]; exact hP, hD⟩, hS.F ht⟩) hS.2.2 dX5_isAimed_50
  · replace h := h.2 hc_2
    refine lv_aload_n hx hb dX5_isAimed_11 rfl (lv_at hl 1 rfl) ?_
    refine va_get (D := (dC, dI)) (ci := 1) (v := .ref (a1 2)) (C := RX1) (T := TX1) (N := 2) hx hb hts hin_X1 hown hK hP 0 rfl rfl 1 (by decide) lk_1 (fun _ h9 => h9) rfl dX5_isAimed_12 ?_
    refine lv_iconst (v := 0) hx hb dX5_isAimed_15 (by decide) ?_
    obtain ⟨hi_3, h⟩ := h
    refine va_iald (D := (dC, dI)) (cl := vwCl) (i := 0) hx hb hK hP 1 0 rfl rfl hi_3 dX5_isAimed_16 ?_
    refine lv_iload_n hx hb dX5_isAimed_17 rfl (lv_at hl 0 rfl) ?_
    refine lv_iconst (v := 0) hx hb dX5_isAimed_18 (by decide) ?_
    have hFc := fl_freeN hS hA
    refine va_calli (va_runS (As := [.int x1, .int 0]) (rest := [.int (u1.2.1 1 (0 : Int32).toNatClampNeg)]) ⟨hx, hb, hml, hown, hts⟩ (c_X5_wordOf l H.size x1 0 _ h) (va_cwS 2 hts gX5_isAimed_X5_wordOf rfl rfl rfl (by decide +kernel) ⟨Nat.le_of_ble_eq_true rfl, Nat.le_of_ble_eq_true rfl⟩) ⟨fun a U g mk q => by obtain ⟨q0, q1⟩ := q; exact ⟨q0, q1⟩, fun U hU hW => ⟨rfl, congrArg Array.size hU⟩⟩ rfl rfl hl.1 rfl (lv_room (Nat.le_of_ble_eq_true rfl)) dX5_isAimed_19 ⟨Nat.zero_le _, Nat.zero_le _⟩) hS (fun q _ h => hFc q h) hFc (fun r_4 zz t H1 locs ht hvm hw hB hz1 hk1 hS => ?_)
    replace hP := fl_keep hP hk1
    replace h := hw
    generalize H1 = H at hP hS ⊢
    have hFc := fl_freeN hS hA
    refine va_calli (va_runS (As := [.int (u1.2.1 1 (0 : Int32).toNatClampNeg), .int r_4]) (rest := []) ⟨hx, hb, hml, hown, hts⟩ (c_X6_isIn l H.size (u1.2.1 1 (0 : Int32).toNatClampNeg) r_4 _ h) (va_cwS 2 hts gX5_isAimed_X6_isIn rfl rfl rfl (by decide +kernel) ⟨Nat.le_of_ble_eq_true rfl, Nat.le_of_ble_eq_true rfl⟩) ⟨fun a U g mk q => by obtain ⟨q0, q1⟩ := q; exact ⟨q0, q1⟩, fun U hU hW => ⟨rfl, congrArg Array.size hU⟩⟩ rfl rfl hl.1 rfl (lv_room (Nat.le_of_ble_eq_true rfl)) dX5_isAimed_22 ⟨Nat.zero_le _, Nat.zero_le _⟩) hS (fun q _ h => hFc q h) hFc (fun r_5 zz t H1 locs ht hvm hw hB hz1 hk1 hS => ?_)
    replace hP := fl_keep hP hk1
    replace h := hw
    generalize H1 = H at hP hS ⊢
    refine lv_if_eq (tgt := 49) hx hb dX5_isAimed_25 (by decide) (fun hc_6 => ?_) (fun hc_6 => ?_)
    · replace h := h.1 hc_6
      refine lv_iconst (v := 0) hx hb dX5_isAimed_49 (by decide) ?_
      subst hQ
      exact W.zret (v := 0) hx hb hr (by rfl) (fun t ht hW => ⟨⟨_, (), rfl, h, by rw [ht]; exact hP, hD⟩, hS.F ht⟩) hS.2.2 dX5_isAimed_50
    · replace h := h.2 hc_6
      refine lv_aload_n hx hb dX5_isAimed_28 rfl (lv_at hl 1 rfl) ?_
      refine va_get (D := (dC, dI)) (ci := 1) (v := .ref (a1 2)) (C := RX1) (T := TX1) (N := 2) hx hb hts hin_X1 hown hK hP 0 rfl rfl 1 (by decide) lk_1 (fun _ h9 => h9) rfl dX5_isAimed_29 ?_
      refine lv_iconst (v := 1) hx hb dX5_isAimed_32 (by decide) ?_
      obtain ⟨hi_7, h⟩ := h
      refine va_iald (D := (dC, dI)) (cl := vwCl) (i := 1) hx hb hK hP 1 0 rfl rfl hi_7 dX5_isAimed_33 ?_
      refine lv_iload_n hx hb dX5_isAimed_34 rfl (lv_at hl 0 rfl) ?_
      refine lv_iconst (v := 1) hx hb dX5_isAimed_35 (by decide) ?_
      have hFc := fl_freeN hS hA
      refine va_calli (va_runS (As := [.int x1, .int 1]) (rest := [.int (u1.2.1 1 (1 : Int32).toNatClampNeg)]) ⟨hx, hb, hml, hown, hts⟩ (c_X5_wordOf l H.size x1 1 _ h) (va_cwS 2 hts gX5_isAimed_X5_wordOf rfl rfl rfl (by decide +kernel) ⟨Nat.le_of_ble_eq_true rfl, Nat.le_of_ble_eq_true rfl⟩) ⟨fun a U g mk q => by obtain ⟨q0, q1⟩ := q; exact ⟨q0, q1⟩, fun U hU hW => ⟨rfl, congrArg Array.size hU⟩⟩ rfl rfl hl.1 rfl (lv_room (Nat.le_of_ble_eq_true rfl)) dX5_isAimed_36 ⟨Nat.zero_le _, Nat.zero_le _⟩) hS (fun q _ h => hFc q h) hFc (fun r_8 zz t H1 locs ht hvm hw hB hz1 hk1 hS => ?_)
      replace hP := fl_keep hP hk1
      replace h := hw
      generalize H1 = H at hP hS ⊢
      have hFc := fl_freeN hS hA
      refine va_calli (va_runS (As := [.int (u1.2.1 1 (1 : Int32).toNatClampNeg), .int r_8]) (rest := []) ⟨hx, hb, hml, hown, hts⟩ (c_X6_isIn l H.size (u1.2.1 1 (1 : Int32).toNatClampNeg) r_8 _ h) (va_cwS 2 hts gX5_isAimed_X6_isIn rfl rfl rfl (by decide +kernel) ⟨Nat.le_of_ble_eq_true rfl, Nat.le_of_ble_eq_true rfl⟩) ⟨fun a U g mk q => by obtain ⟨q0, q1⟩ := q; exact ⟨q0, q1⟩, fun U hU hW => ⟨rfl, congrArg Array.size hU⟩⟩ rfl rfl hl.1 rfl (lv_room (Nat.le_of_ble_eq_true rfl)) dX5_isAimed_39 ⟨Nat.zero_le _, Nat.zero_le _⟩) hS (fun q _ h => hFc q h) hFc (fun r_9 zz t H1 locs ht hvm hw hB hz1 hk1 hS => ?_)
      replace hP := fl_keep hP hk1
      replace h := hw
      generalize H1 = H at hP hS ⊢
      refine lv_if_eq (tgt := 49) hx hb dX5_isAimed_42 (by decide) (fun hc_10 => ?_) (fun hc_10 => ?_)
      · replace h := h.1 hc_10
        refine lv_iconst (v := 0) hx hb dX5_isAimed_49 (by decide) ?_
        subst hQ
        exact W.zret (v := 0) hx hb hr (by rfl) (fun t ht hW => ⟨⟨_, (), rfl, h, by rw [ht]; exact hP, hD⟩, hS.F ht⟩) hS.2.2 dX5_isAimed_50
      · replace h := h.2 hc_10
        refine lv_iconst (v := 1) hx hb dX5_isAimed_45 (by decide) ?_
        refine lv_goto (tgt := 50) hx hb dX5_isAimed_46 (by decide) ?_
        subst hQ
        exact W.zret (v := 1) hx hb hr (by rfl) (fun t ht hW => ⟨⟨_, (), rfl, h, by rw [ht]; exact hP, hD⟩, hS.F ht⟩) hS.2.2 dX5_isAimed_50
abbrev rm_X5_goBy : Room := { frames := 3, cells := 0, slots := 0, locals := 74 }
set_option maxHeartbeats 4000000 in
set_option maxRecDepth 100000 in
theorem c_X5_goBy (l : Launch) (dC : Nat → ClassId) (dI : Nat → Nat → Nat) (a : Nat → Nat) (ca : Nat → ClassId) (a1 : Nat → Nat) (ca1 : Nat → ClassId) (sz : Nat) (u : Ob) (u1 : Ob) (x2 : Int32) (x3 : Int32) (x4 : Int32) (post : Ob → Prop) (h : wp_X5_goBy u u1 x2 x3 x4 post) : Met l yX5_goBy wsX5_goBy rm_X5_goBy (va_Pc [.ref (a 0), .ref (a1 0), .int x2, .int x3, .int x4] (fun U => U.heap.size = sz ∧ va_P (dC, dI) vwCl (wd_X5 a ca u ++ (wd_X0 a1 ca1 u1)) U.heap ∧ va_K (dC, dI) vwCl (ty_X5 ca ++ (ty_X0 ca1)) U ∧ va_D (fun _ => True) (wd_X5 a ca u ++ (wd_X0 a1 ca1 u1)))) (va_Qv post (fun (zz : Ob) (t : State) => va_P (dC, dI) vwCl (wd_X5 a ca zz ++ (wd_X0 a1 ca1 u1)) t.heap ∧ va_D (va_A (wd_X5 a ca u ++ (wd_X0 a1 ca1 u1)) sz) (wd_X5 a ca zz ++ (wd_X0 a1 ca1 u1))) (va_A (wd_X5 a ca u ++ (wd_X0 a1 ca1 u1)) sz)) 0 0 (va_A (wd_X5 a ca u ++ (wd_X0 a1 ca1 u1)) sz) := by
  refine fl_ofW (cc := cX5_goBy) (maxL := 8) (ret := none) (by decide) rfl ?_
  intro p e s m args below meth c s₁ Q B hml hv hQ
  obtain ⟨hargs, hsz, hP, hK, hD0⟩ := hv
  have hx := B.exec
  have hb := B.bytes
  have hr := B.returns
  have hts := atoms_spec (ws := wsX5_goBy) B.pre
  have hown : s.vm.findClass RX5 = some m.cls := findClass_of_methodNamed B.named
  subst hsz
  have hD := hD0.self (sz := s.heap.size)
  generalize hAe : va_A (wd_X5 a ca u ++ (wd_X0 a1 ca1 u1)) s.heap.size = A at hD hQ
  have hA : ∀ q : Nat, s.heap.size ≤ q → A q := fun q h => by rw [← hAe]; exact Or.inr h
  have hS : va_S A s.heap s.heap [] := va_S.rf
  have hl := lv_entry ([.ref (a 0), .ref (a1 0), .int x2, .int x3, .int x4]) (n := 8) (Nat.le_of_ble_eq_true rfl)
  refine W.eq (g2 := F0 m 0 ((lg_sl ([.ref (a 0), .ref (a1 0), .int x2, .int x3, .int x4]) ++ List.replicate (8 - (lg_sl ([.ref (a 0), .ref (a1 0), .int x2, .int x3, .int x4])).length) Slot.unset).toArray) []) (by rw [hargs]; exact lg_entry_eq m _ 8) ?_
  generalize (lg_sl ([.ref (a 0), .ref (a1 0), .int x2, .int x3, .int x4]) ++ List.replicate (8 - (lg_sl ([.ref (a 0), .ref (a1 0), .int x2, .int x3, .int x4])).length) Slot.unset).toArray = ls at hl ⊢
  have hl : lv_has ls 8 [(0, .ref (a 0)), (1, .ref (a1 0)), (2, .int x2), (3, .int x3), (4, .int x4)] := hl
  suffices hstart : ∀ (H : Heap) (locs : List Loc) (ls : Array Slot), va_P (dC, dI) vwCl (wd_X5 a ca u ++ (wd_X0 a1 ca1 u1)) H → va_D A (wd_X5 a ca u ++ (wd_X0 a1 ca1 u1)) → va_S A s.heap H locs → lv_has ls 8 [(0, .ref (a 0)), (1, .ref (a1 0)), (2, .int x2), (3, .int x3), (4, .int x4)] → W p l e (headSpec wsX5_goBy rm_X5_goBy).room s m args below meth c H locs 0 0 Q (F0 m 0 ls []) from hstart _ _ _ hP hD hS hl
  clear hS hP hD hD0
  intro H locs ls hP hD hS hl
  unfold wp_X5_goBy at h
  refine lv_aload_n hx hb dX5_goBy_0 rfl (lv_at hl 1 rfl) ?_
  refine lv_iload_n hx hb dX5_goBy_1 rfl (lv_at hl 2 rfl) ?_
  refine lv_iconst (v := 2) hx hb dX5_goBy_2 (by decide) ?_
  have hPc := hP.sub (ws' := (wd_X0 a1 ca1 u1)) [3, 4, 5] rfl
  have hDc := hD.sub (ws' := (wd_X0 a1 ca1 u1)) [3, 4, 5] (by decide) rfl
  have hKc := hK.sub (tys' := (ty_X0 ca1)) [2, 3] rfl
  have hFc := va_free (wc := (wd_X0 a1 ca1 u1)) hD hS hA [3, 4, 5] rfl
  refine va_calli (va_runV (As := [.int x2, .int 2]) (rest := []) ⟨hx, hb, hml, hown, hts⟩ (c_X0_part l dC dI a1 ca1 H.size u1 x2 2 _ h) (cwV 2 hts gX5_goBy_X0_part rfl rfl rfl (by decide +kernel) ⟨Nat.le_of_ble_eq_true rfl, Nat.le_of_ble_eq_true rfl⟩) ⟨fun a U g mk q => by obtain ⟨q0, q1, qP, qK, qD⟩ := q; exact ⟨q0, q1, qP, va_K.moved (u := U) (U := U.calling g mk a) (Vm.Alike.refl U.vm) qK, qD⟩, va_recv hKc hPc (ci := 0) (q0 := 0) rfl rfl, fun U hU hW => ⟨rfl, by rw [hU], by rw [hU]; exact hPc, va_K.moved hW.alike hKc, hDc.weaken (fun _ _ _ _ => trivial)⟩⟩ rfl rfl hl.1 rfl (lv_room (Nat.le_of_ble_eq_true rfl)) dX5_goBy_3 ⟨Nat.zero_le _, Nat.zero_le _⟩) hS (fun q _ h => hFc q h) hFc (fun r_1 zz t H1 locs ht hvm hw hB hz1 hk1 hS => ?_)
  replace h := hw
  obtain ⟨hP1, hD1⟩ := hB
  rw [ht] at hP1
  obtain ⟨hP, hD⟩ := va_join (wr := [0, 1, 2].filterMap (fun i => (wd_X5 a ca u ++ (wd_X0 a1 ca1 u1))[i]?)) (w1 := (wd_X0 a1 ca1 u1)) hP hD [3, 4, 5] [0, 1, 2] rfl rfl (by decide) (by decide) hk1 hFc hP1 hD1
  replace hP : va_P (dC, dI) vwCl (wd_X5 a ca u ++ (wd_X0 a1 ca1 u1)) H1 := (hP.sub [0, 1, 2, 3, 4, 5] rfl)
  replace hD : va_D A (wd_X5 a ca u ++ (wd_X0 a1 ca1 u1)) := (hD.sub [0, 1, 2, 3, 4, 5] (by decide) rfl)
  generalize H1 = H at hP hS ⊢
  refine lv_istore (lv' := [(5, .int r_1), (0, .ref (a 0)), (1, .ref (a1 0)), (2, .int x2), (3, .int x3), (4, .int x4)]) hx hb dX5_goBy_6 hl (by decide) rfl (fun ls hl => ?_)
  refine lv_aload_n hx hb dX5_goBy_8 rfl (lv_at hl 2 rfl) ?_
  refine lv_iload_n hx hb dX5_goBy_9 rfl (lv_at hl 3 rfl) ?_
  refine lv_iload_n hx hb dX5_goBy_10 rfl (lv_at hl 4 rfl) ?_
  refine lv_iload hx hb dX5_goBy_11 (lv_at hl 0 rfl) ?_
  have hFc := fl_freeN hS hA
  refine va_calli (va_runS (As := [.int x3, .int r_1]) (rest := [.int x2, .ref (a1 0)]) ⟨hx, hb, hml, hown, hts⟩ (c_X5_wordOf l H.size x3 r_1 _ h) (va_cwS 2 hts gX5_goBy_X5_wordOf rfl rfl rfl (by decide +kernel) ⟨Nat.le_of_ble_eq_true rfl, Nat.le_of_ble_eq_true rfl⟩) ⟨fun a U g mk q => by obtain ⟨q0, q1⟩ := q; exact ⟨q0, q1⟩, fun U hU hW => ⟨rfl, congrArg Array.size hU⟩⟩ rfl rfl hl.1 rfl (lv_room (Nat.le_of_ble_eq_true rfl)) dX5_goBy_13 ⟨Nat.zero_le _, Nat.zero_le _⟩) hS (fun q _ h => hFc q h) hFc (fun r_2 zz t H1 locs ht hvm hw hB hz1 hk1 hS => ?_)
  replace hP := fl_keep hP hk1
  replace h := hw
  generalize H1 = H at hP hS ⊢
  have hPc := hP.sub (ws' := (wd_X0 a1 ca1 u1)) [3, 4, 5] rfl
  have hDc := hD.sub (ws' := (wd_X0 a1 ca1 u1)) [3, 4, 5] (by decide) rfl
  have hKc := hK.sub (tys' := (ty_X0 ca1)) [2, 3] rfl
  have hFc := va_free (wc := (wd_X0 a1 ca1 u1)) hD hS hA [3, 4, 5] rfl
  refine va_calli (va_runV (As := [.int x2, .int r_2]) (rest := []) ⟨hx, hb, hml, hown, hts⟩ (c_X0_wordBehind l dC dI a1 ca1 H.size u1 x2 r_2 _ h) (cwV 2 hts gX5_goBy_X0_wordBehind rfl rfl rfl (by decide +kernel) ⟨Nat.le_of_ble_eq_true rfl, Nat.le_of_ble_eq_true rfl⟩) ⟨fun a U g mk q => by obtain ⟨q0, q1, qP, qK, qD⟩ := q; exact ⟨q0, q1, qP, va_K.moved (u := U) (U := U.calling g mk a) (Vm.Alike.refl U.vm) qK, qD⟩, va_recv hKc hPc (ci := 0) (q0 := 0) rfl rfl, fun U hU hW => ⟨rfl, by rw [hU], by rw [hU]; exact hPc, va_K.moved hW.alike hKc, hDc.weaken (fun _ _ _ _ => trivial)⟩⟩ rfl rfl hl.1 rfl (lv_room (Nat.le_of_ble_eq_true rfl)) dX5_goBy_16 ⟨Nat.zero_le _, Nat.zero_le _⟩) hS (fun q _ h => hFc q h) hFc (fun r_3 zz t H1 locs ht hvm hw hB hz1 hk1 hS => ?_)
  replace h := hw
  obtain ⟨hP1, hD1⟩ := hB
  rw [ht] at hP1
  obtain ⟨hP, hD⟩ := va_join (wr := [0, 1, 2].filterMap (fun i => (wd_X5 a ca u ++ (wd_X0 a1 ca1 u1))[i]?)) (w1 := (wd_X0 a1 ca1 u1)) hP hD [3, 4, 5] [0, 1, 2] rfl rfl (by decide) (by decide) hk1 hFc hP1 hD1
  replace hP : va_P (dC, dI) vwCl (wd_X5 a ca u ++ (wd_X0 a1 ca1 u1)) H1 := (hP.sub [0, 1, 2, 3, 4, 5] rfl)
  replace hD : va_D A (wd_X5 a ca u ++ (wd_X0 a1 ca1 u1)) := (hD.sub [0, 1, 2, 3, 4, 5] (by decide) rfl)
  generalize H1 = H at hP hS ⊢
  refine lv_istore (lv' := [(6, .int r_3), (5, .int r_1), (0, .ref (a 0)), (1, .ref (a1 0)), (2, .int x2), (3, .int x3), (4, .int x4)]) hx hb dX5_goBy_19 hl (by decide) rfl (fun ls hl => ?_)
  refine lv_iload hx hb dX5_goBy_21 (lv_at hl 0 rfl) ?_
  refine lv_iconst (v := (-1)) hx hb dX5_goBy_23 (by decide) ?_
  refine lv_icmp_eq (tgt := 37) hx hb dX5_goBy_24 (by decide) (fun hc_4 => ?_) (fun hc_4 => ?_)
  · replace h := h.1 hc_4
    subst hQ
    exact W.vret hx hb hr (fun t ht hW => ⟨⟨u, rfl, h, by rw [ht]; exact hP, hD⟩, hS.F ht⟩) hS.2.2 dX5_goBy_37
  · replace h := h.2 hc_4
    refine lv_iload hx hb dX5_goBy_27 (lv_at hl 0 rfl) ?_
    refine lv_iload hx hb dX5_goBy_29 (lv_at hl 6 rfl) ?_
    have hFc := fl_freeN hS hA
    refine va_calli (va_runS (As := [.int r_3, .int x4]) (rest := []) ⟨hx, hb, hml, hown, hts⟩ (c_X6_isLonger l H.size r_3 x4 _ h) (va_cwS 2 hts gX5_goBy_X6_isLonger rfl rfl rfl (by decide +kernel) ⟨Nat.le_of_ble_eq_true rfl, Nat.le_of_ble_eq_true rfl⟩) ⟨fun a U g mk q => by obtain ⟨q0, q1⟩ := q; exact ⟨q0, q1⟩, fun U hU hW => ⟨rfl, congrArg Array.size hU⟩⟩ rfl rfl hl.1 rfl (lv_room (Nat.le_of_ble_eq_true rfl)) dX5_goBy_31 ⟨Nat.zero_le _, Nat.zero_le _⟩) hS (fun q _ h => hFc q h) hFc (fun r_5 zz t H1 locs ht hvm hw hB hz1 hk1 hS => ?_)
    replace hP := fl_keep hP hk1
    replace h := hw
    generalize H1 = H at hP hS ⊢
    refine lv_if_eq (tgt := 38) hx hb dX5_goBy_34 (by decide) (fun hc_6 => ?_) (fun hc_6 => ?_)
    · replace h := h.1 hc_6
      refine lv_aload_n hx hb dX5_goBy_38 rfl (lv_at hl 3 rfl) ?_
      refine lv_iload_n hx hb dX5_goBy_39 rfl (lv_at hl 4 rfl) ?_
      refine lv_iconst (v := 4) hx hb dX5_goBy_40 (by decide) ?_
      have hPc := hP.sub (ws' := (wd_X0 a1 ca1 u1)) [3, 4, 5] rfl
      have hDc := hD.sub (ws' := (wd_X0 a1 ca1 u1)) [3, 4, 5] (by decide) rfl
      have hKc := hK.sub (tys' := (ty_X0 ca1)) [2, 3] rfl
      have hFc := va_free (wc := (wd_X0 a1 ca1 u1)) hD hS hA [3, 4, 5] rfl
      refine va_calli (va_runV (As := [.int x2, .int 4]) (rest := []) ⟨hx, hb, hml, hown, hts⟩ (c_X0_part l dC dI a1 ca1 H.size u1 x2 4 _ h) (cwV 2 hts gX5_goBy_X0_part rfl rfl rfl (by decide +kernel) ⟨Nat.le_of_ble_eq_true rfl, Nat.le_of_ble_eq_true rfl⟩) ⟨fun a U g mk q => by obtain ⟨q0, q1, qP, qK, qD⟩ := q; exact ⟨q0, q1, qP, va_K.moved (u := U) (U := U.calling g mk a) (Vm.Alike.refl U.vm) qK, qD⟩, va_recv hKc hPc (ci := 0) (q0 := 0) rfl rfl, fun U hU hW => ⟨rfl, by rw [hU], by rw [hU]; exact hPc, va_K.moved hW.alike hKc, hDc.weaken (fun _ _ _ _ => trivial)⟩⟩ rfl rfl hl.1 rfl (lv_room (Nat.le_of_ble_eq_true rfl)) dX5_goBy_41 ⟨Nat.zero_le _, Nat.zero_le _⟩) hS (fun q _ h => hFc q h) hFc (fun r_7 zz t H1 locs ht hvm hw hB hz1 hk1 hS => ?_)
      replace h := hw
      obtain ⟨hP1, hD1⟩ := hB
      rw [ht] at hP1
      obtain ⟨hP, hD⟩ := va_join (wr := [0, 1, 2].filterMap (fun i => (wd_X5 a ca u ++ (wd_X0 a1 ca1 u1))[i]?)) (w1 := (wd_X0 a1 ca1 u1)) hP hD [3, 4, 5] [0, 1, 2] rfl rfl (by decide) (by decide) hk1 hFc hP1 hD1
      replace hP : va_P (dC, dI) vwCl (wd_X5 a ca u ++ (wd_X0 a1 ca1 u1)) H1 := (hP.sub [0, 1, 2, 3, 4, 5] rfl)
      replace hD : va_D A (wd_X5 a ca u ++ (wd_X0 a1 ca1 u1)) := (hD.sub [0, 1, 2, 3, 4, 5] (by decide) rfl)
      generalize H1 = H at hP hS ⊢
      refine lv_istore (lv' := [(7, .int r_7), (6, .int r_3), (5, .int r_1), (0, .ref (a 0)), (1, .ref (a1 0)), (2, .int x2), (3, .int x3), (4, .int x4)]) hx hb dX5_goBy_44 hl (by decide) rfl (fun ls hl => ?_)
      refine lv_aload_n hx hb dX5_goBy_46 rfl (lv_at hl 3 rfl) ?_
      refine lv_iload hx hb dX5_goBy_47 (lv_at hl 0 rfl) ?_
      refine lv_iload hx hb dX5_goBy_49 (lv_at hl 2 rfl) ?_
      refine jn1_ind (GG := (fun (w_9 : Int32) => ∀ (H : Heap) (locs : List Loc) (ls : Array Slot), va_P (dC, dI) vwCl (wd_X5 a ca u ++ (wd_X0 a1 ca1 u1)) H → va_D A (wd_X5 a ca u ++ (wd_X0 a1 ca1 u1)) → va_S A s.heap H locs → lv_has ls 8 [(6, .int r_3), (5, .int r_1), (3, .int x3)] → W p l e (headSpec wsX5_goBy rm_X5_goBy).room s m args below meth c H locs 0 0 Q (F0 m 64 ls [.int w_9, .int r_7, .ref (a 0)]))) h (fun w_9 h H locs ls hP hD hS hl => ?_) (fun JJ_8 ih_JJ_8 h => ?_)
      · refine lv_iload hx hb dX5_goBy_64 (lv_at hl 1 rfl) ?_
        refine lv_iconst (v := 1) hx hb dX5_goBy_66 (by decide) ?_
        refine jn1_ind (GG := (fun (w_11 : Int32) => ∀ (H : Heap) (locs : List Loc) (ls : Array Slot), va_P (dC, dI) vwCl (wd_X5 a ca u ++ (wd_X0 a1 ca1 u1)) H → va_D A (wd_X5 a ca u ++ (wd_X0 a1 ca1 u1)) → va_S A s.heap H locs → lv_has ls 8 [] → W p l e (headSpec wsX5_goBy rm_X5_goBy).room s m args below meth c H locs 0 0 Q (F0 m 80 ls [.int w_11, .int w_9, .int r_7, .ref (a 0)]))) h (fun w_11 h H locs ls hP hD hS hl => ?_) (fun JJ_10 ih_JJ_10 h => ?_)
        · have hPc := hP.sub (ws' := (wd_X5 a ca u)) [0, 1, 2] rfl
          have hDc := hD.sub (ws' := (wd_X5 a ca u)) [0, 1, 2] (by decide) rfl
          have hKc := hK.sub (tys' := (ty_X5 ca)) [0, 1] rfl
          have hFc := va_free (wc := (wd_X5 a ca u)) hD hS hA [0, 1, 2] rfl
          refine va_callv (va_runV (As := [.int r_7, .int w_9, .int w_11]) (rest := []) ⟨hx, hb, hml, hown, hts⟩ (c_X5_add l dC dI a ca H.size u r_7 w_9 w_11 _ h) (cwV 3 hts gX5_goBy_X5_add rfl rfl rfl (by decide +kernel) ⟨Nat.le_of_ble_eq_true rfl, Nat.le_of_ble_eq_true rfl⟩) ⟨fun a U g mk q => by obtain ⟨q0, q1, qP, qK, qD⟩ := q; exact ⟨q0, q1, qP, va_K.moved (u := U) (U := U.calling g mk a) (Vm.Alike.refl U.vm) qK, qD⟩, va_recv hKc hPc (ci := 5) (q0 := 0) rfl rfl, fun U hU hW => ⟨rfl, by rw [hU], by rw [hU]; exact hPc, va_K.moved hW.alike hKc, hDc.weaken (fun _ _ _ _ => trivial)⟩⟩ rfl rfl hl.1 rfl (lv_room (Nat.le_of_ble_eq_true rfl)) dX5_goBy_80 ⟨Nat.zero_le _, Nat.zero_le _⟩) hS (fun q _ h => hFc q h) hFc (fun zz t H1 locs ht hvm hw hB hz1 hk1 hS => ?_)
          obtain ⟨u_12, rfl⟩ : ∃ z, z = zz := ⟨_, rfl⟩
          replace h := hw
          obtain ⟨hP1, hD1⟩ := hB
          rw [ht] at hP1
          obtain ⟨hP, hD⟩ := va_join (wr := [3, 4, 5].filterMap (fun i => (wd_X5 a ca u ++ (wd_X0 a1 ca1 u1))[i]?)) (w1 := (wd_X5 a ca u_12)) hP hD [0, 1, 2] [3, 4, 5] rfl rfl (by decide) (by decide) hk1 hFc hP1 hD1
          replace hP : va_P (dC, dI) vwCl (wd_X5 a ca u_12 ++ (wd_X0 a1 ca1 u1)) H1 := (hP.sub [3, 4, 5, 0, 1, 2] rfl)
          replace hD : va_D A (wd_X5 a ca u_12 ++ (wd_X0 a1 ca1 u1)) := (hD.sub [3, 4, 5, 0, 1, 2] (by decide) rfl)
          generalize H1 = H at hP hS ⊢
          subst hQ
          exact W.vret hx hb hr (fun t ht hW => ⟨⟨u_12, rfl, h, by rw [ht]; exact hP, hD⟩, hS.F ht⟩) hS.2.2 dX5_goBy_83
        · refine lv_icmp_ne (tgt := 75) hx hb dX5_goBy_67 (by decide) (fun hc_13 => ?_) (fun hc_13 => ?_)
          · replace h := h.1 hc_13
            refine lv_iload_n hx hb dX5_goBy_75 rfl (lv_at hl 2 rfl) ?_
            refine lv_iconst (v := 1) hx hb dX5_goBy_76 (by decide) ?_
            have hFc := fl_freeN hS hA
            refine va_calli (va_runS (As := [.int x3, .int 1]) (rest := [.int w_9, .int r_7, .ref (a 0)]) ⟨hx, hb, hml, hown, hts⟩ (c_X5_wordOf l H.size x3 1 _ h) (va_cwS 2 hts gX5_goBy_X5_wordOf rfl rfl rfl (by decide +kernel) ⟨Nat.le_of_ble_eq_true rfl, Nat.le_of_ble_eq_true rfl⟩) ⟨fun a U g mk q => by obtain ⟨q0, q1⟩ := q; exact ⟨q0, q1⟩, fun U hU hW => ⟨rfl, congrArg Array.size hU⟩⟩ rfl rfl hl.1 rfl (lv_room (Nat.le_of_ble_eq_true rfl)) dX5_goBy_77 ⟨Nat.zero_le _, Nat.zero_le _⟩) hS (fun q _ h => hFc q h) hFc (fun r_14 zz t H1 locs ht hvm hw hB hz1 hk1 hS => ?_)
            replace hP := fl_keep hP hk1
            replace h := hw
            generalize H1 = H at hP hS ⊢
            exact ih_JJ_10 _ h _ _ _ hP hD hS (lv_sub hl [] rfl)
          · replace h := h.2 hc_13
            refine lv_iload hx hb dX5_goBy_70 (lv_at hl 0 rfl) ?_
            refine lv_goto (tgt := 80) hx hb dX5_goBy_72 (by decide) ?_
            exact ih_JJ_10 _ h _ _ _ hP hD hS (lv_sub hl [] rfl)
      · refine lv_if_ne (tgt := 59) hx hb dX5_goBy_51 (by decide) (fun hc_15 => ?_) (fun hc_15 => ?_)
        · replace h := h.1 hc_15
          refine lv_iload_n hx hb dX5_goBy_59 rfl (lv_at hl 6 rfl) ?_
          refine lv_iconst (v := 0) hx hb dX5_goBy_60 (by decide) ?_
          have hFc := fl_freeN hS hA
          refine va_calli (va_runS (As := [.int x3, .int 0]) (rest := [.int r_7, .ref (a 0)]) ⟨hx, hb, hml, hown, hts⟩ (c_X5_wordOf l H.size x3 0 _ h) (va_cwS 2 hts gX5_goBy_X5_wordOf rfl rfl rfl (by decide +kernel) ⟨Nat.le_of_ble_eq_true rfl, Nat.le_of_ble_eq_true rfl⟩) ⟨fun a U g mk q => by obtain ⟨q0, q1⟩ := q; exact ⟨q0, q1⟩, fun U hU hW => ⟨rfl, congrArg Array.size hU⟩⟩ rfl rfl hl.1 rfl (lv_room (Nat.le_of_ble_eq_true rfl)) dX5_goBy_61 ⟨Nat.zero_le _, Nat.zero_le _⟩) hS (fun q _ h => hFc q h) hFc (fun r_16 zz t H1 locs ht hvm hw hB hz1 hk1 hS => ?_)
          replace hP := fl_keep hP hk1
          replace h := hw
          generalize H1 = H at hP hS ⊢
          exact ih_JJ_8 _ h _ _ _ hP hD hS (lv_sub hl [1, 2, 6] rfl)
        · replace h := h.2 hc_15
          refine lv_iload hx hb dX5_goBy_54 (lv_at hl 1 rfl) ?_
          refine lv_goto (tgt := 64) hx hb dX5_goBy_56 (by decide) ?_
          exact ih_JJ_8 _ h _ _ _ hP hD hS (lv_sub hl [1, 2, 6] rfl)
    · replace h := h.2 hc_6
      subst hQ
      exact W.vret hx hb hr (fun t ht hW => ⟨⟨u, rfl, h, by rw [ht]; exact hP, hD⟩, hS.F ht⟩) hS.2.2 dX5_goBy_37
abbrev rm_X5_goOn : Room := { frames := 4, cells := 0, slots := 0, locals := 101 }
set_option maxHeartbeats 4000000 in
set_option maxRecDepth 100000 in
theorem c_X5_goOn (l : Launch) (dC : Nat → ClassId) (dI : Nat → Nat → Nat) (a : Nat → Nat) (ca : Nat → ClassId) (a1 : Nat → Nat) (ca1 : Nat → ClassId) (sz : Nat) (u : Ob) (u1 : Ob) (x2 : Int32) (x3 : Int32) (post : Ob → Prop) (h : wp_X5_goOn u u1 x2 x3 post) : Met l yX5_goOn wsX5_goOn rm_X5_goOn (va_Pc [.ref (a 0), .ref (a1 0), .int x2, .int x3] (fun U => U.heap.size = sz ∧ va_P (dC, dI) vwCl (wd_X5 a ca u ++ (wd_X0 a1 ca1 u1)) U.heap ∧ va_K (dC, dI) vwCl (ty_X5 ca ++ (ty_X0 ca1)) U ∧ va_D (fun _ => True) (wd_X5 a ca u ++ (wd_X0 a1 ca1 u1)))) (va_Qv post (fun (zz : Ob) (t : State) => va_P (dC, dI) vwCl (wd_X5 a ca zz ++ (wd_X0 a1 ca1 u1)) t.heap ∧ va_D (va_A (wd_X5 a ca u ++ (wd_X0 a1 ca1 u1)) sz) (wd_X5 a ca zz ++ (wd_X0 a1 ca1 u1))) (va_A (wd_X5 a ca u ++ (wd_X0 a1 ca1 u1)) sz)) 0 0 (va_A (wd_X5 a ca u ++ (wd_X0 a1 ca1 u1)) sz) := by
  refine fl_ofW (cc := cX5_goOn) (maxL := 5) (ret := none) (by decide) rfl ?_
  intro p e s m args below meth c s₁ Q B hml hv hQ
  obtain ⟨hargs, hsz, hP, hK, hD0⟩ := hv
  have hx := B.exec
  have hb := B.bytes
  have hr := B.returns
  have hts := atoms_spec (ws := wsX5_goOn) B.pre
  have hown : s.vm.findClass RX5 = some m.cls := findClass_of_methodNamed B.named
  subst hsz
  have hD := hD0.self (sz := s.heap.size)
  generalize hAe : va_A (wd_X5 a ca u ++ (wd_X0 a1 ca1 u1)) s.heap.size = A at hD hQ
  have hA : ∀ q : Nat, s.heap.size ≤ q → A q := fun q h => by rw [← hAe]; exact Or.inr h
  have hS : va_S A s.heap s.heap [] := va_S.rf
  have hl := lv_entry ([.ref (a 0), .ref (a1 0), .int x2, .int x3]) (n := 5) (Nat.le_of_ble_eq_true rfl)
  refine W.eq (g2 := F0 m 0 ((lg_sl ([.ref (a 0), .ref (a1 0), .int x2, .int x3]) ++ List.replicate (5 - (lg_sl ([.ref (a 0), .ref (a1 0), .int x2, .int x3])).length) Slot.unset).toArray) []) (by rw [hargs]; exact lg_entry_eq m _ 5) ?_
  generalize (lg_sl ([.ref (a 0), .ref (a1 0), .int x2, .int x3]) ++ List.replicate (5 - (lg_sl ([.ref (a 0), .ref (a1 0), .int x2, .int x3])).length) Slot.unset).toArray = ls at hl ⊢
  have hl : lv_has ls 5 [(0, .ref (a 0)), (1, .ref (a1 0)), (2, .int x2), (3, .int x3)] := hl
  suffices hstart : ∀ (H : Heap) (locs : List Loc) (ls : Array Slot), va_P (dC, dI) vwCl (wd_X5 a ca u ++ (wd_X0 a1 ca1 u1)) H → va_D A (wd_X5 a ca u ++ (wd_X0 a1 ca1 u1)) → va_S A s.heap H locs → lv_has ls 5 [(0, .ref (a 0)), (1, .ref (a1 0)), (2, .int x2), (3, .int x3)] → W p l e (headSpec wsX5_goOn rm_X5_goOn).room s m args below meth c H locs 0 0 Q (F0 m 0 ls []) from hstart _ _ _ hP hD hS hl
  clear hS hP hD hD0
  intro H locs ls hP hD hS hl
  have hin_X0 : ∀ w ∈ wsX00, w ∈ wsX5_goOn := by decide +kernel
  have lk_0 := hts (.fieldLink RX5 63 "ForgettingLines$Machine" "count" "I") (by decide +kernel)
  unfold wp_X5_goOn at h
  refine lv_iconst (v := 0) hx hb dX5_goOn_0 (by decide) ?_
  refine lv_istore (lv' := [(4, .int 0), (0, .ref (a 0)), (1, .ref (a1 0)), (2, .int x2), (3, .int x3)]) hx hb dX5_goOn_1 hl (by decide) rfl (fun ls hl => ?_)
  obtain ⟨n_9, h⟩ := h
  refine lq2_ind (GG := (fun (v4_2 : Int32) (u_3 : Ob) => ∀ (H : Heap) (locs : List Loc) (ls : Array Slot), va_P (dC, dI) vwCl (wd_X5 a ca u_3 ++ (wd_X0 a1 ca1 u1)) H → va_D A (wd_X5 a ca u_3 ++ (wd_X0 a1 ca1 u1)) → va_S A s.heap H locs → lv_has ls 5 [(4, .int v4_2), (0, .ref (a 0)), (1, .ref (a1 0)), (2, .int x2), (3, .int x3)] → W p l e (headSpec wsX5_goOn rm_X5_goOn).room s m args below meth c H locs 0 0 Q (F0 m 3 ls []))) (fun LL_1 ih_LL_1 v4_2 u_3 h H locs ls hP hD hS hl => ?_) n_9 _ _ h _ _ _ hP hD hS (lv_sub hl [0, 1, 2, 3, 4] rfl)
  refine lv_iload hx hb dX5_goOn_3 (lv_at hl 0 rfl) ?_
  refine lv_aload_n hx hb dX5_goOn_5 rfl (lv_at hl 2 rfl) ?_
  refine va_get (D := (dC, dI)) (ci := 0) (v := .int (u1.1 1)) (C := RX0) (T := TX0) (N := 4) hx hb hts hin_X0 hown hK hP 3 rfl rfl 1 (by decide) lk_0 (fun _ h9 => h9) rfl dX5_goOn_6 ?_
  refine lv_icmp_ge (tgt := 41) hx hb dX5_goOn_9 (by decide) (fun hc_4 => ?_) (fun hc_4 => ?_)
  · replace h := h.1 hc_4
    subst hQ
    exact W.vret hx hb hr (fun t ht hW => ⟨⟨u_3, rfl, h, by rw [ht]; exact hP, hD⟩, hS.F ht⟩) hS.2.2 dX5_goOn_41
  · replace h := h.2 hc_4
    refine lv_aload_n hx hb dX5_goOn_12 rfl (lv_at hl 2 rfl) ?_
    refine lv_iload hx hb dX5_goOn_13 (lv_at hl 0 rfl) ?_
    refine lv_iconst (v := 0) hx hb dX5_goOn_15 (by decide) ?_
    have hPc := hP.sub (ws' := (wd_X0 a1 ca1 u1)) [3, 4, 5] rfl
    have hDc := hD.sub (ws' := (wd_X0 a1 ca1 u1)) [3, 4, 5] (by decide) rfl
    have hKc := hK.sub (tys' := (ty_X0 ca1)) [2, 3] rfl
    have hFc := va_free (wc := (wd_X0 a1 ca1 u1)) hD hS hA [3, 4, 5] rfl
    refine va_calli (va_runV (As := [.int v4_2, .int 0]) (rest := []) ⟨hx, hb, hml, hown, hts⟩ (c_X0_part l dC dI a1 ca1 H.size u1 v4_2 0 _ h) (cwV 2 hts gX5_goOn_X0_part rfl rfl rfl (by decide +kernel) ⟨Nat.le_of_ble_eq_true rfl, Nat.le_of_ble_eq_true rfl⟩) ⟨fun a U g mk q => by obtain ⟨q0, q1, qP, qK, qD⟩ := q; exact ⟨q0, q1, qP, va_K.moved (u := U) (U := U.calling g mk a) (Vm.Alike.refl U.vm) qK, qD⟩, va_recv hKc hPc (ci := 0) (q0 := 0) rfl rfl, fun U hU hW => ⟨rfl, by rw [hU], by rw [hU]; exact hPc, va_K.moved hW.alike hKc, hDc.weaken (fun _ _ _ _ => trivial)⟩⟩ rfl rfl hl.1 rfl (lv_room (Nat.le_of_ble_eq_true rfl)) dX5_goOn_16 ⟨Nat.zero_le _, Nat.zero_le _⟩) hS (fun q _ h => hFc q h) hFc (fun r_5 zz t H1 locs ht hvm hw hB hz1 hk1 hS => ?_)
    replace h := hw
    obtain ⟨hP1, hD1⟩ := hB
    rw [ht] at hP1
    obtain ⟨hP, hD⟩ := va_join (wr := [0, 1, 2].filterMap (fun i => (wd_X5 a ca u_3 ++ (wd_X0 a1 ca1 u1))[i]?)) (w1 := (wd_X0 a1 ca1 u1)) hP hD [3, 4, 5] [0, 1, 2] rfl rfl (by decide) (by decide) hk1 hFc hP1 hD1
    replace hP : va_P (dC, dI) vwCl (wd_X5 a ca u_3 ++ (wd_X0 a1 ca1 u1)) H1 := (hP.sub [0, 1, 2, 3, 4, 5] rfl)
    replace hD : va_D A (wd_X5 a ca u_3 ++ (wd_X0 a1 ca1 u1)) := (hD.sub [0, 1, 2, 3, 4, 5] (by decide) rfl)
    generalize H1 = H at hP hS ⊢
    refine lv_iload_n hx hb dX5_goOn_19 rfl (lv_at hl 3 rfl) ?_
    have hFc := fl_freeN hS hA
    refine va_calli (va_runS (As := [.int x2]) (rest := [.int r_5]) ⟨hx, hb, hml, hown, hts⟩ (c_X5_stateOf l H.size x2 _ h) (va_cwS 1 hts gX5_goOn_X5_stateOf rfl rfl rfl (by decide +kernel) ⟨Nat.le_of_ble_eq_true rfl, Nat.le_of_ble_eq_true rfl⟩) ⟨fun a U g mk q => by obtain ⟨q0, q1⟩ := q; exact ⟨q0, q1⟩, fun U hU hW => ⟨rfl, congrArg Array.size hU⟩⟩ rfl rfl hl.1 rfl (lv_room (Nat.le_of_ble_eq_true rfl)) dX5_goOn_20 ⟨Nat.zero_le _, Nat.zero_le _⟩) hS (fun q _ h => hFc q h) hFc (fun r_6 zz t H1 locs ht hvm hw hB hz1 hk1 hS => ?_)
    replace hP := fl_keep hP hk1
    replace h := hw
    generalize H1 = H at hP hS ⊢
    refine lv_icmp_ne (tgt := 35) hx hb dX5_goOn_23 (by decide) (fun hc_7 => ?_) (fun hc_7 => ?_)
    · replace h := h.1 hc_7
      refine lv_iinc (v := (v4_2 + 1)) (lv' := [(4, .int (v4_2 + 1)), (0, .ref (a 0)), (1, .ref (a1 0)), (2, .int x2), (3, .int x3)]) hx hb dX5_goOn_35 hl (k := 0) rfl rfl (by decide) rfl (fun ls hl => ?_)
      refine lv_goto (tgt := 3) hx hb dX5_goOn_38 (by decide) ?_
      exact ih_LL_1 _ _ h _ _ _ hP hD hS (lv_sub hl [0, 1, 2, 3, 4] rfl)
    · replace h := h.2 hc_7
      refine lv_aload_n hx hb dX5_goOn_26 rfl (lv_at hl 1 rfl) ?_
      refine lv_aload_n hx hb dX5_goOn_27 rfl (lv_at hl 2 rfl) ?_
      refine lv_iload hx hb dX5_goOn_28 (lv_at hl 0 rfl) ?_
      refine lv_iload_n hx hb dX5_goOn_30 rfl (lv_at hl 3 rfl) ?_
      refine lv_iload_n hx hb dX5_goOn_31 rfl (lv_at hl 4 rfl) ?_
      have hPc := hP
      have hDc := hD
      have hKc := hK
      have hFc := va_free (wc := (wd_X5 a ca u_3 ++ (wd_X0 a1 ca1 u1))) hD hS hA [0, 1, 2, 3, 4, 5] rfl
      refine va_callv (va_runV (As := [.ref (a1 0), .int v4_2, .int x2, .int x3]) (rest := []) ⟨hx, hb, hml, hown, hts⟩ (c_X5_goBy l dC dI a ca a1 ca1 H.size u_3 u1 v4_2 x2 x3 _ h) (cwV 4 hts gX5_goOn_X5_goBy rfl rfl rfl (by decide +kernel) ⟨Nat.le_of_ble_eq_true rfl, Nat.le_of_ble_eq_true rfl⟩) ⟨fun a U g mk q => by obtain ⟨q0, q1, qP, qK, qD⟩ := q; exact ⟨q0, q1, qP, va_K.moved (u := U) (U := U.calling g mk a) (Vm.Alike.refl U.vm) qK, qD⟩, va_recv hKc hPc (ci := 5) (q0 := 0) rfl rfl, fun U hU hW => ⟨rfl, by rw [hU], by rw [hU]; exact hPc, va_K.moved hW.alike hKc, hDc.weaken (fun _ _ _ _ => trivial)⟩⟩ rfl rfl hl.1 rfl (lv_room (Nat.le_of_ble_eq_true rfl)) dX5_goOn_32 ⟨Nat.zero_le _, Nat.zero_le _⟩) hS (fun q _ h => hFc q h) hFc (fun zz t H1 locs ht hvm hw hB hz1 hk1 hS => ?_)
      obtain ⟨u_8, rfl⟩ : ∃ z, z = zz := ⟨_, rfl⟩
      replace h := hw
      obtain ⟨hP1, hD1⟩ := hB
      rw [ht] at hP1
      replace hD : va_D A (wd_X5 a ca u_8 ++ (wd_X0 a1 ca1 u1)) := hD1.weaken (fun _ _ _ h9 => hFc _ h9)
      replace hP : va_P (dC, dI) vwCl (wd_X5 a ca u_8 ++ (wd_X0 a1 ca1 u1)) H1 := hP1
      generalize H1 = H at hP hS ⊢
      refine lv_iinc (v := (v4_2 + 1)) (lv' := [(4, .int (v4_2 + 1)), (0, .ref (a 0)), (1, .ref (a1 0)), (2, .int x2), (3, .int x3)]) hx hb dX5_goOn_35 hl (k := 0) rfl rfl (by decide) rfl (fun ls hl => ?_)
      refine lv_goto (tgt := 3) hx hb dX5_goOn_38 (by decide) ?_
      exact ih_LL_1 _ _ h _ _ _ hP hD hS (lv_sub hl [0, 1, 2, 3, 4] rfl)
abbrev rm_X5_fewest : Room := { frames := 5, cells := 0, slots := 0, locals := 125 }
set_option maxHeartbeats 4000000 in
set_option maxRecDepth 100000 in
theorem c_X5_fewest (l : Launch) (dC : Nat → ClassId) (dI : Nat → Nat → Nat) (a : Nat → Nat) (ca : Nat → ClassId) (a1 : Nat → Nat) (ca1 : Nat → ClassId) (a2 : Nat → Nat) (ca2 : Nat → ClassId) (a3 : Nat → Nat) (ca3 : Nat → ClassId) (sz : Nat) (u : Ob) (u1 : Ob) (u2 : Ob) (u3 : Ob) (x4 : Int32) (post : Int32 → Ob → Prop) (h : wp_X5_fewest u u1 u2 u3 x4 post) : Met l yX5_fewest wsX5_fewest rm_X5_fewest (va_Pc [.ref (a 0), .ref (a1 0), .ref (a2 0), .ref (a3 0), .int x4] (fun U => U.heap.size = sz ∧ va_P (dC, dI) vwCl (wd_X5 a ca u ++ (wd_X0 a1 ca1 u1 ++ (wd_X1 a2 ca2 u2 ++ (wd_X1 a3 ca3 u3)))) U.heap ∧ va_K (dC, dI) vwCl (ty_X5 ca ++ (ty_X0 ca1 ++ (ty_X1 ca2 ++ (ty_X1 ca3)))) U ∧ va_D (fun _ => True) (wd_X5 a ca u ++ (wd_X0 a1 ca1 u1 ++ (wd_X1 a2 ca2 u2 ++ (wd_X1 a3 ca3 u3)))))) (va_Qi post (fun (zz : Ob) (t : State) => va_P (dC, dI) vwCl (wd_X5 a ca zz ++ (wd_X0 a1 ca1 u1 ++ (wd_X1 a2 ca2 u2 ++ (wd_X1 a3 ca3 u3)))) t.heap ∧ va_D (va_A (wd_X5 a ca u ++ (wd_X0 a1 ca1 u1 ++ (wd_X1 a2 ca2 u2 ++ (wd_X1 a3 ca3 u3)))) sz) (wd_X5 a ca zz ++ (wd_X0 a1 ca1 u1 ++ (wd_X1 a2 ca2 u2 ++ (wd_X1 a3 ca3 u3))))) (va_A (wd_X5 a ca u ++ (wd_X0 a1 ca1 u1 ++ (wd_X1 a2 ca2 u2 ++ (wd_X1 a3 ca3 u3)))) sz)) 0 0 (va_A (wd_X5 a ca u ++ (wd_X0 a1 ca1 u1 ++ (wd_X1 a2 ca2 u2 ++ (wd_X1 a3 ca3 u3)))) sz) := by
  refine fl_ofW (cc := cX5_fewest) (maxL := 8) (ret := (some .int)) (by decide) rfl ?_
  intro p e s m args below meth c s₁ Q B hml hv hQ
  obtain ⟨hargs, hsz, hP, hK, hD0⟩ := hv
  have hx := B.exec
  have hb := B.bytes
  have hr := B.returns
  have hts := atoms_spec (ws := wsX5_fewest) B.pre
  have hown : s.vm.findClass RX5 = some m.cls := findClass_of_methodNamed B.named
  subst hsz
  have hD := hD0.self (sz := s.heap.size)
  generalize hAe : va_A (wd_X5 a ca u ++ (wd_X0 a1 ca1 u1 ++ (wd_X1 a2 ca2 u2 ++ (wd_X1 a3 ca3 u3)))) s.heap.size = A at hD hQ
  have hA : ∀ q : Nat, s.heap.size ≤ q → A q := fun q h => by rw [← hAe]; exact Or.inr h
  have hS : va_S A s.heap s.heap [] := va_S.rf
  have hl := lv_entry ([.ref (a 0), .ref (a1 0), .ref (a2 0), .ref (a3 0), .int x4]) (n := 8) (Nat.le_of_ble_eq_true rfl)
  refine W.eq (g2 := F0 m 0 ((lg_sl ([.ref (a 0), .ref (a1 0), .ref (a2 0), .ref (a3 0), .int x4]) ++ List.replicate (8 - (lg_sl ([.ref (a 0), .ref (a1 0), .ref (a2 0), .ref (a3 0), .int x4])).length) Slot.unset).toArray) []) (by rw [hargs]; exact lg_entry_eq m _ 8) ?_
  generalize (lg_sl ([.ref (a 0), .ref (a1 0), .ref (a2 0), .ref (a3 0), .int x4]) ++ List.replicate (8 - (lg_sl ([.ref (a 0), .ref (a1 0), .ref (a2 0), .ref (a3 0), .int x4])).length) Slot.unset).toArray = ls at hl ⊢
  have hl : lv_has ls 8 [(0, .ref (a 0)), (1, .ref (a1 0)), (2, .ref (a2 0)), (3, .ref (a3 0)), (4, .int x4)] := hl
  suffices hstart : ∀ (H : Heap) (locs : List Loc) (ls : Array Slot), va_P (dC, dI) vwCl (wd_X5 a ca u ++ (wd_X0 a1 ca1 u1 ++ (wd_X1 a2 ca2 u2 ++ (wd_X1 a3 ca3 u3)))) H → va_D A (wd_X5 a ca u ++ (wd_X0 a1 ca1 u1 ++ (wd_X1 a2 ca2 u2 ++ (wd_X1 a3 ca3 u3)))) → va_S A s.heap H locs → lv_has ls 8 [(0, .ref (a 0)), (1, .ref (a1 0)), (2, .ref (a2 0)), (3, .ref (a3 0)), (4, .int x4)] → W p l e (headSpec wsX5_fewest rm_X5_fewest).room s m args below meth c H locs 0 0 Q (F0 m 0 ls []) from hstart _ _ _ hP hD hS hl
  clear hS hP hD hD0
  intro H locs ls hP hD hS hl
  have hin_X1 : ∀ w ∈ wsX10, w ∈ wsX5_fewest := by decide +kernel
  have hin_X5 : ∀ w ∈ wsX50, w ∈ wsX5_fewest := by decide +kernel
  have lk_0 := hts (.fieldLink RX5 11 "ForgettingLines$Walk" "seen" "[J") (by decide +kernel)
  have lk_1 := hts (.fieldLink RX5 25 "ForgettingLines$Walk" "tail" "I") (by decide +kernel)
  have lk_2 := hts (.fieldLink RX5 29 "ForgettingLines$Place" "state" "I") (by decide +kernel)
  have lk_3 := hts (.fieldLink RX5 34 "ForgettingLines$Place" "words" "[I") (by decide +kernel)
  have lk_4 := hts (.fieldLink RX5 15 "ForgettingLines$Walk" "queue" "[I") (by decide +kernel)
  unfold wp_X5_fewest at h
  refine lv_aload_n hx hb dX5_fewest_0 rfl (lv_at hl 0 rfl) ?_
  refine va_get (D := (dC, dI)) (ci := 5) (v := .ref (a 1)) (C := RX5) (T := TX5) (N := 3) hx hb hts hin_X5 hown hK hP 0 rfl rfl 0 (by decide) lk_0 (fun _ h9 => h9) rfl dX5_fewest_1 ?_
  refine lv_lconst (v := 0) hx hb dX5_fewest_4 (by decide) ?_
  have hPc := hP.sub (ws' := ([((a 1), .inl ((ca 1), 512, .inr (.inl (u.2.2 0))))])) [1] rfl
  have hDc := hD.sub (ws' := ([((a 1), .inl ((ca 1), 512, .inr (.inl (u.2.2 0))))])) [1] (by decide) rfl
  have hKc := hK.sub (tys' := ([((ca 1), .long)])) [0] rfl
  have hFc := va_free (wc := ([((a 1), .inl ((ca 1), 512, .inr (.inl (u.2.2 0))))])) hD hS hA [1] rfl
  refine va_callv (va_runS (As := [.ref (a 1), .long 0]) (rest := []) ⟨hx, hb, hml, hown, hts⟩ (c_J7_fill_d0a16 l dC dI (a 1) (ca 1) 512 H.size (u.2.2 0) 0 _ h) (va_cwS 2 hts gX5_fewest_J7_fill_d0a16 rfl rfl rfl (by decide +kernel) ⟨Nat.le_of_ble_eq_true rfl, Nat.le_of_ble_eq_true rfl⟩) ⟨fun a U g mk q => by obtain ⟨q0, q1, qP, qK, qD⟩ := q; exact ⟨q0, q1, qP, va_K.moved (u := U) (U := U.calling g mk a) (Vm.Alike.refl U.vm) qK, qD⟩, fun U hU hW => ⟨rfl, by rw [hU], by rw [hU]; exact hPc, va_K.moved hW.alike hKc, hDc.weaken (fun _ _ _ _ => trivial)⟩⟩ rfl rfl hl.1 rfl (lv_room (Nat.le_of_ble_eq_true rfl)) dX5_fewest_5 ⟨Nat.zero_le _, Nat.zero_le _⟩) hS (fun q _ h => hFc q h) hFc (fun zz t H1 locs ht hvm hw hB hz1 hk1 hS => ?_)
  obtain ⟨f_1, rfl⟩ : ∃ z, z = zz := ⟨_, rfl⟩
  replace h := hw
  obtain ⟨hP1, hD1⟩ := hB
  rw [ht] at hP1
  obtain ⟨hP, hD⟩ := va_join (wr := [0, 2, 3, 4, 5, 6, 7, 8, 9].filterMap (fun i => (wd_X5 a ca u ++ (wd_X0 a1 ca1 u1 ++ (wd_X1 a2 ca2 u2 ++ (wd_X1 a3 ca3 u3))))[i]?)) (w1 := ([((a 1), .inl ((ca 1), 512, .inr (.inl f_1)))])) hP hD [1] [0, 2, 3, 4, 5, 6, 7, 8, 9] rfl rfl (by decide) (by decide) hk1 hFc hP1 hD1
  obtain ⟨u_2, eu_2⟩ : ∃ z : Ob, z = fs_l u 0 f_1 := ⟨_, rfl⟩
  replace h := h u_2 eu_2
  replace hP : va_P (dC, dI) vwCl (wd_X5 a ca u_2 ++ (wd_X0 a1 ca1 u1 ++ (wd_X1 a2 ca2 u2 ++ (wd_X1 a3 ca3 u3)))) H1 := by rw [eu_2]; exact (hP.sub [0, 9, 1, 2, 3, 4, 5, 6, 7, 8] rfl)
  replace hD : va_D A (wd_X5 a ca u_2 ++ (wd_X0 a1 ca1 u1 ++ (wd_X1 a2 ca2 u2 ++ (wd_X1 a3 ca3 u3)))) := by rw [eu_2]; exact (hD.sub [0, 9, 1, 2, 3, 4, 5, 6, 7, 8] (by decide) rfl)
  generalize H1 = H at hP hS ⊢
  refine lv_aload_n hx hb dX5_fewest_8 rfl (lv_at hl 0 rfl) ?_
  refine lv_iconst (v := 0) hx hb dX5_fewest_9 (by decide) ?_
  refine va_put (D := (dC, dI)) (ci := 5) (v := .int 0) (ty := .int) (C := RX5) (T := TX5) (N := 3) hx hb hts hin_X5 tyX5 tyX5_ok nmX5 hown hK hP hD hS 0 rfl rfl 2 (by decide) lk_1 (fun _ h9 => h9) rfl (by decide +kernel) rfl rfl (Nat.le_of_ble_eq_true rfl) dX5_fewest_10 (fun H locs hP hD hS => ?_)
  obtain ⟨u_3, eu_3⟩ : ∃ z : Ob, z = fs_i u_2 2 0 := ⟨_, rfl⟩
  replace h := h u_3 eu_3
  replace hP : va_P (dC, dI) vwCl (wd_X5 a ca u_3 ++ (wd_X0 a1 ca1 u1 ++ (wd_X1 a2 ca2 u2 ++ (wd_X1 a3 ca3 u3)))) H := by rw [eu_3]; exact hP
  replace hD : va_D A (wd_X5 a ca u_3 ++ (wd_X0 a1 ca1 u1 ++ (wd_X1 a2 ca2 u2 ++ (wd_X1 a3 ca3 u3)))) := by rw [eu_3]; exact hD
  refine lv_aload_n hx hb dX5_fewest_13 rfl (lv_at hl 0 rfl) ?_
  refine lv_aload_n hx hb dX5_fewest_14 rfl (lv_at hl 2 rfl) ?_
  refine va_get (D := (dC, dI)) (ci := 1) (v := .int (u2.1 0)) (C := RX1) (T := TX1) (N := 2) hx hb hts hin_X1 hown hK hP 6 rfl rfl 0 (by decide) lk_2 (fun _ h9 => h9) rfl dX5_fewest_15 ?_
  refine lv_aload_n hx hb dX5_fewest_18 rfl (lv_at hl 2 rfl) ?_
  refine va_get (D := (dC, dI)) (ci := 1) (v := .ref (a2 2)) (C := RX1) (T := TX1) (N := 2) hx hb hts hin_X1 hown hK hP 6 rfl rfl 1 (by decide) lk_3 (fun _ h9 => h9) rfl dX5_fewest_19 ?_
  refine lv_iconst (v := 0) hx hb dX5_fewest_22 (by decide) ?_
  obtain ⟨hi_4, h⟩ := h
  refine va_iald (D := (dC, dI)) (cl := vwCl) (i := 0) hx hb hK hP 7 4 rfl rfl hi_4 dX5_fewest_23 ?_
  refine lv_aload_n hx hb dX5_fewest_24 rfl (lv_at hl 2 rfl) ?_
  refine va_get (D := (dC, dI)) (ci := 1) (v := .ref (a2 2)) (C := RX1) (T := TX1) (N := 2) hx hb hts hin_X1 hown hK hP 6 rfl rfl 1 (by decide) lk_3 (fun _ h9 => h9) rfl dX5_fewest_25 ?_
  refine lv_iconst (v := 1) hx hb dX5_fewest_28 (by decide) ?_
  obtain ⟨hi_5, h⟩ := h
  refine va_iald (D := (dC, dI)) (cl := vwCl) (i := 1) hx hb hK hP 7 4 rfl rfl hi_5 dX5_fewest_29 ?_
  have hPc := hP.sub (ws' := (wd_X5 a ca u_3)) [0, 1, 2] rfl
  have hDc := hD.sub (ws' := (wd_X5 a ca u_3)) [0, 1, 2] (by decide) rfl
  have hKc := hK.sub (tys' := (ty_X5 ca)) [0, 1] rfl
  have hFc := va_free (wc := (wd_X5 a ca u_3)) hD hS hA [0, 1, 2] rfl
  refine va_callv (va_runV (As := [.int (u2.1 0), .int (u2.2.1 1 (0 : Int32).toNatClampNeg), .int (u2.2.1 1 (1 : Int32).toNatClampNeg)]) (rest := []) ⟨hx, hb, hml, hown, hts⟩ (c_X5_add l dC dI a ca H.size u_3 (u2.1 0) (u2.2.1 1 (0 : Int32).toNatClampNeg) (u2.2.1 1 (1 : Int32).toNatClampNeg) _ h) (cwV 3 hts gX5_fewest_X5_add rfl rfl rfl (by decide +kernel) ⟨Nat.le_of_ble_eq_true rfl, Nat.le_of_ble_eq_true rfl⟩) ⟨fun a U g mk q => by obtain ⟨q0, q1, qP, qK, qD⟩ := q; exact ⟨q0, q1, qP, va_K.moved (u := U) (U := U.calling g mk a) (Vm.Alike.refl U.vm) qK, qD⟩, va_recv hKc hPc (ci := 5) (q0 := 0) rfl rfl, fun U hU hW => ⟨rfl, by rw [hU], by rw [hU]; exact hPc, va_K.moved hW.alike hKc, hDc.weaken (fun _ _ _ _ => trivial)⟩⟩ rfl rfl hl.1 rfl (lv_room (Nat.le_of_ble_eq_true rfl)) dX5_fewest_30 ⟨Nat.zero_le _, Nat.zero_le _⟩) hS (fun q _ h => hFc q h) hFc (fun zz t H1 locs ht hvm hw hB hz1 hk1 hS => ?_)
  obtain ⟨u_6, rfl⟩ : ∃ z, z = zz := ⟨_, rfl⟩
  replace h := hw
  obtain ⟨hP1, hD1⟩ := hB
  rw [ht] at hP1
  obtain ⟨hP, hD⟩ := va_join (wr := [3, 4, 5, 6, 7, 8, 9].filterMap (fun i => (wd_X5 a ca u_3 ++ (wd_X0 a1 ca1 u1 ++ (wd_X1 a2 ca2 u2 ++ (wd_X1 a3 ca3 u3))))[i]?)) (w1 := (wd_X5 a ca u_6)) hP hD [0, 1, 2] [3, 4, 5, 6, 7, 8, 9] rfl rfl (by decide) (by decide) hk1 hFc hP1 hD1
  replace hP : va_P (dC, dI) vwCl (wd_X5 a ca u_6 ++ (wd_X0 a1 ca1 u1 ++ (wd_X1 a2 ca2 u2 ++ (wd_X1 a3 ca3 u3)))) H1 := (hP.sub [7, 8, 9, 0, 1, 2, 3, 4, 5, 6] rfl)
  replace hD : va_D A (wd_X5 a ca u_6 ++ (wd_X0 a1 ca1 u1 ++ (wd_X1 a2 ca2 u2 ++ (wd_X1 a3 ca3 u3)))) := (hD.sub [7, 8, 9, 0, 1, 2, 3, 4, 5, 6] (by decide) rfl)
  generalize H1 = H at hP hS ⊢
  refine lv_iconst (v := 0) hx hb dX5_fewest_33 (by decide) ?_
  refine lv_istore (lv' := [(5, .int 0), (0, .ref (a 0)), (1, .ref (a1 0)), (2, .ref (a2 0)), (3, .ref (a3 0)), (4, .int x4)]) hx hb dX5_fewest_34 hl (by decide) rfl (fun ls hl => ?_)
  refine lv_iconst (v := 0) hx hb dX5_fewest_36 (by decide) ?_
  refine lv_istore (lv' := [(6, .int 0), (5, .int 0), (0, .ref (a 0)), (1, .ref (a1 0)), (2, .ref (a2 0)), (3, .ref (a3 0)), (4, .int x4)]) hx hb dX5_fewest_37 hl (by decide) rfl (fun ls hl => ?_)
  obtain ⟨n_23, h⟩ := h
  refine lq3_ind (GG := (fun (v6_8 : Int32) (v5_9 : Int32) (u_10 : Ob) => ∀ (H : Heap) (locs : List Loc) (ls : Array Slot), va_P (dC, dI) vwCl (wd_X5 a ca u_10 ++ (wd_X0 a1 ca1 u1 ++ (wd_X1 a2 ca2 u2 ++ (wd_X1 a3 ca3 u3)))) H → va_D A (wd_X5 a ca u_10 ++ (wd_X0 a1 ca1 u1 ++ (wd_X1 a2 ca2 u2 ++ (wd_X1 a3 ca3 u3)))) → va_S A s.heap H locs → lv_has ls 8 [(6, .int v6_8), (5, .int v5_9), (0, .ref (a 0)), (1, .ref (a1 0)), (3, .ref (a3 0)), (4, .int x4)] → W p l e (headSpec wsX5_fewest rm_X5_fewest).room s m args below meth c H locs 0 0 Q (F0 m 39 ls []))) (fun LL_7 ih_LL_7 v6_8 v5_9 u_10 h H locs ls hP hD hS hl => ?_) n_23 _ _ _ h _ _ _ hP hD hS (lv_sub hl [0, 1, 2, 3, 5, 6] rfl)
  refine lv_iload hx hb dX5_fewest_39 (lv_at hl 0 rfl) ?_
  refine lv_sipush (v := 12800) hx hb dX5_fewest_41 (by decide) ?_
  refine lv_icmp_ge (tgt := 112) hx hb dX5_fewest_44 (by decide) (fun hc_11 => ?_) (fun hc_11 => ?_)
  · replace h := h.1 hc_11
    refine lv_bipush (v := (-4)) hx hb dX5_fewest_112 (by decide) ?_
    subst hQ
    exact W.iret (v := (-4)) hx hb hr (fun t ht hW => ⟨⟨_, u_10, rfl, h, by rw [ht]; exact hP, hD⟩, hS.F ht⟩) hS.2.2 dX5_fewest_114
  · replace h := h.2 hc_11
    refine lv_iload hx hb dX5_fewest_47 (lv_at hl 1 rfl) ?_
    refine lv_aload_n hx hb dX5_fewest_49 rfl (lv_at hl 2 rfl) ?_
    refine va_get (D := (dC, dI)) (ci := 5) (v := .int (u_10.1 2)) (C := RX5) (T := TX5) (N := 3) hx hb hts hin_X5 hown hK hP 0 rfl rfl 2 (by decide) lk_1 (fun _ h9 => h9) rfl dX5_fewest_50 ?_
    refine lv_icmp_ge (tgt := 112) hx hb dX5_fewest_53 (by decide) (fun hc_12 => ?_) (fun hc_12 => ?_)
    · replace h := h.1 hc_12
      refine lv_bipush (v := (-4)) hx hb dX5_fewest_112 (by decide) ?_
      subst hQ
      exact W.iret (v := (-4)) hx hb hr (fun t ht hW => ⟨⟨_, u_10, rfl, h, by rw [ht]; exact hP, hD⟩, hS.F ht⟩) hS.2.2 dX5_fewest_114
    · replace h := h.2 hc_12
      refine lv_aload_n hx hb dX5_fewest_56 rfl (lv_at hl 2 rfl) ?_
      refine va_get (D := (dC, dI)) (ci := 5) (v := .int (u_10.1 2)) (C := RX5) (T := TX5) (N := 3) hx hb hts hin_X5 hown hK hP 0 rfl rfl 2 (by decide) lk_1 (fun _ h9 => h9) rfl dX5_fewest_57 ?_
      refine lv_istore (lv' := [(7, .int (u_10.1 2)), (6, .int v6_8), (5, .int v5_9), (0, .ref (a 0)), (1, .ref (a1 0)), (3, .ref (a3 0)), (4, .int x4)]) hx hb dX5_fewest_60 hl (by decide) rfl (fun ls hl => ?_)
      obtain ⟨n_22, h⟩ := h
      refine lq2_ind (GG := (fun (v5_14 : Int32) (u_15 : Ob) => ∀ (H : Heap) (locs : List Loc) (ls : Array Slot), va_P (dC, dI) vwCl (wd_X5 a ca u_15 ++ (wd_X0 a1 ca1 u1 ++ (wd_X1 a2 ca2 u2 ++ (wd_X1 a3 ca3 u3)))) H → va_D A (wd_X5 a ca u_15 ++ (wd_X0 a1 ca1 u1 ++ (wd_X1 a2 ca2 u2 ++ (wd_X1 a3 ca3 u3)))) → va_S A s.heap H locs → lv_has ls 8 [(7, .int (u_10.1 2)), (6, .int v6_8), (5, .int v5_14), (0, .ref (a 0)), (1, .ref (a1 0)), (3, .ref (a3 0)), (4, .int x4)] → W p l e (headSpec wsX5_fewest rm_X5_fewest).room s m args below meth c H locs 0 0 Q (F0 m 62 ls []))) (fun LL_13 ih_LL_13 v5_14 u_15 h H locs ls hP hD hS hl => ?_) n_22 _ _ h _ _ _ hP hD hS (lv_sub hl [0, 1, 2, 3, 4, 5, 6] rfl)
      refine lv_iload hx hb dX5_fewest_62 (lv_at hl 2 rfl) ?_
      refine lv_iload hx hb dX5_fewest_64 (lv_at hl 0 rfl) ?_
      refine lv_icmp_ge (tgt := 106) hx hb dX5_fewest_66 (by decide) (fun hc_16 => ?_) (fun hc_16 => ?_)
      · replace h := h.1 hc_16
        refine lv_iinc (v := (v6_8 + 1)) (lv' := [(6, .int (v6_8 + 1)), (7, .int (u_10.1 2)), (5, .int v5_14), (0, .ref (a 0)), (1, .ref (a1 0)), (3, .ref (a3 0)), (4, .int x4)]) hx hb dX5_fewest_106 hl (k := 1) rfl rfl (by decide) rfl (fun ls hl => ?_)
        refine lv_goto (tgt := 39) hx hb dX5_fewest_109 (by decide) ?_
        exact ih_LL_7 _ _ _ h _ _ _ hP hD hS (lv_sub hl [0, 2, 3, 4, 5, 6] rfl)
      · replace h := h.2 hc_16
        refine lv_aload_n hx hb dX5_fewest_69 rfl (lv_at hl 3 rfl) ?_
        refine va_get (D := (dC, dI)) (ci := 5) (v := .ref (a 2)) (C := RX5) (T := TX5) (N := 3) hx hb hts hin_X5 hown hK hP 0 rfl rfl 1 (by decide) lk_4 (fun _ h9 => h9) rfl dX5_fewest_70 ?_
        refine lv_iload hx hb dX5_fewest_73 (lv_at hl 2 rfl) ?_
        obtain ⟨hi_17, h⟩ := h
        refine va_iald (D := (dC, dI)) (cl := vwCl) (i := v5_14) hx hb hK hP 2 1 rfl rfl hi_17 dX5_fewest_75 ?_
        refine lv_aload_n hx hb dX5_fewest_76 rfl (lv_at hl 5 rfl) ?_
        have hPc := hP.sub (ws' := (wd_X1 a3 ca3 u3)) [8, 9] rfl
        have hDc := hD.sub (ws' := (wd_X1 a3 ca3 u3)) [8, 9] (by decide) rfl
        have hKc := hK.sub (tys' := (ty_X1 ca3)) [5] rfl
        have hFc := va_free (wc := (wd_X1 a3 ca3 u3)) hD hS hA [8, 9] rfl
        refine va_calli (va_runS (As := [.int (u_15.2.1 1 v5_14.toNatClampNeg), .ref (a3 0)]) (rest := []) ⟨hx, hb, hml, hown, hts⟩ (c_X5_isAimed l dC dI a3 ca3 H.size u3 (u_15.2.1 1 v5_14.toNatClampNeg) _ h) (va_cwS 2 hts gX5_fewest_X5_isAimed rfl rfl rfl (by decide +kernel) ⟨Nat.le_of_ble_eq_true rfl, Nat.le_of_ble_eq_true rfl⟩) ⟨fun a U g mk q => by obtain ⟨q0, q1, qP, qK, qD⟩ := q; exact ⟨q0, q1, qP, va_K.moved (u := U) (U := U.calling g mk a) (Vm.Alike.refl U.vm) qK, qD⟩, fun U hU hW => ⟨rfl, by rw [hU], by rw [hU]; exact hPc, va_K.moved hW.alike hKc, hDc.weaken (fun _ _ _ _ => trivial)⟩⟩ rfl rfl hl.1 rfl (lv_room (Nat.le_of_ble_eq_true rfl)) dX5_fewest_77 ⟨Nat.zero_le _, Nat.zero_le _⟩) hS (fun q _ h => hFc q h) hFc (fun r_18 zz t H1 locs ht hvm hw hB hz1 hk1 hS => ?_)
        replace h := hw
        obtain ⟨hP1, hD1⟩ := hB
        rw [ht] at hP1
        obtain ⟨hP, hD⟩ := va_join (wr := [0, 1, 2, 3, 4, 5, 6, 7].filterMap (fun i => (wd_X5 a ca u_15 ++ (wd_X0 a1 ca1 u1 ++ (wd_X1 a2 ca2 u2 ++ (wd_X1 a3 ca3 u3))))[i]?)) (w1 := (wd_X1 a3 ca3 u3)) hP hD [8, 9] [0, 1, 2, 3, 4, 5, 6, 7] rfl rfl (by decide) (by decide) hk1 hFc hP1 hD1
        replace hP : va_P (dC, dI) vwCl (wd_X5 a ca u_15 ++ (wd_X0 a1 ca1 u1 ++ (wd_X1 a2 ca2 u2 ++ (wd_X1 a3 ca3 u3)))) H1 := (hP.sub [0, 1, 2, 3, 4, 5, 6, 7, 8, 9] rfl)
        replace hD : va_D A (wd_X5 a ca u_15 ++ (wd_X0 a1 ca1 u1 ++ (wd_X1 a2 ca2 u2 ++ (wd_X1 a3 ca3 u3)))) := (hD.sub [0, 1, 2, 3, 4, 5, 6, 7, 8, 9] (by decide) rfl)
        generalize H1 = H at hP hS ⊢
        refine lv_if_eq (tgt := 86) hx hb dX5_fewest_80 (by decide) (fun hc_19 => ?_) (fun hc_19 => ?_)
        · replace h := h.1 hc_19
          refine lv_aload_n hx hb dX5_fewest_86 rfl (lv_at hl 3 rfl) ?_
          refine lv_aload_n hx hb dX5_fewest_87 rfl (lv_at hl 4 rfl) ?_
          refine lv_aload_n hx hb dX5_fewest_88 rfl (lv_at hl 3 rfl) ?_
          refine va_get (D := (dC, dI)) (ci := 5) (v := .ref (a 2)) (C := RX5) (T := TX5) (N := 3) hx hb hts hin_X5 hown hK hP 0 rfl rfl 1 (by decide) lk_4 (fun _ h9 => h9) rfl dX5_fewest_89 ?_
          refine lv_iload hx hb dX5_fewest_92 (lv_at hl 2 rfl) ?_
          obtain ⟨hi_20, h⟩ := h
          refine va_iald (D := (dC, dI)) (cl := vwCl) (i := v5_14) hx hb hK hP 2 1 rfl rfl hi_20 dX5_fewest_94 ?_
          refine lv_iload hx hb dX5_fewest_95 (lv_at hl 6 rfl) ?_
          have hPc := hP.sub (ws' := (wd_X5 a ca u_15 ++ (wd_X0 a1 ca1 u1))) [0, 1, 2, 3, 4, 5] rfl
          have hDc := hD.sub (ws' := (wd_X5 a ca u_15 ++ (wd_X0 a1 ca1 u1))) [0, 1, 2, 3, 4, 5] (by decide) rfl
          have hKc := hK.sub (tys' := (ty_X5 ca ++ (ty_X0 ca1))) [0, 1, 2, 3] rfl
          have hFc := va_free (wc := (wd_X5 a ca u_15 ++ (wd_X0 a1 ca1 u1))) hD hS hA [0, 1, 2, 3, 4, 5] rfl
          refine va_callv (va_runV (As := [.ref (a1 0), .int (u_15.2.1 1 v5_14.toNatClampNeg), .int x4]) (rest := []) ⟨hx, hb, hml, hown, hts⟩ (c_X5_goOn l dC dI a ca a1 ca1 H.size u_15 u1 (u_15.2.1 1 v5_14.toNatClampNeg) x4 _ h) (cwV 3 hts gX5_fewest_X5_goOn rfl rfl rfl (by decide +kernel) ⟨Nat.le_of_ble_eq_true rfl, Nat.le_of_ble_eq_true rfl⟩) ⟨fun a U g mk q => by obtain ⟨q0, q1, qP, qK, qD⟩ := q; exact ⟨q0, q1, qP, va_K.moved (u := U) (U := U.calling g mk a) (Vm.Alike.refl U.vm) qK, qD⟩, va_recv hKc hPc (ci := 5) (q0 := 0) rfl rfl, fun U hU hW => ⟨rfl, by rw [hU], by rw [hU]; exact hPc, va_K.moved hW.alike hKc, hDc.weaken (fun _ _ _ _ => trivial)⟩⟩ rfl rfl hl.1 rfl (lv_room (Nat.le_of_ble_eq_true rfl)) dX5_fewest_97 ⟨Nat.zero_le _, Nat.zero_le _⟩) hS (fun q _ h => hFc q h) hFc (fun zz t H1 locs ht hvm hw hB hz1 hk1 hS => ?_)
          obtain ⟨u_21, rfl⟩ : ∃ z, z = zz := ⟨_, rfl⟩
          replace h := hw
          obtain ⟨hP1, hD1⟩ := hB
          rw [ht] at hP1
          obtain ⟨hP, hD⟩ := va_join (wr := [6, 7, 8, 9].filterMap (fun i => (wd_X5 a ca u_15 ++ (wd_X0 a1 ca1 u1 ++ (wd_X1 a2 ca2 u2 ++ (wd_X1 a3 ca3 u3))))[i]?)) (w1 := (wd_X5 a ca u_21 ++ (wd_X0 a1 ca1 u1))) hP hD [0, 1, 2, 3, 4, 5] [6, 7, 8, 9] rfl rfl (by decide) (by decide) hk1 hFc hP1 hD1
          replace hP : va_P (dC, dI) vwCl (wd_X5 a ca u_21 ++ (wd_X0 a1 ca1 u1 ++ (wd_X1 a2 ca2 u2 ++ (wd_X1 a3 ca3 u3)))) H1 := (hP.sub [4, 5, 6, 7, 8, 9, 0, 1, 2, 3] rfl)
          replace hD : va_D A (wd_X5 a ca u_21 ++ (wd_X0 a1 ca1 u1 ++ (wd_X1 a2 ca2 u2 ++ (wd_X1 a3 ca3 u3)))) := (hD.sub [4, 5, 6, 7, 8, 9, 0, 1, 2, 3] (by decide) rfl)
          generalize H1 = H at hP hS ⊢
          refine lv_iinc (v := (v5_14 + 1)) (lv' := [(5, .int (v5_14 + 1)), (7, .int (u_10.1 2)), (6, .int v6_8), (0, .ref (a 0)), (1, .ref (a1 0)), (3, .ref (a3 0)), (4, .int x4)]) hx hb dX5_fewest_100 hl (k := 2) rfl rfl (by decide) rfl (fun ls hl => ?_)
          refine lv_goto (tgt := 62) hx hb dX5_fewest_103 (by decide) ?_
          exact ih_LL_13 _ _ h _ _ _ hP hD hS (lv_sub hl [1, 2, 0, 3, 4, 5, 6] rfl)
        · replace h := h.2 hc_19
          refine lv_iload hx hb dX5_fewest_83 (lv_at hl 1 rfl) ?_
          subst hQ
          exact W.iret (v := v6_8) hx hb hr (fun t ht hW => ⟨⟨_, u_15, rfl, h, by rw [ht]; exact hP, hD⟩, hS.F ht⟩) hS.2.2 dX5_fewest_85
