abbrev rm_X8_inOrder : Room := { frames := 1, cells := 0, slots := 0, locals := 22 }
set_option maxHeartbeats 4000000 in
set_option maxRecDepth 100000 in
theorem c_X8_inOrder (l : Launch) (dC : Nat → ClassId) (dI : Nat → Nat → Nat) (a : Nat → Nat) (ca : Nat → ClassId) (sz : Nat) (u : Ob) (x1 : Int32) (x2 : Int32) (x3 : Int32) (post : Int32 → Prop) (h : wp_X8_inOrder u x1 x2 x3 post) : Met l yX8_inOrder wsX8_inOrder rm_X8_inOrder (va_Pc [.ref (a 0), .int x1, .int x2, .int x3] (fun U => U.heap.size = sz ∧ va_P (dC, dI) vwCl (wd_X8 a ca u) U.heap ∧ va_K (dC, dI) vwCl (ty_X8 ca) U ∧ va_D (fun _ => True) (wd_X8 a ca u))) (va_Qi (fun (rr : Int32) (_ : Unit) => post rr) (fun (zz : Unit) (t : State) => va_P (dC, dI) vwCl (wd_X8 a ca u) t.heap ∧ va_D (va_A (wd_X8 a ca u) sz) (wd_X8 a ca u)) (va_A (wd_X8 a ca u) sz)) 0 0 (va_A (wd_X8 a ca u) sz) := by
  refine fl_ofW (cc := cX8_inOrder) (maxL := 5) (ret := (some .int)) (by decide) rfl ?_
  intro p e s m args below meth c s₁ Q B hml hv hQ
  obtain ⟨hargs, hsz, hP, hK, hD0⟩ := hv
  have hx := B.exec
  have hb := B.bytes
  have hr := B.returns
  have hts := atoms_spec (ws := wsX8_inOrder) B.pre
  have hown : s.vm.findClass RX8 = some m.cls := findClass_of_methodNamed B.named
  subst hsz
  have hD := hD0.self (sz := s.heap.size)
  generalize hAe : va_A (wd_X8 a ca u) s.heap.size = A at hD hQ
  have hA : ∀ q : Nat, s.heap.size ≤ q → A q := fun q h => by rw [← hAe]; exact Or.inr h
  have hS : va_S A s.heap s.heap [] := va_S.rf
  have hl := lv_entry ([.ref (a 0), .int x1, .int x2, .int x3]) (n := 5) (Nat.le_of_ble_eq_true rfl)
  refine W.eq (g2 := F0 m 0 ((lg_sl ([.ref (a 0), .int x1, .int x2, .int x3]) ++ List.replicate (5 - (lg_sl ([.ref (a 0), .int x1, .int x2, .int x3])).length) Slot.unset).toArray) []) (by rw [hargs]; exact lg_entry_eq m _ 5) ?_
  generalize (lg_sl ([.ref (a 0), .int x1, .int x2, .int x3]) ++ List.replicate (5 - (lg_sl ([.ref (a 0), .int x1, .int x2, .int x3])).length) Slot.unset).toArray = ls at hl ⊢
  have hl : lv_has ls 5 [(0, .ref (a 0)), (1, .int x1), (2, .int x2), (3, .int x3)] := hl
  suffices hstart : ∀ (H : Heap) (locs : List Loc) (ls : Array Slot), va_P (dC, dI) vwCl (wd_X8 a ca u) H → va_D A (wd_X8 a ca u) → va_S A s.heap H locs → lv_has ls 5 [(0, .ref (a 0)), (1, .int x1), (2, .int x2), (3, .int x3)] → W p l e (headSpec wsX8_inOrder rm_X8_inOrder).room s m args below meth c H locs 0 0 Q (F0 m 0 ls []) from hstart _ _ _ hP hD hS hl
  clear hS hP hD hD0
  intro H locs ls hP hD hS hl
  have hin_X8 : ∀ w ∈ wsX80, w ∈ wsX8_inOrder := by decide +kernel
  have lk_0 := hts (.fieldLink RX8 42 "ForgettingLinesModel" "sizes" "[I") (by decide +kernel)
  have lk_1 := hts (.fieldLink RX8 45 "ForgettingLinesModel" "words" "[I") (by decide +kernel)
  unfold wp_X8_inOrder at h
  refine lv_iconst (v := 0) hx hb dX8_inOrder_0 (by decide) ?_
  refine lv_istore (lv' := [(4, .int 0), (0, .ref (a 0)), (1, .int x1), (2, .int x2), (3, .int x3)]) hx hb dX8_inOrder_1 hl (by decide) rfl (fun ls hl => ?_)
  obtain ⟨n_8, h⟩ := h
  refine lq1_ind (GG := (fun (v4_2 : Int32) => ∀ (H : Heap) (locs : List Loc) (ls : Array Slot), va_P (dC, dI) vwCl (wd_X8 a ca u) H → va_D A (wd_X8 a ca u) → va_S A s.heap H locs → lv_has ls 5 [(4, .int v4_2), (0, .ref (a 0)), (1, .int x1), (2, .int x2), (3, .int x3)] → W p l e (headSpec wsX8_inOrder rm_X8_inOrder).room s m args below meth c H locs 0 0 Q (F0 m 3 ls []))) (fun LL_1 ih_LL_1 v4_2 h H locs ls hP hD hS hl => ?_) n_8 _ h _ _ _ hP hD hS (lv_sub hl [0, 1, 2, 3, 4] rfl)
  refine lv_iload hx hb dX8_inOrder_3 (lv_at hl 0 rfl) ?_
  refine lv_aload_n hx hb dX8_inOrder_5 rfl (lv_at hl 1 rfl) ?_
  refine va_get (D := (dC, dI)) (ci := 7) (v := .ref (a 15)) (C := RX8) (T := TX8) (N := 25) hx hb hts hin_X8 hown hK hP 0 rfl rfl 14 (by decide) lk_0 (fun _ h9 => h9) rfl dX8_inOrder_6 ?_
  refine lv_iconst (v := 2) hx hb dX8_inOrder_9 (by decide) ?_
  refine lv_iload_n hx hb dX8_inOrder_10 rfl (lv_at hl 2 rfl) ?_
  refine lv_imul hx hb dX8_inOrder_11 ?_
  refine lv_iload_n hx hb dX8_inOrder_12 rfl (lv_at hl 3 rfl) ?_
  refine lv_iadd hx hb dX8_inOrder_13 ?_
  obtain ⟨hi_3, h⟩ := h
  refine va_iald (D := (dC, dI)) (cl := vwCl) (i := ((2 * x1) + x2)) hx hb hK hP 10 9 rfl rfl hi_3 dX8_inOrder_14 ?_
  refine lv_icmp_ge (tgt := 40) hx hb dX8_inOrder_15 (by decide) (fun hc_4 => ?_) (fun hc_4 => ?_)
  · replace h := h.1 hc_4
    refine lv_iload hx hb dX8_inOrder_40 (lv_at hl 0 rfl) ?_
    subst hQ
    exact W.iret (v := v4_2) hx hb hr (fun t ht hW => ⟨⟨_, (), rfl, h, by rw [ht]; exact hP, hD⟩, hS.F ht⟩) hS.2.2 dX8_inOrder_42
  · replace h := h.2 hc_4
    refine lv_aload_n hx hb dX8_inOrder_18 rfl (lv_at hl 1 rfl) ?_
    refine va_get (D := (dC, dI)) (ci := 7) (v := .ref (a 16)) (C := RX8) (T := TX8) (N := 25) hx hb hts hin_X8 hown hK hP 0 rfl rfl 15 (by decide) lk_1 (fun _ h9 => h9) rfl dX8_inOrder_19 ?_
    refine lv_iload_n hx hb dX8_inOrder_22 rfl (lv_at hl 2 rfl) ?_
    refine lv_iload_n hx hb dX8_inOrder_23 rfl (lv_at hl 3 rfl) ?_
    refine lv_iload hx hb dX8_inOrder_24 (lv_at hl 0 rfl) ?_
    have hFc := fl_freeN hS hA
    refine va_calli (va_runS (As := [.int x1, .int x2, .int v4_2]) (rest := [.ref (a 16)]) ⟨hx, hb, hml, hown, hts⟩ (c_X8_spot l H.size x1 x2 v4_2 _ h) (va_cwS 3 hts gX8_inOrder_X8_spot rfl rfl rfl (by decide +kernel) ⟨Nat.le_of_ble_eq_true rfl, Nat.le_of_ble_eq_true rfl⟩) ⟨fun a U g mk q => by obtain ⟨q0, q1⟩ := q; exact ⟨q0, q1⟩, fun U hU hW => ⟨rfl, congrArg Array.size hU⟩⟩ rfl rfl hl.1 rfl (lv_room (Nat.le_of_ble_eq_true rfl)) dX8_inOrder_26 ⟨Nat.zero_le _, Nat.zero_le _⟩) hS (fun q _ h => hFc q h) hFc (fun r_5 zz t H1 locs ht hvm hw hB hz1 hk1 hS => ?_)
    replace hP := fl_keep hP hk1
    replace h := hw
    generalize H1 = H at hP hS ⊢
    obtain ⟨hi_6, h⟩ := h
    refine va_iald (D := (dC, dI)) (cl := vwCl) (i := r_5) hx hb hK hP 11 10 rfl rfl hi_6 dX8_inOrder_29 ?_
    refine lv_iload_n hx hb dX8_inOrder_30 rfl (lv_at hl 4 rfl) ?_
    refine lv_icmp_gt (tgt := 40) hx hb dX8_inOrder_31 (by decide) (fun hc_7 => ?_) (fun hc_7 => ?_)
    · replace h := h.1 hc_7
      refine lv_iload hx hb dX8_inOrder_40 (lv_at hl 0 rfl) ?_
      subst hQ
      exact W.iret (v := v4_2) hx hb hr (fun t ht hW => ⟨⟨_, (), rfl, h, by rw [ht]; exact hP, hD⟩, hS.F ht⟩) hS.2.2 dX8_inOrder_42
    · replace h := h.2 hc_7
      refine lv_iinc (v := (v4_2 + 1)) (lv' := [(4, .int (v4_2 + 1)), (0, .ref (a 0)), (1, .int x1), (2, .int x2), (3, .int x3)]) hx hb dX8_inOrder_34 hl (k := 0) rfl rfl (by decide) rfl (fun ls hl => ?_)
      refine lv_goto (tgt := 3) hx hb dX8_inOrder_37 (by decide) ?_
      exact ih_LL_1 _ h _ _ _ hP hD hS (lv_sub hl [0, 1, 2, 3, 4] rfl)
abbrev rm_X8_firstOf : Room := { frames := 1, cells := 0, slots := 0, locals := 22 }
set_option maxHeartbeats 4000000 in
set_option maxRecDepth 100000 in
theorem c_X8_firstOf (l : Launch) (dC : Nat → ClassId) (dI : Nat → Nat → Nat) (a : Nat → Nat) (ca : Nat → ClassId) (sz : Nat) (u : Ob) (x1 : Int32) (x2 : Int32) (x3 : Int32) (post : Int32 → Prop) (h : wp_X8_firstOf u x1 x2 x3 post) : Met l yX8_firstOf wsX8_firstOf rm_X8_firstOf (va_Pc [.ref (a 0), .int x1, .int x2, .int x3] (fun U => U.heap.size = sz ∧ va_P (dC, dI) vwCl (wd_X8 a ca u) U.heap ∧ va_K (dC, dI) vwCl (ty_X8 ca) U ∧ va_D (fun _ => True) (wd_X8 a ca u))) (va_Qi (fun (rr : Int32) (_ : Unit) => post rr) (fun (zz : Unit) (t : State) => va_P (dC, dI) vwCl (wd_X8 a ca u) t.heap ∧ va_D (va_A (wd_X8 a ca u) sz) (wd_X8 a ca u)) (va_A (wd_X8 a ca u) sz)) 0 0 (va_A (wd_X8 a ca u) sz) := by
  refine fl_ofW (cc := cX8_firstOf) (maxL := 5) (ret := (some .int)) (by decide) rfl ?_
  intro p e s m args below meth c s₁ Q B hml hv hQ
  obtain ⟨hargs, hsz, hP, hK, hD0⟩ := hv
  have hx := B.exec
  have hb := B.bytes
  have hr := B.returns
  have hts := atoms_spec (ws := wsX8_firstOf) B.pre
  have hown : s.vm.findClass RX8 = some m.cls := findClass_of_methodNamed B.named
  subst hsz
  have hD := hD0.self (sz := s.heap.size)
  generalize hAe : va_A (wd_X8 a ca u) s.heap.size = A at hD hQ
  have hA : ∀ q : Nat, s.heap.size ≤ q → A q := fun q h => by rw [← hAe]; exact Or.inr h
  have hS : va_S A s.heap s.heap [] := va_S.rf
  have hl := lv_entry ([.ref (a 0), .int x1, .int x2, .int x3]) (n := 5) (Nat.le_of_ble_eq_true rfl)
  refine W.eq (g2 := F0 m 0 ((lg_sl ([.ref (a 0), .int x1, .int x2, .int x3]) ++ List.replicate (5 - (lg_sl ([.ref (a 0), .int x1, .int x2, .int x3])).length) Slot.unset).toArray) []) (by rw [hargs]; exact lg_entry_eq m _ 5) ?_
  generalize (lg_sl ([.ref (a 0), .int x1, .int x2, .int x3]) ++ List.replicate (5 - (lg_sl ([.ref (a 0), .int x1, .int x2, .int x3])).length) Slot.unset).toArray = ls at hl ⊢
  have hl : lv_has ls 5 [(0, .ref (a 0)), (1, .int x1), (2, .int x2), (3, .int x3)] := hl
  suffices hstart : ∀ (H : Heap) (locs : List Loc) (ls : Array Slot), va_P (dC, dI) vwCl (wd_X8 a ca u) H → va_D A (wd_X8 a ca u) → va_S A s.heap H locs → lv_has ls 5 [(0, .ref (a 0)), (1, .int x1), (2, .int x2), (3, .int x3)] → W p l e (headSpec wsX8_firstOf rm_X8_firstOf).room s m args below meth c H locs 0 0 Q (F0 m 0 ls []) from hstart _ _ _ hP hD hS hl
  clear hS hP hD hD0
  intro H locs ls hP hD hS hl
  have hin_X8 : ∀ w ∈ wsX80, w ∈ wsX8_firstOf := by decide +kernel
  have lk_0 := hts (.fieldLink RX8 42 "ForgettingLinesModel" "sizes" "[I") (by decide +kernel)
  have lk_1 := hts (.fieldLink RX8 45 "ForgettingLinesModel" "words" "[I") (by decide +kernel)
  unfold wp_X8_firstOf at h
  refine lv_iconst (v := 0) hx hb dX8_firstOf_0 (by decide) ?_
  refine lv_istore (lv' := [(4, .int 0), (0, .ref (a 0)), (1, .int x1), (2, .int x2), (3, .int x3)]) hx hb dX8_firstOf_1 hl (by decide) rfl (fun ls hl => ?_)
  obtain ⟨n_8, h⟩ := h
  refine lq1_ind (GG := (fun (v4_2 : Int32) => ∀ (H : Heap) (locs : List Loc) (ls : Array Slot), va_P (dC, dI) vwCl (wd_X8 a ca u) H → va_D A (wd_X8 a ca u) → va_S A s.heap H locs → lv_has ls 5 [(4, .int v4_2), (0, .ref (a 0)), (1, .int x1), (2, .int x2), (3, .int x3)] → W p l e (headSpec wsX8_firstOf rm_X8_firstOf).room s m args below meth c H locs 0 0 Q (F0 m 3 ls []))) (fun LL_1 ih_LL_1 v4_2 h H locs ls hP hD hS hl => ?_) n_8 _ h _ _ _ hP hD hS (lv_sub hl [0, 1, 2, 3, 4] rfl)
  refine lv_iload hx hb dX8_firstOf_3 (lv_at hl 0 rfl) ?_
  refine lv_aload_n hx hb dX8_firstOf_5 rfl (lv_at hl 1 rfl) ?_
  refine va_get (D := (dC, dI)) (ci := 7) (v := .ref (a 15)) (C := RX8) (T := TX8) (N := 25) hx hb hts hin_X8 hown hK hP 0 rfl rfl 14 (by decide) lk_0 (fun _ h9 => h9) rfl dX8_firstOf_6 ?_
  refine lv_iconst (v := 2) hx hb dX8_firstOf_9 (by decide) ?_
  refine lv_iload_n hx hb dX8_firstOf_10 rfl (lv_at hl 2 rfl) ?_
  refine lv_imul hx hb dX8_firstOf_11 ?_
  refine lv_iload_n hx hb dX8_firstOf_12 rfl (lv_at hl 3 rfl) ?_
  refine lv_iadd hx hb dX8_firstOf_13 ?_
  obtain ⟨hi_3, h⟩ := h
  refine va_iald (D := (dC, dI)) (cl := vwCl) (i := ((2 * x1) + x2)) hx hb hK hP 10 9 rfl rfl hi_3 dX8_firstOf_14 ?_
  refine lv_icmp_ge (tgt := 43) hx hb dX8_firstOf_15 (by decide) (fun hc_4 => ?_) (fun hc_4 => ?_)
  · replace h := h.1 hc_4
    refine lv_iconst (v := (-1)) hx hb dX8_firstOf_43 (by decide) ?_
    subst hQ
    exact W.iret (v := (-1)) hx hb hr (fun t ht hW => ⟨⟨_, (), rfl, h, by rw [ht]; exact hP, hD⟩, hS.F ht⟩) hS.2.2 dX8_firstOf_44
  · replace h := h.2 hc_4
    refine lv_aload_n hx hb dX8_firstOf_18 rfl (lv_at hl 1 rfl) ?_
    refine va_get (D := (dC, dI)) (ci := 7) (v := .ref (a 16)) (C := RX8) (T := TX8) (N := 25) hx hb hts hin_X8 hown hK hP 0 rfl rfl 15 (by decide) lk_1 (fun _ h9 => h9) rfl dX8_firstOf_19 ?_
    refine lv_iload_n hx hb dX8_firstOf_22 rfl (lv_at hl 2 rfl) ?_
    refine lv_iload_n hx hb dX8_firstOf_23 rfl (lv_at hl 3 rfl) ?_
    refine lv_iload hx hb dX8_firstOf_24 (lv_at hl 0 rfl) ?_
    have hFc := fl_freeN hS hA
    refine va_calli (va_runS (As := [.int x1, .int x2, .int v4_2]) (rest := [.ref (a 16)]) ⟨hx, hb, hml, hown, hts⟩ (c_X8_spot l H.size x1 x2 v4_2 _ h) (va_cwS 3 hts gX8_firstOf_X8_spot rfl rfl rfl (by decide +kernel) ⟨Nat.le_of_ble_eq_true rfl, Nat.le_of_ble_eq_true rfl⟩) ⟨fun a U g mk q => by obtain ⟨q0, q1⟩ := q; exact ⟨q0, q1⟩, fun U hU hW => ⟨rfl, congrArg Array.size hU⟩⟩ rfl rfl hl.1 rfl (lv_room (Nat.le_of_ble_eq_true rfl)) dX8_firstOf_26 ⟨Nat.zero_le _, Nat.zero_le _⟩) hS (fun q _ h => hFc q h) hFc (fun r_5 zz t H1 locs ht hvm hw hB hz1 hk1 hS => ?_)
    replace hP := fl_keep hP hk1
    replace h := hw
    generalize H1 = H at hP hS ⊢
    obtain ⟨hi_6, h⟩ := h
    refine va_iald (D := (dC, dI)) (cl := vwCl) (i := r_5) hx hb hK hP 11 10 rfl rfl hi_6 dX8_firstOf_29 ?_
    refine lv_iload_n hx hb dX8_firstOf_30 rfl (lv_at hl 4 rfl) ?_
    refine lv_icmp_ne (tgt := 37) hx hb dX8_firstOf_31 (by decide) (fun hc_7 => ?_) (fun hc_7 => ?_)
    · replace h := h.1 hc_7
      refine lv_iinc (v := (v4_2 + 1)) (lv' := [(4, .int (v4_2 + 1)), (0, .ref (a 0)), (1, .int x1), (2, .int x2), (3, .int x3)]) hx hb dX8_firstOf_37 hl (k := 0) rfl rfl (by decide) rfl (fun ls hl => ?_)
      refine lv_goto (tgt := 3) hx hb dX8_firstOf_40 (by decide) ?_
      exact ih_LL_1 _ h _ _ _ hP hD hS (lv_sub hl [0, 1, 2, 3, 4] rfl)
    · replace h := h.2 hc_7
      refine lv_iload hx hb dX8_firstOf_34 (lv_at hl 0 rfl) ?_
      subst hQ
      exact W.iret (v := v4_2) hx hb hr (fun t ht hW => ⟨⟨_, (), rfl, h, by rw [ht]; exact hP, hD⟩, hS.F ht⟩) hS.2.2 dX8_firstOf_36
abbrev rm_X8_isBelow : Room := { frames := 1, cells := 0, slots := 0, locals := 22 }
set_option maxHeartbeats 4000000 in
set_option maxRecDepth 100000 in
theorem c_X8_isBelow (l : Launch) (dC : Nat → ClassId) (dI : Nat → Nat → Nat) (a : Nat → Nat) (ca : Nat → ClassId) (sz : Nat) (u : Ob) (x1 : Int32) (x2 : Int32) (post : Int32 → Prop) (h : wp_X8_isBelow u x1 x2 post) : Met l yX8_isBelow wsX8_isBelow rm_X8_isBelow (va_Pc [.ref (a 0), .int x1, .int x2] (fun U => U.heap.size = sz ∧ va_P (dC, dI) vwCl (wd_X8 a ca u) U.heap ∧ va_K (dC, dI) vwCl (ty_X8 ca) U ∧ va_D (fun _ => True) (wd_X8 a ca u))) (va_Qi (fun (rr : Int32) (_ : Unit) => post rr) (fun (zz : Unit) (t : State) => va_P (dC, dI) vwCl (wd_X8 a ca u) t.heap ∧ va_D (va_A (wd_X8 a ca u) sz) (wd_X8 a ca u)) (va_A (wd_X8 a ca u) sz)) 0 0 (va_A (wd_X8 a ca u) sz) := by
  refine fl_ofW (cc := cX8_isBelow) (maxL := 7) (ret := (some .boolean)) (by decide) rfl ?_
  intro p e s m args below meth c s₁ Q B hml hv hQ
  obtain ⟨hargs, hsz, hP, hK, hD0⟩ := hv
  have hx := B.exec
  have hb := B.bytes
  have hr := B.returns
  have hts := atoms_spec (ws := wsX8_isBelow) B.pre
  have hown : s.vm.findClass RX8 = some m.cls := findClass_of_methodNamed B.named
  subst hsz
  have hD := hD0.self (sz := s.heap.size)
  generalize hAe : va_A (wd_X8 a ca u) s.heap.size = A at hD hQ
  have hA : ∀ q : Nat, s.heap.size ≤ q → A q := fun q h => by rw [← hAe]; exact Or.inr h
  have hS : va_S A s.heap s.heap [] := va_S.rf
  have hl := lv_entry ([.ref (a 0), .int x1, .int x2]) (n := 7) (Nat.le_of_ble_eq_true rfl)
  refine W.eq (g2 := F0 m 0 ((lg_sl ([.ref (a 0), .int x1, .int x2]) ++ List.replicate (7 - (lg_sl ([.ref (a 0), .int x1, .int x2])).length) Slot.unset).toArray) []) (by rw [hargs]; exact lg_entry_eq m _ 7) ?_
  generalize (lg_sl ([.ref (a 0), .int x1, .int x2]) ++ List.replicate (7 - (lg_sl ([.ref (a 0), .int x1, .int x2])).length) Slot.unset).toArray = ls at hl ⊢
  have hl : lv_has ls 7 [(0, .ref (a 0)), (1, .int x1), (2, .int x2)] := hl
  suffices hstart : ∀ (H : Heap) (locs : List Loc) (ls : Array Slot), va_P (dC, dI) vwCl (wd_X8 a ca u) H → va_D A (wd_X8 a ca u) → va_S A s.heap H locs → lv_has ls 7 [(0, .ref (a 0)), (1, .int x1), (2, .int x2)] → W p l e (headSpec wsX8_isBelow rm_X8_isBelow).room s m args below meth c H locs 0 0 Q (F0 m 0 ls []) from hstart _ _ _ hP hD hS hl
  clear hS hP hD hD0
  intro H locs ls hP hD hS hl
  have hin_X8 : ∀ w ∈ wsX80, w ∈ wsX8_isBelow := by decide +kernel
  have lk_0 := hts (.fieldLink RX8 39 "ForgettingLinesModel" "stateOf" "[I") (by decide +kernel)
  have lk_1 := hts (.fieldLink RX8 42 "ForgettingLinesModel" "sizes" "[I") (by decide +kernel)
  have lk_2 := hts (.fieldLink RX8 45 "ForgettingLinesModel" "words" "[I") (by decide +kernel)
  unfold wp_X8_isBelow at h
  refine lv_aload_n hx hb dX8_isBelow_0 rfl (lv_at hl 0 rfl) ?_
  refine va_get (D := (dC, dI)) (ci := 7) (v := .ref (a 14)) (C := RX8) (T := TX8) (N := 25) hx hb hts hin_X8 hown hK hP 0 rfl rfl 13 (by decide) lk_0 (fun _ h9 => h9) rfl dX8_isBelow_1 ?_
  refine lv_iload_n hx hb dX8_isBelow_4 rfl (lv_at hl 1 rfl) ?_
  obtain ⟨hi_1, h⟩ := h
  refine va_iald (D := (dC, dI)) (cl := vwCl) (i := x1) hx hb hK hP 9 8 rfl rfl hi_1 dX8_isBelow_5 ?_
  refine lv_aload_n hx hb dX8_isBelow_6 rfl (lv_at hl 0 rfl) ?_
  refine va_get (D := (dC, dI)) (ci := 7) (v := .ref (a 14)) (C := RX8) (T := TX8) (N := 25) hx hb hts hin_X8 hown hK hP 0 rfl rfl 13 (by decide) lk_0 (fun _ h9 => h9) rfl dX8_isBelow_7 ?_
  refine lv_iload_n hx hb dX8_isBelow_10 rfl (lv_at hl 2 rfl) ?_
  obtain ⟨hi_2, h⟩ := h
  refine va_iald (D := (dC, dI)) (cl := vwCl) (i := x2) hx hb hK hP 9 8 rfl rfl hi_2 dX8_isBelow_11 ?_
  refine jn1_ind (GG := (fun (w_4 : Int32) => ∀ (H : Heap) (locs : List Loc) (ls : Array Slot), va_P (dC, dI) vwCl (wd_X8 a ca u) H → va_D A (wd_X8 a ca u) → va_S A s.heap H locs → lv_has ls 7 [(0, .ref (a 0)), (1, .int x1), (2, .int x2)] → W p l e (headSpec wsX8_isBelow rm_X8_isBelow).room s m args below meth c H locs 0 0 Q (F0 m 20 ls [.int w_4]))) h (fun w_4 h H locs ls hP hD hS hl => ?_) (fun JJ_3 ih_JJ_3 h => ?_)
  · refine lv_istore_n (lv' := [(3, .int w_4), (0, .ref (a 0)), (1, .int x1), (2, .int x2)]) hx hb dX8_isBelow_20 rfl hl (by decide) rfl (fun ls hl => ?_)
    refine lv_iconst (v := 0) hx hb dX8_isBelow_21 (by decide) ?_
    refine lv_istore (lv' := [(4, .int 0), (3, .int w_4), (0, .ref (a 0)), (1, .int x1), (2, .int x2)]) hx hb dX8_isBelow_22 hl (by decide) rfl (fun ls hl => ?_)
    obtain ⟨n_30, h⟩ := h
    refine lq2_ind (GG := (fun (v4_6 : Int32) (v3_7 : Int32) => ∀ (H : Heap) (locs : List Loc) (ls : Array Slot), va_P (dC, dI) vwCl (wd_X8 a ca u) H → va_D A (wd_X8 a ca u) → va_S A s.heap H locs → lv_has ls 7 [(4, .int v4_6), (3, .int v3_7), (0, .ref (a 0)), (1, .int x1), (2, .int x2)] → W p l e (headSpec wsX8_isBelow rm_X8_isBelow).room s m args below meth c H locs 0 0 Q (F0 m 24 ls []))) (fun LL_5 ih_LL_5 v4_6 v3_7 h H locs ls hP hD hS hl => ?_) n_30 _ _ h _ _ _ hP hD hS (lv_sub hl [0, 1, 2, 3, 4] rfl)
    refine lv_iload hx hb dX8_isBelow_24 (lv_at hl 0 rfl) ?_
    refine lv_iconst (v := 2) hx hb dX8_isBelow_26 (by decide) ?_
    refine lv_icmp_ge (tgt := 145) hx hb dX8_isBelow_27 (by decide) (fun hc_8 => ?_) (fun hc_8 => ?_)
    · replace h := h.1 hc_8
      refine lv_iload_n hx hb dX8_isBelow_145 rfl (lv_at hl 1 rfl) ?_
      obtain ⟨hz, h⟩ := h
      subst hQ
      exact W.zret (v := v3_7) hx hb hr hz (fun t ht hW => ⟨⟨_, (), rfl, h, by rw [ht]; exact hP, hD⟩, hS.F ht⟩) hS.2.2 dX8_isBelow_146
    · replace h := h.2 hc_8
      refine lv_iload_n hx hb dX8_isBelow_30 rfl (lv_at hl 1 rfl) ?_
      refine lv_if_eq (tgt := 145) hx hb dX8_isBelow_31 (by decide) (fun hc_9 => ?_) (fun hc_9 => ?_)
      · replace h := h.1 hc_9
        refine lv_iload_n hx hb dX8_isBelow_145 rfl (lv_at hl 1 rfl) ?_
        obtain ⟨hz, h⟩ := h
        subst hQ
        exact W.zret (v := v3_7) hx hb hr hz (fun t ht hW => ⟨⟨_, (), rfl, h, by rw [ht]; exact hP, hD⟩, hS.F ht⟩) hS.2.2 dX8_isBelow_146
      · replace h := h.2 hc_9
        refine lv_iconst (v := 0) hx hb dX8_isBelow_34 (by decide) ?_
        refine lv_istore (lv' := [(5, .int 0), (4, .int v4_6), (3, .int v3_7), (0, .ref (a 0)), (1, .int x1), (2, .int x2)]) hx hb dX8_isBelow_35 hl (by decide) rfl (fun ls hl => ?_)
        refine lv_iconst (v := 0) hx hb dX8_isBelow_37 (by decide) ?_
        refine lv_istore (lv' := [(6, .int 0), (5, .int 0), (4, .int v4_6), (3, .int v3_7), (0, .ref (a 0)), (1, .int x1), (2, .int x2)]) hx hb dX8_isBelow_38 hl (by decide) rfl (fun ls hl => ?_)
        obtain ⟨n_29, h⟩ := h
        refine lq2_ind (GG := (fun (v6_11 : Int32) (v5_12 : Int32) => ∀ (H : Heap) (locs : List Loc) (ls : Array Slot), va_P (dC, dI) vwCl (wd_X8 a ca u) H → va_D A (wd_X8 a ca u) → va_S A s.heap H locs → lv_has ls 7 [(6, .int v6_11), (5, .int v5_12), (4, .int v4_6), (0, .ref (a 0)), (1, .int x1), (2, .int x2)] → W p l e (headSpec wsX8_isBelow rm_X8_isBelow).room s m args below meth c H locs 0 0 Q (F0 m 40 ls []))) (fun LL_10 ih_LL_10 v6_11 v5_12 h H locs ls hP hD hS hl => ?_) n_29 _ _ h _ _ _ hP hD hS (lv_sub hl [0, 1, 2, 4, 5, 6] rfl)
        refine lv_iload hx hb dX8_isBelow_40 (lv_at hl 0 rfl) ?_
        refine lv_aload_n hx hb dX8_isBelow_42 rfl (lv_at hl 3 rfl) ?_
        refine va_get (D := (dC, dI)) (ci := 7) (v := .ref (a 15)) (C := RX8) (T := TX8) (N := 25) hx hb hts hin_X8 hown hK hP 0 rfl rfl 14 (by decide) lk_1 (fun _ h9 => h9) rfl dX8_isBelow_43 ?_
        refine lv_iconst (v := 2) hx hb dX8_isBelow_46 (by decide) ?_
        refine lv_iload_n hx hb dX8_isBelow_47 rfl (lv_at hl 5 rfl) ?_
        refine lv_imul hx hb dX8_isBelow_48 ?_
        refine lv_iload hx hb dX8_isBelow_49 (lv_at hl 2 rfl) ?_
        refine lv_iadd hx hb dX8_isBelow_51 ?_
        obtain ⟨hi_13, h⟩ := h
        refine va_iald (D := (dC, dI)) (cl := vwCl) (i := ((2 * x2) + v4_6)) hx hb hK hP 10 9 rfl rfl hi_13 dX8_isBelow_52 ?_
        refine jn0_ind (GG := (∀ (H : Heap) (locs : List Loc) (ls : Array Slot), va_P (dC, dI) vwCl (wd_X8 a ca u) H → va_D A (wd_X8 a ca u) → va_S A s.heap H locs → lv_has ls 7 [(5, .int v5_12), (4, .int v4_6), (0, .ref (a 0)), (1, .int x1), (2, .int x2)] → W p l e (headSpec wsX8_isBelow rm_X8_isBelow).room s m args below meth c H locs 0 0 Q (F0 m 117 ls []))) h (fun  h H locs ls hP hD hS hl => ?_) (fun JJ_14 ih_JJ_14 h => ?_)
        · refine lv_iload hx hb dX8_isBelow_117 (lv_at hl 0 rfl) ?_
          refine lv_aload_n hx hb dX8_isBelow_119 rfl (lv_at hl 2 rfl) ?_
          refine va_get (D := (dC, dI)) (ci := 7) (v := .ref (a 15)) (C := RX8) (T := TX8) (N := 25) hx hb hts hin_X8 hown hK hP 0 rfl rfl 14 (by decide) lk_1 (fun _ h9 => h9) rfl dX8_isBelow_120 ?_
          refine lv_iconst (v := 2) hx hb dX8_isBelow_123 (by decide) ?_
          refine lv_iload_n hx hb dX8_isBelow_124 rfl (lv_at hl 3 rfl) ?_
          refine lv_imul hx hb dX8_isBelow_125 ?_
          refine lv_iload hx hb dX8_isBelow_126 (lv_at hl 1 rfl) ?_
          refine lv_iadd hx hb dX8_isBelow_128 ?_
          obtain ⟨hi_15, h⟩ := h
          refine va_iald (D := (dC, dI)) (cl := vwCl) (i := ((2 * x1) + v4_6)) hx hb hK hP 10 9 rfl rfl hi_15 dX8_isBelow_129 ?_
          refine jn1_ind (GG := (fun (w_17 : Int32) => ∀ (H : Heap) (locs : List Loc) (ls : Array Slot), va_P (dC, dI) vwCl (wd_X8 a ca u) H → va_D A (wd_X8 a ca u) → va_S A s.heap H locs → lv_has ls 7 [(4, .int v4_6), (0, .ref (a 0)), (1, .int x1), (2, .int x2)] → W p l e (headSpec wsX8_isBelow rm_X8_isBelow).room s m args below meth c H locs 0 0 Q (F0 m 138 ls [.int w_17]))) h (fun w_17 h H locs ls hP hD hS hl => ?_) (fun JJ_16 ih_JJ_16 h => ?_)
          · refine lv_istore_n (lv' := [(3, .int w_17), (4, .int v4_6), (0, .ref (a 0)), (1, .int x1), (2, .int x2)]) hx hb dX8_isBelow_138 rfl hl (by decide) rfl (fun ls hl => ?_)
            refine lv_iinc (v := (v4_6 + 1)) (lv' := [(4, .int (v4_6 + 1)), (3, .int w_17), (0, .ref (a 0)), (1, .int x1), (2, .int x2)]) hx hb dX8_isBelow_139 hl (k := 1) rfl rfl (by decide) rfl (fun ls hl => ?_)
            refine lv_goto (tgt := 24) hx hb dX8_isBelow_142 (by decide) ?_
            exact ih_LL_5 _ _ h _ _ _ hP hD hS (lv_sub hl [0, 1, 2, 3, 4] rfl)
          · refine lv_icmp_ne (tgt := 137) hx hb dX8_isBelow_130 (by decide) (fun hc_18 => ?_) (fun hc_18 => ?_)
            · replace h := h.1 hc_18
              refine lv_iconst (v := 0) hx hb dX8_isBelow_137 (by decide) ?_
              exact ih_JJ_16 _ h _ _ _ hP hD hS (lv_sub hl [1, 2, 3, 4] rfl)
            · replace h := h.2 hc_18
              refine lv_iconst (v := 1) hx hb dX8_isBelow_133 (by decide) ?_
              refine lv_goto (tgt := 138) hx hb dX8_isBelow_134 (by decide) ?_
              exact ih_JJ_16 _ h _ _ _ hP hD hS (lv_sub hl [1, 2, 3, 4] rfl)
        · refine lv_icmp_ge (tgt := 117) hx hb dX8_isBelow_53 (by decide) (fun hc_19 => ?_) (fun hc_19 => ?_)
          · replace h := h.1 hc_19
            exact ih_JJ_14 h _ _ _ hP hD hS (lv_sub hl [1, 2, 3, 4, 5] rfl)
          · replace h := h.2 hc_19
            refine lv_iload hx hb dX8_isBelow_56 (lv_at hl 1 rfl) ?_
            refine lv_aload_n hx hb dX8_isBelow_58 rfl (lv_at hl 3 rfl) ?_
            refine va_get (D := (dC, dI)) (ci := 7) (v := .ref (a 15)) (C := RX8) (T := TX8) (N := 25) hx hb hts hin_X8 hown hK hP 0 rfl rfl 14 (by decide) lk_1 (fun _ h9 => h9) rfl dX8_isBelow_59 ?_
            refine lv_iconst (v := 2) hx hb dX8_isBelow_62 (by decide) ?_
            refine lv_iload_n hx hb dX8_isBelow_63 rfl (lv_at hl 4 rfl) ?_
            refine lv_imul hx hb dX8_isBelow_64 ?_
            refine lv_iload hx hb dX8_isBelow_65 (lv_at hl 2 rfl) ?_
            refine lv_iadd hx hb dX8_isBelow_67 ?_
            obtain ⟨hi_20, h⟩ := h
            refine va_iald (D := (dC, dI)) (cl := vwCl) (i := ((2 * x1) + v4_6)) hx hb hK hP 10 9 rfl rfl hi_20 dX8_isBelow_68 ?_
            refine lv_icmp_ge (tgt := 117) hx hb dX8_isBelow_69 (by decide) (fun hc_21 => ?_) (fun hc_21 => ?_)
            · replace h := h.1 hc_21
              exact ih_JJ_14 h _ _ _ hP hD hS (lv_sub hl [1, 2, 3, 4, 5] rfl)
            · replace h := h.2 hc_21
              refine lv_iload hx hb dX8_isBelow_72 (lv_at hl 1 rfl) ?_
              refine lv_aload_n hx hb dX8_isBelow_74 rfl (lv_at hl 3 rfl) ?_
              refine va_get (D := (dC, dI)) (ci := 7) (v := .ref (a 16)) (C := RX8) (T := TX8) (N := 25) hx hb hts hin_X8 hown hK hP 0 rfl rfl 15 (by decide) lk_2 (fun _ h9 => h9) rfl dX8_isBelow_75 ?_
              refine lv_iload_n hx hb dX8_isBelow_78 rfl (lv_at hl 5 rfl) ?_
              refine lv_iload hx hb dX8_isBelow_79 (lv_at hl 2 rfl) ?_
              refine lv_iload hx hb dX8_isBelow_81 (lv_at hl 0 rfl) ?_
              have hFc := fl_freeN hS hA
              refine va_calli (va_runS (As := [.int x2, .int v4_6, .int v6_11]) (rest := [.ref (a 16), .int v5_12]) ⟨hx, hb, hml, hown, hts⟩ (c_X8_spot l H.size x2 v4_6 v6_11 _ h) (va_cwS 3 hts gX8_isBelow_X8_spot rfl rfl rfl (by decide +kernel) ⟨Nat.le_of_ble_eq_true rfl, Nat.le_of_ble_eq_true rfl⟩) ⟨fun a U g mk q => by obtain ⟨q0, q1⟩ := q; exact ⟨q0, q1⟩, fun U hU hW => ⟨rfl, congrArg Array.size hU⟩⟩ rfl rfl hl.1 rfl (lv_room (Nat.le_of_ble_eq_true rfl)) dX8_isBelow_83 ⟨Nat.zero_le _, Nat.zero_le _⟩) hS (fun q _ h => hFc q h) hFc (fun r_22 zz t H1 locs ht hvm hw hB hz1 hk1 hS => ?_)
              replace hP := fl_keep hP hk1
              replace h := hw
              generalize H1 = H at hP hS ⊢
              obtain ⟨hi_23, h⟩ := h
              refine va_iald (D := (dC, dI)) (cl := vwCl) (i := r_22) hx hb hK hP 11 10 rfl rfl hi_23 dX8_isBelow_86 ?_
              refine lv_aload_n hx hb dX8_isBelow_87 rfl (lv_at hl 3 rfl) ?_
              refine va_get (D := (dC, dI)) (ci := 7) (v := .ref (a 16)) (C := RX8) (T := TX8) (N := 25) hx hb hts hin_X8 hown hK hP 0 rfl rfl 15 (by decide) lk_2 (fun _ h9 => h9) rfl dX8_isBelow_88 ?_
              refine lv_iload_n hx hb dX8_isBelow_91 rfl (lv_at hl 4 rfl) ?_
              refine lv_iload hx hb dX8_isBelow_92 (lv_at hl 2 rfl) ?_
              refine lv_iload hx hb dX8_isBelow_94 (lv_at hl 1 rfl) ?_
              have hFc := fl_freeN hS hA
              refine va_calli (va_runS (As := [.int x1, .int v4_6, .int v5_12]) (rest := [.ref (a 16), .int (u.2.1 15 r_22.toNatClampNeg), .int v5_12]) ⟨hx, hb, hml, hown, hts⟩ (c_X8_spot l H.size x1 v4_6 v5_12 _ h) (va_cwS 3 hts gX8_isBelow_X8_spot rfl rfl rfl (by decide +kernel) ⟨Nat.le_of_ble_eq_true rfl, Nat.le_of_ble_eq_true rfl⟩) ⟨fun a U g mk q => by obtain ⟨q0, q1⟩ := q; exact ⟨q0, q1⟩, fun U hU hW => ⟨rfl, congrArg Array.size hU⟩⟩ rfl rfl hl.1 rfl (lv_room (Nat.le_of_ble_eq_true rfl)) dX8_isBelow_96 ⟨Nat.zero_le _, Nat.zero_le _⟩) hS (fun q _ h => hFc q h) hFc (fun r_24 zz t H1 locs ht hvm hw hB hz1 hk1 hS => ?_)
              replace hP := fl_keep hP hk1
              replace h := hw
              generalize H1 = H at hP hS ⊢
              obtain ⟨hi_25, h⟩ := h
              refine va_iald (D := (dC, dI)) (cl := vwCl) (i := r_24) hx hb hK hP 11 10 rfl rfl hi_25 dX8_isBelow_99 ?_
              refine jn1_ind (GG := (fun (w_27 : Int32) => ∀ (H : Heap) (locs : List Loc) (ls : Array Slot), va_P (dC, dI) vwCl (wd_X8 a ca u) H → va_D A (wd_X8 a ca u) → va_S A s.heap H locs → lv_has ls 7 [(6, .int v6_11), (4, .int v4_6), (0, .ref (a 0)), (1, .int x1), (2, .int x2)] → W p l e (headSpec wsX8_isBelow rm_X8_isBelow).room s m args below meth c H locs 0 0 Q (F0 m 108 ls [.int w_27, .int v5_12]))) h (fun w_27 h H locs ls hP hD hS hl => ?_) (fun JJ_26 ih_JJ_26 h => ?_)
              · refine lv_iadd hx hb dX8_isBelow_108 ?_
                refine lv_istore (lv' := [(5, .int (v5_12 + w_27)), (6, .int v6_11), (4, .int v4_6), (0, .ref (a 0)), (1, .int x1), (2, .int x2)]) hx hb dX8_isBelow_109 hl (by decide) rfl (fun ls hl => ?_)
                refine lv_iinc (v := (v6_11 + 1)) (lv' := [(6, .int (v6_11 + 1)), (5, .int (v5_12 + w_27)), (4, .int v4_6), (0, .ref (a 0)), (1, .int x1), (2, .int x2)]) hx hb dX8_isBelow_111 hl (k := 1) rfl rfl (by decide) rfl (fun ls hl => ?_)
                refine lv_goto (tgt := 40) hx hb dX8_isBelow_114 (by decide) ?_
                exact ih_LL_10 _ _ h _ _ _ hP hD hS (lv_sub hl [0, 1, 2, 3, 4, 5] rfl)
              · refine lv_icmp_ne (tgt := 107) hx hb dX8_isBelow_100 (by decide) (fun hc_28 => ?_) (fun hc_28 => ?_)
                · replace h := h.1 hc_28
                  refine lv_iconst (v := 0) hx hb dX8_isBelow_107 (by decide) ?_
                  exact ih_JJ_26 _ h _ _ _ hP hD hS (lv_sub hl [0, 2, 3, 4, 5] rfl)
                · replace h := h.2 hc_28
                  refine lv_iconst (v := 1) hx hb dX8_isBelow_103 (by decide) ?_
                  refine lv_goto (tgt := 108) hx hb dX8_isBelow_104 (by decide) ?_
                  exact ih_JJ_26 _ h _ _ _ hP hD hS (lv_sub hl [0, 2, 3, 4, 5] rfl)
  · refine lv_icmp_ne (tgt := 19) hx hb dX8_isBelow_12 (by decide) (fun hc_31 => ?_) (fun hc_31 => ?_)
    · replace h := h.1 hc_31
      refine lv_iconst (v := 0) hx hb dX8_isBelow_19 (by decide) ?_
      exact ih_JJ_3 _ h _ _ _ hP hD hS (lv_sub hl [0, 1, 2] rfl)
    · replace h := h.2 hc_31
      refine lv_iconst (v := 1) hx hb dX8_isBelow_15 (by decide) ?_
      refine lv_goto (tgt := 20) hx hb dX8_isBelow_16 (by decide) ?_
      exact ih_JJ_3 _ h _ _ _ hP hD hS (lv_sub hl [0, 1, 2] rfl)
abbrev rm_X8_go : Room := { frames := 2, cells := 0, slots := 0, locals := 47 }
set_option maxHeartbeats 4000000 in
set_option maxRecDepth 100000 in
theorem c_X8_go (l : Launch) (dC : Nat → ClassId) (dI : Nat → Nat → Nat) (a : Nat → Nat) (ca : Nat → ClassId) (sz : Nat) (u : Ob) (x1 : Int32) (post : Int32 → Ob → Prop) (h : wp_X8_go u x1 post) : Met l yX8_go wsX8_go rm_X8_go (va_Pc [.ref (a 0), .int x1] (fun U => U.heap.size = sz ∧ va_P (dC, dI) vwCl (wd_X8 a ca u) U.heap ∧ va_K (dC, dI) vwCl (ty_X8 ca) U ∧ va_D (fun _ => True) (wd_X8 a ca u))) (va_Qi post (fun (zz : Ob) (t : State) => va_P (dC, dI) vwCl (wd_X8 a ca zz) t.heap ∧ va_D (va_A (wd_X8 a ca u) sz) (wd_X8 a ca zz)) (va_A (wd_X8 a ca u) sz)) 0 0 (va_A (wd_X8 a ca u) sz) := by
  refine fl_ofW (cc := cX8_go) (maxL := 5) (ret := (some .int)) (by decide) rfl ?_
  intro p e s m args below meth c s₁ Q B hml hv hQ
  obtain ⟨hargs, hsz, hP, hK, hD0⟩ := hv
  have hx := B.exec
  have hb := B.bytes
  have hr := B.returns
  have hts := atoms_spec (ws := wsX8_go) B.pre
  have hown : s.vm.findClass RX8 = some m.cls := findClass_of_methodNamed B.named
  subst hsz
  have hD := hD0.self (sz := s.heap.size)
  generalize hAe : va_A (wd_X8 a ca u) s.heap.size = A at hD hQ
  have hA : ∀ q : Nat, s.heap.size ≤ q → A q := fun q h => by rw [← hAe]; exact Or.inr h
  have hS : va_S A s.heap s.heap [] := va_S.rf
  have hl := lv_entry ([.ref (a 0), .int x1]) (n := 5) (Nat.le_of_ble_eq_true rfl)
  refine W.eq (g2 := F0 m 0 ((lg_sl ([.ref (a 0), .int x1]) ++ List.replicate (5 - (lg_sl ([.ref (a 0), .int x1])).length) Slot.unset).toArray) []) (by rw [hargs]; exact lg_entry_eq m _ 5) ?_
  generalize (lg_sl ([.ref (a 0), .int x1]) ++ List.replicate (5 - (lg_sl ([.ref (a 0), .int x1])).length) Slot.unset).toArray = ls at hl ⊢
  have hl : lv_has ls 5 [(0, .ref (a 0)), (1, .int x1)] := hl
  suffices hstart : ∀ (H : Heap) (locs : List Loc) (ls : Array Slot), va_P (dC, dI) vwCl (wd_X8 a ca u) H → va_D A (wd_X8 a ca u) → va_S A s.heap H locs → lv_has ls 5 [(0, .ref (a 0)), (1, .int x1)] → W p l e (headSpec wsX8_go rm_X8_go).room s m args below meth c H locs 0 0 Q (F0 m 0 ls []) from hstart _ _ _ hP hD hS hl
  clear hS hP hD hD0
  intro H locs ls hP hD hS hl
  have hin_X8 : ∀ w ∈ wsX80, w ∈ wsX8_go := by decide +kernel
  have lk_0 := hts (.fieldLink RX8 24 "ForgettingLinesModel" "lines" "[I") (by decide +kernel)
  have lk_1 := hts (.fieldLink RX8 27 "ForgettingLinesModel" "letters" "[I") (by decide +kernel)
  have lk_2 := hts (.fieldLink RX8 17 "ForgettingLinesModel" "froms" "[I") (by decide +kernel)
  have lk_3 := hts (.fieldLink RX8 39 "ForgettingLinesModel" "stateOf" "[I") (by decide +kernel)
  have lk_4 := hts (.fieldLink RX8 21 "ForgettingLinesModel" "acts" "[I") (by decide +kernel)
  have lk_5 := hts (.fieldLink RX8 30 "ForgettingLinesModel" "tos" "[I") (by decide +kernel)
  have lk_6 := hts (.fieldLink RX8 42 "ForgettingLinesModel" "sizes" "[I") (by decide +kernel)
  have lk_7 := hts (.fieldLink RX8 13 "ForgettingLinesModel" "bags" "[Z") (by decide +kernel)
  unfold wp_X8_go at h
  refine lv_aload_n hx hb dX8_go_0 rfl (lv_at hl 0 rfl) ?_
  refine lv_iload_n hx hb dX8_go_1 rfl (lv_at hl 1 rfl) ?_
  have hPc := hP
  have hDc := hD
  have hKc := hK
  have hFc := va_free (wc := (wd_X8 a ca u)) hD hS hA [0, 1, 2, 3, 4, 5, 6, 7, 8, 9, 10, 11, 12, 13, 14, 15, 16, 17, 18, 19] rfl
  refine va_calli (va_runV (As := [.int x1]) (rest := []) ⟨hx, hb, hml, hown, hts⟩ (c_X8_isArc l dC dI a ca H.size u x1 _ h) (cwV 1 hts gX8_go_X8_isArc rfl rfl rfl (by decide +kernel) ⟨Nat.le_of_ble_eq_true rfl, Nat.le_of_ble_eq_true rfl⟩) ⟨fun a U g mk q => by obtain ⟨q0, q1, qP, qK, qD⟩ := q; exact ⟨q0, q1, qP, va_K.moved (u := U) (U := U.calling g mk a) (Vm.Alike.refl U.vm) qK, qD⟩, va_recv hKc hPc (ci := 7) (q0 := 0) rfl rfl, fun U hU hW => ⟨rfl, by rw [hU], by rw [hU]; exact hPc, va_K.moved hW.alike hKc, hDc.weaken (fun _ _ _ _ => trivial)⟩⟩ rfl rfl hl.1 rfl (lv_room (Nat.le_of_ble_eq_true rfl)) dX8_go_2 ⟨Nat.zero_le _, Nat.zero_le _⟩) hS (fun q _ h => hFc q h) hFc (fun r_1 zz t H1 locs ht hvm hw hB hz1 hk1 hS => ?_)
  replace h := hw
  obtain ⟨hP1, hD1⟩ := hB
  rw [ht] at hP1
  replace hD : va_D A (wd_X8 a ca u) := hD1.weaken (fun _ _ _ h9 => hFc _ h9)
  replace hP : va_P (dC, dI) vwCl (wd_X8 a ca u) H1 := hP1
  generalize H1 = H at hP hS ⊢
  refine lv_if_ne (tgt := 10) hx hb dX8_go_5 (by decide) (fun hc_2 => ?_) (fun hc_2 => ?_)
  · replace h := h.1 hc_2
    refine lv_aload_n hx hb dX8_go_10 rfl (lv_at hl 0 rfl) ?_
    refine va_get (D := (dC, dI)) (ci := 7) (v := .ref (a 6)) (C := RX8) (T := TX8) (N := 25) hx hb hts hin_X8 hown hK hP 0 rfl rfl 5 (by decide) lk_0 (fun _ h9 => h9) rfl dX8_go_11 ?_
    refine lv_iload_n hx hb dX8_go_14 rfl (lv_at hl 1 rfl) ?_
    obtain ⟨hi_3, h⟩ := h
    refine va_iald (D := (dC, dI)) (cl := vwCl) (i := x1) hx hb hK hP 4 3 rfl rfl hi_3 dX8_go_15 ?_
    refine lv_istore_n (lv' := [(2, .int (u.2.1 5 x1.toNatClampNeg)), (0, .ref (a 0)), (1, .int x1)]) hx hb dX8_go_16 rfl hl (by decide) rfl (fun ls hl => ?_)
    refine lv_aload_n hx hb dX8_go_17 rfl (lv_at hl 1 rfl) ?_
    refine va_get (D := (dC, dI)) (ci := 7) (v := .ref (a 7)) (C := RX8) (T := TX8) (N := 25) hx hb hts hin_X8 hown hK hP 0 rfl rfl 6 (by decide) lk_1 (fun _ h9 => h9) rfl dX8_go_18 ?_
    refine lv_iload_n hx hb dX8_go_21 rfl (lv_at hl 2 rfl) ?_
    obtain ⟨hi_4, h⟩ := h
    refine va_iald (D := (dC, dI)) (cl := vwCl) (i := x1) hx hb hK hP 5 4 rfl rfl hi_4 dX8_go_22 ?_
    refine lv_istore_n (lv' := [(3, .int (u.2.1 6 x1.toNatClampNeg)), (2, .int (u.2.1 5 x1.toNatClampNeg)), (0, .ref (a 0)), (1, .int x1)]) hx hb dX8_go_23 rfl hl (by decide) rfl (fun ls hl => ?_)
    refine lv_aload_n hx hb dX8_go_24 rfl (lv_at hl 2 rfl) ?_
    refine va_get (D := (dC, dI)) (ci := 7) (v := .ref (a 4)) (C := RX8) (T := TX8) (N := 25) hx hb hts hin_X8 hown hK hP 0 rfl rfl 3 (by decide) lk_2 (fun _ h9 => h9) rfl dX8_go_25 ?_
    refine lv_iload_n hx hb dX8_go_28 rfl (lv_at hl 3 rfl) ?_
    obtain ⟨hi_5, h⟩ := h
    refine va_iald (D := (dC, dI)) (cl := vwCl) (i := x1) hx hb hK hP 2 1 rfl rfl hi_5 dX8_go_29 ?_
    refine lv_aload_n hx hb dX8_go_30 rfl (lv_at hl 2 rfl) ?_
    refine va_get (D := (dC, dI)) (ci := 7) (v := .ref (a 14)) (C := RX8) (T := TX8) (N := 25) hx hb hts hin_X8 hown hK hP 0 rfl rfl 13 (by decide) lk_3 (fun _ h9 => h9) rfl dX8_go_31 ?_
    refine lv_bipush (v := 82) hx hb dX8_go_34 (by decide) ?_
    obtain ⟨hi_6, h⟩ := h
    refine va_iald (D := (dC, dI)) (cl := vwCl) (i := 82) hx hb hK hP 9 8 rfl rfl hi_6 dX8_go_36 ?_
    refine lv_icmp_eq (tgt := 43) hx hb dX8_go_37 (by decide) (fun hc_7 => ?_) (fun hc_7 => ?_)
    · replace h := h.1 hc_7
      refine lv_aload_n hx hb dX8_go_43 rfl (lv_at hl 2 rfl) ?_
      refine va_get (D := (dC, dI)) (ci := 7) (v := .ref (a 5)) (C := RX8) (T := TX8) (N := 25) hx hb hts hin_X8 hown hK hP 0 rfl rfl 4 (by decide) lk_4 (fun _ h9 => h9) rfl dX8_go_44 ?_
      refine lv_iload_n hx hb dX8_go_47 rfl (lv_at hl 3 rfl) ?_
      obtain ⟨hi_8, h⟩ := h
      refine va_iald (D := (dC, dI)) (cl := vwCl) (i := x1) hx hb hK hP 3 2 rfl rfl hi_8 dX8_go_48 ?_
      refine lv_iconst (v := 2) hx hb dX8_go_49 (by decide) ?_
      refine jn1_ind (GG := (fun (u_10 : Ob) => ∀ (H : Heap) (locs : List Loc) (ls : Array Slot), va_P (dC, dI) vwCl (wd_X8 a ca u_10) H → va_D A (wd_X8 a ca u_10) → va_S A s.heap H locs → lv_has ls 5 [(0, .ref (a 0)), (1, .int x1)] → W p l e (headSpec wsX8_go rm_X8_go).room s m args below meth c H locs 0 0 Q (F0 m 163 ls []))) h (fun u_10 h H locs ls hP hD hS hl => ?_) (fun JJ_9 ih_JJ_9 h => ?_)
      · refine lv_aload_n hx hb dX8_go_163 rfl (lv_at hl 0 rfl) ?_
        refine va_get (D := (dC, dI)) (ci := 7) (v := .ref (a 14)) (C := RX8) (T := TX8) (N := 25) hx hb hts hin_X8 hown hK hP 0 rfl rfl 13 (by decide) lk_3 (fun _ h9 => h9) rfl dX8_go_164 ?_
        refine lv_bipush (v := 82) hx hb dX8_go_167 (by decide) ?_
        refine lv_aload_n hx hb dX8_go_169 rfl (lv_at hl 0 rfl) ?_
        refine va_get (D := (dC, dI)) (ci := 7) (v := .ref (a 8)) (C := RX8) (T := TX8) (N := 25) hx hb hts hin_X8 hown hK hP 0 rfl rfl 7 (by decide) lk_5 (fun _ h9 => h9) rfl dX8_go_170 ?_
        refine lv_iload_n hx hb dX8_go_173 rfl (lv_at hl 1 rfl) ?_
        obtain ⟨hi_11, h⟩ := h
        refine va_iald (D := (dC, dI)) (cl := vwCl) (i := x1) hx hb hK hP 6 5 rfl rfl hi_11 dX8_go_174 ?_
        obtain ⟨hi_12, h⟩ := h
        refine va_iast (D := (dC, dI)) (cl := vwCl) (i := 82) hx hb hK hP hD hS 9 8 rfl rfl hi_12 dX8_go_175 (fun H locs hP hD hS => ?_)
        obtain ⟨u_13, eu_13⟩ : ∃ z : Ob, z = fs_a u_10 13 (upd (u_10.2.1 13) (82 : Int32).toNatClampNeg (u_10.2.1 7 x1.toNatClampNeg)) := ⟨_, rfl⟩
        replace h := h u_13 eu_13
        replace hP : va_P (dC, dI) vwCl (wd_X8 a ca u_13) H := by rw [eu_13]; exact hP
        replace hD : va_D A (wd_X8 a ca u_13) := by rw [eu_13]; exact hD
        refine lv_aload_n hx hb dX8_go_176 rfl (lv_at hl 0 rfl) ?_
        refine va_get (D := (dC, dI)) (ci := 7) (v := .ref (a 14)) (C := RX8) (T := TX8) (N := 25) hx hb hts hin_X8 hown hK hP 0 rfl rfl 13 (by decide) lk_3 (fun _ h9 => h9) rfl dX8_go_177 ?_
        refine lv_bipush (v := 82) hx hb dX8_go_180 (by decide) ?_
        obtain ⟨hi_14, h⟩ := h
        refine va_iald (D := (dC, dI)) (cl := vwCl) (i := 82) hx hb hK hP 9 8 rfl rfl hi_14 dX8_go_182 ?_
        subst hQ
        exact W.iret (v := (u_13.2.1 13 (82 : Int32).toNatClampNeg)) hx hb hr (fun t ht hW => ⟨⟨_, u_13, rfl, h, by rw [ht]; exact hP, hD⟩, hS.F ht⟩) hS.2.2 dX8_go_183
      · refine lv_icmp_ne (tgt := 97) hx hb dX8_go_50 (by decide) (fun hc_15 => ?_) (fun hc_15 => ?_)
        · replace h := h.1 hc_15
          refine lv_aload_n hx hb dX8_go_97 rfl (lv_at hl 2 rfl) ?_
          refine va_get (D := (dC, dI)) (ci := 7) (v := .ref (a 5)) (C := RX8) (T := TX8) (N := 25) hx hb hts hin_X8 hown hK hP 0 rfl rfl 4 (by decide) lk_4 (fun _ h9 => h9) rfl dX8_go_98 ?_
          refine lv_iload_n hx hb dX8_go_101 rfl (lv_at hl 3 rfl) ?_
          obtain ⟨hi_16, h⟩ := h
          refine va_iald (D := (dC, dI)) (cl := vwCl) (i := x1) hx hb hK hP 3 2 rfl rfl hi_16 dX8_go_102 ?_
          refine lv_iconst (v := 1) hx hb dX8_go_103 (by decide) ?_
          refine lv_icmp_ne (tgt := 163) hx hb dX8_go_104 (by decide) (fun hc_17 => ?_) (fun hc_17 => ?_)
          · replace h := h.1 hc_17
            exact ih_JJ_9 _ h _ _ _ hP hD hS (lv_sub hl [2, 3] rfl)
          · replace h := h.2 hc_17
            refine lv_aload_n hx hb dX8_go_107 rfl (lv_at hl 2 rfl) ?_
            refine va_get (D := (dC, dI)) (ci := 7) (v := .ref (a 15)) (C := RX8) (T := TX8) (N := 25) hx hb hts hin_X8 hown hK hP 0 rfl rfl 14 (by decide) lk_6 (fun _ h9 => h9) rfl dX8_go_108 ?_
            refine lv_sipush (v := 164) hx hb dX8_go_111 (by decide) ?_
            refine lv_iload_n hx hb dX8_go_114 rfl (lv_at hl 1 rfl) ?_
            refine lv_iadd hx hb dX8_go_115 ?_
            obtain ⟨hi_18, h⟩ := h
            refine va_iald (D := (dC, dI)) (cl := vwCl) (i := (164 + (u.2.1 5 x1.toNatClampNeg))) hx hb hK hP 10 9 rfl rfl hi_18 dX8_go_116 ?_
            refine lv_bipush (v := 10) hx hb dX8_go_117 (by decide) ?_
            refine lv_icmp_ne (tgt := 125) hx hb dX8_go_119 (by decide) (fun hc_19 => ?_) (fun hc_19 => ?_)
            · replace h := h.1 hc_19
              refine lv_aload_n hx hb dX8_go_125 rfl (lv_at hl 2 rfl) ?_
              refine lv_bipush (v := 82) hx hb dX8_go_126 (by decide) ?_
              refine lv_iload_n hx hb dX8_go_128 rfl (lv_at hl 1 rfl) ?_
              refine lv_aload_n hx hb dX8_go_129 rfl (lv_at hl 2 rfl) ?_
              refine va_get (D := (dC, dI)) (ci := 7) (v := .ref (a 2)) (C := RX8) (T := TX8) (N := 25) hx hb hts hin_X8 hown hK hP 0 rfl rfl 1 (by decide) lk_7 (fun _ h9 => h9) rfl dX8_go_130 ?_
              refine lv_iload_n hx hb dX8_go_133 rfl (lv_at hl 1 rfl) ?_
              obtain ⟨hi_20, h⟩ := h
              refine va_zald (D := (dC, dI)) (cl := vwCl) (i := (u.2.1 5 x1.toNatClampNeg)) hx hb hK hP 1 0 rfl rfl hi_20 dX8_go_134 ?_
              refine jn1_ind (GG := (fun (w_22 : Int32) => ∀ (H : Heap) (locs : List Loc) (ls : Array Slot), va_P (dC, dI) vwCl (wd_X8 a ca u) H → va_D A (wd_X8 a ca u) → va_S A s.heap H locs → lv_has ls 5 [(3, .int (u.2.1 6 x1.toNatClampNeg)), (0, .ref (a 0)), (1, .int x1)] → W p l e (headSpec wsX8_go rm_X8_go).room s m args below meth c H locs 0 0 Q (F0 m 159 ls [.int w_22, .int (u.2.1 5 x1.toNatClampNeg), .int 82, .ref (a 0)]))) h (fun w_22 h H locs ls hP hD hS hl => ?_) (fun JJ_21 ih_JJ_21 h => ?_)
              · refine lv_iload_n hx hb dX8_go_159 rfl (lv_at hl 0 rfl) ?_
                have hPc := hP
                have hDc := hD
                have hKc := hK
                have hFc := va_free (wc := (wd_X8 a ca u)) hD hS hA [0, 1, 2, 3, 4, 5, 6, 7, 8, 9, 10, 11, 12, 13, 14, 15, 16, 17, 18, 19] rfl
                refine va_callv (va_runV (As := [.int 82, .int (u.2.1 5 x1.toNatClampNeg), .int w_22, .int (u.2.1 6 x1.toNatClampNeg)]) (rest := []) ⟨hx, hb, hml, hown, hts⟩ (c_X8_putIn l dC dI a ca H.size u 82 (u.2.1 5 x1.toNatClampNeg) w_22 (u.2.1 6 x1.toNatClampNeg) _ h) (cwV 4 hts gX8_go_X8_putIn rfl rfl rfl (by decide +kernel) ⟨Nat.le_of_ble_eq_true rfl, Nat.le_of_ble_eq_true rfl⟩) ⟨fun a U g mk q => by obtain ⟨q0, q1, qP, qK, qD⟩ := q; exact ⟨q0, q1, qP, va_K.moved (u := U) (U := U.calling g mk a) (Vm.Alike.refl U.vm) qK, qD⟩, va_recv hKc hPc (ci := 7) (q0 := 0) rfl rfl, fun U hU hW => ⟨rfl, by rw [hU], by rw [hU]; exact hPc, va_K.moved hW.alike hKc, hDc.weaken (fun _ _ _ _ => trivial)⟩⟩ rfl rfl hl.1 rfl (lv_room (Nat.le_of_ble_eq_true rfl)) dX8_go_160 ⟨Nat.zero_le _, Nat.zero_le _⟩) hS (fun q _ h => hFc q h) hFc (fun zz t H1 locs ht hvm hw hB hz1 hk1 hS => ?_)
                obtain ⟨u_23, rfl⟩ : ∃ z, z = zz := ⟨_, rfl⟩
                replace h := hw
                obtain ⟨hP1, hD1⟩ := hB
                rw [ht] at hP1
                replace hD : va_D A (wd_X8 a ca u_23) := hD1.weaken (fun _ _ _ h9 => hFc _ h9)
                replace hP : va_P (dC, dI) vwCl (wd_X8 a ca u_23) H1 := hP1
                generalize H1 = H at hP hS ⊢
                exact ih_JJ_9 _ h _ _ _ hP hD hS (lv_sub hl [1, 2] rfl)
              · refine lv_if_eq (tgt := 149) hx hb dX8_go_135 (by decide) (fun hc_24 => ?_) (fun hc_24 => ?_)
                · replace h := h.1 hc_24
                  refine lv_aload_n hx hb dX8_go_149 rfl (lv_at hl 2 rfl) ?_
                  refine va_get (D := (dC, dI)) (ci := 7) (v := .ref (a 15)) (C := RX8) (T := TX8) (N := 25) hx hb hts hin_X8 hown hK hP 0 rfl rfl 14 (by decide) lk_6 (fun _ h9 => h9) rfl dX8_go_150 ?_
                  refine lv_sipush (v := 164) hx hb dX8_go_153 (by decide) ?_
                  refine lv_iload_n hx hb dX8_go_156 rfl (lv_at hl 1 rfl) ?_
                  refine lv_iadd hx hb dX8_go_157 ?_
                  obtain ⟨hi_25, h⟩ := h
                  refine va_iald (D := (dC, dI)) (cl := vwCl) (i := (164 + (u.2.1 5 x1.toNatClampNeg))) hx hb hK hP 10 9 rfl rfl hi_25 dX8_go_158 ?_
                  exact ih_JJ_21 _ h _ _ _ hP hD hS (lv_sub hl [0, 2, 3] rfl)
                · replace h := h.2 hc_24
                  refine lv_aload_n hx hb dX8_go_138 rfl (lv_at hl 2 rfl) ?_
                  refine lv_bipush (v := 82) hx hb dX8_go_139 (by decide) ?_
                  refine lv_iload_n hx hb dX8_go_141 rfl (lv_at hl 1 rfl) ?_
                  refine lv_iload_n hx hb dX8_go_142 rfl (lv_at hl 0 rfl) ?_
                  have hPc := hP
                  have hDc := hD
                  have hKc := hK
                  have hFc := va_free (wc := (wd_X8 a ca u)) hD hS hA [0, 1, 2, 3, 4, 5, 6, 7, 8, 9, 10, 11, 12, 13, 14, 15, 16, 17, 18, 19] rfl
                  refine va_calli (va_runV (As := [.int 82, .int (u.2.1 5 x1.toNatClampNeg), .int (u.2.1 6 x1.toNatClampNeg)]) (rest := [.int (u.2.1 5 x1.toNatClampNeg), .int 82, .ref (a 0)]) ⟨hx, hb, hml, hown, hts⟩ (c_X8_inOrder l dC dI a ca H.size u 82 (u.2.1 5 x1.toNatClampNeg) (u.2.1 6 x1.toNatClampNeg) _ h) (cwV 3 hts gX8_go_X8_inOrder rfl rfl rfl (by decide +kernel) ⟨Nat.le_of_ble_eq_true rfl, Nat.le_of_ble_eq_true rfl⟩) ⟨fun a U g mk q => by obtain ⟨q0, q1, qP, qK, qD⟩ := q; exact ⟨q0, q1, qP, va_K.moved (u := U) (U := U.calling g mk a) (Vm.Alike.refl U.vm) qK, qD⟩, va_recv hKc hPc (ci := 7) (q0 := 0) rfl rfl, fun U hU hW => ⟨rfl, by rw [hU], by rw [hU]; exact hPc, va_K.moved hW.alike hKc, hDc.weaken (fun _ _ _ _ => trivial)⟩⟩ rfl rfl hl.1 rfl (lv_room (Nat.le_of_ble_eq_true rfl)) dX8_go_143 ⟨Nat.zero_le _, Nat.zero_le _⟩) hS (fun q _ h => hFc q h) hFc (fun r_26 zz t H1 locs ht hvm hw hB hz1 hk1 hS => ?_)
                  replace h := hw
                  obtain ⟨hP1, hD1⟩ := hB
                  rw [ht] at hP1
                  replace hD : va_D A (wd_X8 a ca u) := hD1.weaken (fun _ _ _ h9 => hFc _ h9)
                  replace hP : va_P (dC, dI) vwCl (wd_X8 a ca u) H1 := hP1
                  generalize H1 = H at hP hS ⊢
                  refine lv_goto (tgt := 159) hx hb dX8_go_146 (by decide) ?_
                  exact ih_JJ_21 _ h _ _ _ hP hD hS (lv_sub hl [0, 2, 3] rfl)
            · replace h := h.2 hc_19
              refine lv_bipush (v := (-3)) hx hb dX8_go_122 (by decide) ?_
              subst hQ
              exact W.iret (v := (-3)) hx hb hr (fun t ht hW => ⟨⟨_, u, rfl, h, by rw [ht]; exact hP, hD⟩, hS.F ht⟩) hS.2.2 dX8_go_124
        · replace h := h.2 hc_15
          refine lv_aload_n hx hb dX8_go_53 rfl (lv_at hl 2 rfl) ?_
          refine lv_bipush (v := 82) hx hb dX8_go_54 (by decide) ?_
          refine lv_iload_n hx hb dX8_go_56 rfl (lv_at hl 1 rfl) ?_
          refine lv_iload_n hx hb dX8_go_57 rfl (lv_at hl 0 rfl) ?_
          have hPc := hP
          have hDc := hD
          have hKc := hK
          have hFc := va_free (wc := (wd_X8 a ca u)) hD hS hA [0, 1, 2, 3, 4, 5, 6, 7, 8, 9, 10, 11, 12, 13, 14, 15, 16, 17, 18, 19] rfl
          refine va_calli (va_runV (As := [.int 82, .int (u.2.1 5 x1.toNatClampNeg), .int (u.2.1 6 x1.toNatClampNeg)]) (rest := []) ⟨hx, hb, hml, hown, hts⟩ (c_X8_firstOf l dC dI a ca H.size u 82 (u.2.1 5 x1.toNatClampNeg) (u.2.1 6 x1.toNatClampNeg) _ h) (cwV 3 hts gX8_go_X8_firstOf rfl rfl rfl (by decide +kernel) ⟨Nat.le_of_ble_eq_true rfl, Nat.le_of_ble_eq_true rfl⟩) ⟨fun a U g mk q => by obtain ⟨q0, q1, qP, qK, qD⟩ := q; exact ⟨q0, q1, qP, va_K.moved (u := U) (U := U.calling g mk a) (Vm.Alike.refl U.vm) qK, qD⟩, va_recv hKc hPc (ci := 7) (q0 := 0) rfl rfl, fun U hU hW => ⟨rfl, by rw [hU], by rw [hU]; exact hPc, va_K.moved hW.alike hKc, hDc.weaken (fun _ _ _ _ => trivial)⟩⟩ rfl rfl hl.1 rfl (lv_room (Nat.le_of_ble_eq_true rfl)) dX8_go_58 ⟨Nat.zero_le _, Nat.zero_le _⟩) hS (fun q _ h => hFc q h) hFc (fun r_27 zz t H1 locs ht hvm hw hB hz1 hk1 hS => ?_)
          replace h := hw
          obtain ⟨hP1, hD1⟩ := hB
          rw [ht] at hP1
          replace hD : va_D A (wd_X8 a ca u) := hD1.weaken (fun _ _ _ h9 => hFc _ h9)
          replace hP : va_P (dC, dI) vwCl (wd_X8 a ca u) H1 := hP1
          generalize H1 = H at hP hS ⊢
          refine lv_istore (lv' := [(4, .int r_27), (3, .int (u.2.1 6 x1.toNatClampNeg)), (2, .int (u.2.1 5 x1.toNatClampNeg)), (0, .ref (a 0)), (1, .int x1)]) hx hb dX8_go_61 hl (by decide) rfl (fun ls hl => ?_)
          refine lv_iload hx hb dX8_go_63 (lv_at hl 0 rfl) ?_
          refine lv_if_lt (tgt := 82) hx hb dX8_go_65 (by decide) (fun hc_28 => ?_) (fun hc_28 => ?_)
          · replace h := h.1 hc_28
            refine lv_bipush (v := (-2)) hx hb dX8_go_82 (by decide) ?_
            subst hQ
            exact W.iret (v := (-2)) hx hb hr (fun t ht hW => ⟨⟨_, u, rfl, h, by rw [ht]; exact hP, hD⟩, hS.F ht⟩) hS.2.2 dX8_go_84
          · replace h := h.2 hc_28
            refine lv_iload hx hb dX8_go_68 (lv_at hl 0 rfl) ?_
            refine jn0_ind (GG := (∀ (H : Heap) (locs : List Loc) (ls : Array Slot), va_P (dC, dI) vwCl (wd_X8 a ca u) H → va_D A (wd_X8 a ca u) → va_S A s.heap H locs → lv_has ls 5 [(4, .int r_27), (2, .int (u.2.1 5 x1.toNatClampNeg)), (0, .ref (a 0)), (1, .int x1)] → W p l e (headSpec wsX8_go rm_X8_go).room s m args below meth c H locs 0 0 Q (F0 m 85 ls []))) h (fun  h H locs ls hP hD hS hl => ?_) (fun JJ_29 ih_JJ_29 h => ?_)
            · refine lv_aload_n hx hb dX8_go_85 rfl (lv_at hl 2 rfl) ?_
              refine lv_bipush (v := 82) hx hb dX8_go_86 (by decide) ?_
              refine lv_iload_n hx hb dX8_go_88 rfl (lv_at hl 1 rfl) ?_
              refine lv_iload hx hb dX8_go_89 (lv_at hl 0 rfl) ?_
              have hPc := hP
              have hDc := hD
              have hKc := hK
              have hFc := va_free (wc := (wd_X8 a ca u)) hD hS hA [0, 1, 2, 3, 4, 5, 6, 7, 8, 9, 10, 11, 12, 13, 14, 15, 16, 17, 18, 19] rfl
              refine va_callv (va_runV (As := [.int 82, .int (u.2.1 5 x1.toNatClampNeg), .int r_27]) (rest := []) ⟨hx, hb, hml, hown, hts⟩ (c_X8_takeOut l dC dI a ca H.size u 82 (u.2.1 5 x1.toNatClampNeg) r_27 _ h) (cwV 3 hts gX8_go_X8_takeOut rfl rfl rfl (by decide +kernel) ⟨Nat.le_of_ble_eq_true rfl, Nat.le_of_ble_eq_true rfl⟩) ⟨fun a U g mk q => by obtain ⟨q0, q1, qP, qK, qD⟩ := q; exact ⟨q0, q1, qP, va_K.moved (u := U) (U := U.calling g mk a) (Vm.Alike.refl U.vm) qK, qD⟩, va_recv hKc hPc (ci := 7) (q0 := 0) rfl rfl, fun U hU hW => ⟨rfl, by rw [hU], by rw [hU]; exact hPc, va_K.moved hW.alike hKc, hDc.weaken (fun _ _ _ _ => trivial)⟩⟩ rfl rfl hl.1 rfl (lv_room (Nat.le_of_ble_eq_true rfl)) dX8_go_91 ⟨Nat.zero_le _, Nat.zero_le _⟩) hS (fun q _ h => hFc q h) hFc (fun zz t H1 locs ht hvm hw hB hz1 hk1 hS => ?_)
              obtain ⟨u_30, rfl⟩ : ∃ z, z = zz := ⟨_, rfl⟩
              replace h := hw
              obtain ⟨hP1, hD1⟩ := hB
              rw [ht] at hP1
              replace hD : va_D A (wd_X8 a ca u_30) := hD1.weaken (fun _ _ _ h9 => hFc _ h9)
              replace hP : va_P (dC, dI) vwCl (wd_X8 a ca u_30) H1 := hP1
              generalize H1 = H at hP hS ⊢
              refine lv_goto (tgt := 163) hx hb dX8_go_94 (by decide) ?_
              exact ih_JJ_9 _ h _ _ _ hP hD hS (lv_sub hl [2, 3] rfl)
            · refine lv_if_le (tgt := 85) hx hb dX8_go_70 (by decide) (fun hc_31 => ?_) (fun hc_31 => ?_)
              · replace h := h.1 hc_31
                exact ih_JJ_29 h _ _ _ hP hD hS (lv_sub hl [0, 2, 3, 4] rfl)
              · replace h := h.2 hc_31
                refine lv_aload_n hx hb dX8_go_73 rfl (lv_at hl 3 rfl) ?_
                refine va_get (D := (dC, dI)) (ci := 7) (v := .ref (a 2)) (C := RX8) (T := TX8) (N := 25) hx hb hts hin_X8 hown hK hP 0 rfl rfl 1 (by decide) lk_7 (fun _ h9 => h9) rfl dX8_go_74 ?_
                refine lv_iload_n hx hb dX8_go_77 rfl (lv_at hl 2 rfl) ?_
                obtain ⟨hi_32, h⟩ := h
                refine va_zald (D := (dC, dI)) (cl := vwCl) (i := (u.2.1 5 x1.toNatClampNeg)) hx hb hK hP 1 0 rfl rfl hi_32 dX8_go_78 ?_
                refine lv_if_ne (tgt := 85) hx hb dX8_go_79 (by decide) (fun hc_33 => ?_) (fun hc_33 => ?_)
                · replace h := h.1 hc_33
                  exact ih_JJ_29 h _ _ _ hP hD hS (lv_sub hl [0, 2, 3, 4] rfl)
                · replace h := h.2 hc_33
                  refine lv_bipush (v := (-2)) hx hb dX8_go_82 (by decide) ?_
                  subst hQ
                  exact W.iret (v := (-2)) hx hb hr (fun t ht hW => ⟨⟨_, u, rfl, h, by rw [ht]; exact hP, hD⟩, hS.F ht⟩) hS.2.2 dX8_go_84
    · replace h := h.2 hc_7
      refine lv_bipush (v := (-2)) hx hb dX8_go_40 (by decide) ?_
      subst hQ
      exact W.iret (v := (-2)) hx hb hr (fun t ht hW => ⟨⟨_, u, rfl, h, by rw [ht]; exact hP, hD⟩, hS.F ht⟩) hS.2.2 dX8_go_42
  · replace h := h.2 hc_2
    refine lv_iconst (v := (-1)) hx hb dX8_go_8 (by decide) ?_
    subst hQ
    exact W.iret (v := (-1)) hx hb hr (fun t ht hW => ⟨⟨_, u, rfl, h, by rw [ht]; exact hP, hD⟩, hS.F ht⟩) hS.2.2 dX8_go_9
abbrev rm_X8_lose : Room := { frames := 2, cells := 0, slots := 0, locals := 46 }
set_option maxHeartbeats 4000000 in
set_option maxRecDepth 100000 in
theorem c_X8_lose (l : Launch) (dC : Nat → ClassId) (dI : Nat → Nat → Nat) (a : Nat → Nat) (ca : Nat → ClassId) (sz : Nat) (u : Ob) (x1 : Int32) (x2 : Int32) (post : Int32 → Ob → Prop) (h : wp_X8_lose u x1 x2 post) : Met l yX8_lose wsX8_lose rm_X8_lose (va_Pc [.ref (a 0), .int x1, .int x2] (fun U => U.heap.size = sz ∧ va_P (dC, dI) vwCl (wd_X8 a ca u) U.heap ∧ va_K (dC, dI) vwCl (ty_X8 ca) U ∧ va_D (fun _ => True) (wd_X8 a ca u))) (va_Qi post (fun (zz : Ob) (t : State) => va_P (dC, dI) vwCl (wd_X8 a ca zz) t.heap ∧ va_D (va_A (wd_X8 a ca u) sz) (wd_X8 a ca zz)) (va_A (wd_X8 a ca u) sz)) 0 0 (va_A (wd_X8 a ca u) sz) := by
  refine fl_ofW (cc := cX8_lose) (maxL := 4) (ret := (some .int)) (by decide) rfl ?_
  intro p e s m args below meth c s₁ Q B hml hv hQ
  obtain ⟨hargs, hsz, hP, hK, hD0⟩ := hv
  have hx := B.exec
  have hb := B.bytes
  have hr := B.returns
  have hts := atoms_spec (ws := wsX8_lose) B.pre
  have hown : s.vm.findClass RX8 = some m.cls := findClass_of_methodNamed B.named
  subst hsz
  have hD := hD0.self (sz := s.heap.size)
  generalize hAe : va_A (wd_X8 a ca u) s.heap.size = A at hD hQ
  have hA : ∀ q : Nat, s.heap.size ≤ q → A q := fun q h => by rw [← hAe]; exact Or.inr h
  have hS : va_S A s.heap s.heap [] := va_S.rf
  have hl := lv_entry ([.ref (a 0), .int x1, .int x2]) (n := 4) (Nat.le_of_ble_eq_true rfl)
  refine W.eq (g2 := F0 m 0 ((lg_sl ([.ref (a 0), .int x1, .int x2]) ++ List.replicate (4 - (lg_sl ([.ref (a 0), .int x1, .int x2])).length) Slot.unset).toArray) []) (by rw [hargs]; exact lg_entry_eq m _ 4) ?_
  generalize (lg_sl ([.ref (a 0), .int x1, .int x2]) ++ List.replicate (4 - (lg_sl ([.ref (a 0), .int x1, .int x2])).length) Slot.unset).toArray = ls at hl ⊢
  have hl : lv_has ls 4 [(0, .ref (a 0)), (1, .int x1), (2, .int x2)] := hl
  suffices hstart : ∀ (H : Heap) (locs : List Loc) (ls : Array Slot), va_P (dC, dI) vwCl (wd_X8 a ca u) H → va_D A (wd_X8 a ca u) → va_S A s.heap H locs → lv_has ls 4 [(0, .ref (a 0)), (1, .int x1), (2, .int x2)] → W p l e (headSpec wsX8_lose rm_X8_lose).room s m args below meth c H locs 0 0 Q (F0 m 0 ls []) from hstart _ _ _ hP hD hS hl
  clear hS hP hD hD0
  intro H locs ls hP hD hS hl
  have hin_X8 : ∀ w ∈ wsX80, w ∈ wsX8_lose := by decide +kernel
  have lk_0 := hts (.fieldLink RX8 42 "ForgettingLinesModel" "sizes" "[I") (by decide +kernel)
  have lk_1 := hts (.fieldLink RX8 45 "ForgettingLinesModel" "words" "[I") (by decide +kernel)
  unfold wp_X8_lose at h
  refine lv_iload_n hx hb dX8_lose_0 rfl (lv_at hl 1 rfl) ?_
  refine lv_iconst (v := 0) hx hb dX8_lose_1 (by decide) ?_
  refine lv_iconst (v := 1) hx hb dX8_lose_2 (by decide) ?_
  have hFc := fl_freeN hS hA
  refine va_calli (va_runS (As := [.int x1, .int 0, .int 1]) (rest := []) ⟨hx, hb, hml, hown, hts⟩ (c_X8_in l H.size x1 0 1 _ h) (va_cwS 3 hts gX8_lose_X8_in rfl rfl rfl (by decide +kernel) ⟨Nat.le_of_ble_eq_true rfl, Nat.le_of_ble_eq_true rfl⟩) ⟨fun a U g mk q => by obtain ⟨q0, q1⟩ := q; exact ⟨q0, q1⟩, fun U hU hW => ⟨rfl, congrArg Array.size hU⟩⟩ rfl rfl hl.1 rfl (lv_room (Nat.le_of_ble_eq_true rfl)) dX8_lose_3 ⟨Nat.zero_le _, Nat.zero_le _⟩) hS (fun q _ h => hFc q h) hFc (fun r_1 zz t H1 locs ht hvm hw hB hz1 hk1 hS => ?_)
  replace hP := fl_keep hP hk1
  replace h := hw
  generalize H1 = H at hP hS ⊢
  refine lv_if_eq (tgt := 29) hx hb dX8_lose_6 (by decide) (fun hc_2 => ?_) (fun hc_2 => ?_)
  · replace h := h.1 hc_2
    refine lv_iconst (v := (-1)) hx hb dX8_lose_29 (by decide) ?_
    subst hQ
    exact W.iret (v := (-1)) hx hb hr (fun t ht hW => ⟨⟨_, u, rfl, h, by rw [ht]; exact hP, hD⟩, hS.F ht⟩) hS.2.2 dX8_lose_30
  · replace h := h.2 hc_2
    refine lv_iload_n hx hb dX8_lose_9 rfl (lv_at hl 2 rfl) ?_
    refine lv_iconst (v := 0) hx hb dX8_lose_10 (by decide) ?_
    refine lv_aload_n hx hb dX8_lose_11 rfl (lv_at hl 0 rfl) ?_
    refine va_get (D := (dC, dI)) (ci := 7) (v := .ref (a 15)) (C := RX8) (T := TX8) (N := 25) hx hb hts hin_X8 hown hK hP 0 rfl rfl 14 (by decide) lk_0 (fun _ h9 => h9) rfl dX8_lose_12 ?_
    refine lv_sipush (v := 164) hx hb dX8_lose_15 (by decide) ?_
    refine lv_iload_n hx hb dX8_lose_18 rfl (lv_at hl 1 rfl) ?_
    refine lv_iadd hx hb dX8_lose_19 ?_
    obtain ⟨hi_3, h⟩ := h
    refine va_iald (D := (dC, dI)) (cl := vwCl) (i := (164 + x1)) hx hb hK hP 10 9 rfl rfl hi_3 dX8_lose_20 ?_
    refine lv_iconst (v := 1) hx hb dX8_lose_21 (by decide) ?_
    refine lv_isub hx hb dX8_lose_22 ?_
    have hFc := fl_freeN hS hA
    refine va_calli (va_runS (As := [.int x2, .int 0, .int ((u.2.1 14 (164 + x1).toNatClampNeg) - 1)]) (rest := []) ⟨hx, hb, hml, hown, hts⟩ (c_X8_in l H.size x2 0 ((u.2.1 14 (164 + x1).toNatClampNeg) - 1) _ h) (va_cwS 3 hts gX8_lose_X8_in rfl rfl rfl (by decide +kernel) ⟨Nat.le_of_ble_eq_true rfl, Nat.le_of_ble_eq_true rfl⟩) ⟨fun a U g mk q => by obtain ⟨q0, q1⟩ := q; exact ⟨q0, q1⟩, fun U hU hW => ⟨rfl, congrArg Array.size hU⟩⟩ rfl rfl hl.1 rfl (lv_room (Nat.le_of_ble_eq_true rfl)) dX8_lose_23 ⟨Nat.zero_le _, Nat.zero_le _⟩) hS (fun q _ h => hFc q h) hFc (fun r_4 zz t H1 locs ht hvm hw hB hz1 hk1 hS => ?_)
    replace hP := fl_keep hP hk1
    replace h := hw
    generalize H1 = H at hP hS ⊢
    refine lv_if_ne (tgt := 31) hx hb dX8_lose_26 (by decide) (fun hc_5 => ?_) (fun hc_5 => ?_)
    · replace h := h.1 hc_5
      refine lv_aload_n hx hb dX8_lose_31 rfl (lv_at hl 0 rfl) ?_
      refine va_get (D := (dC, dI)) (ci := 7) (v := .ref (a 16)) (C := RX8) (T := TX8) (N := 25) hx hb hts hin_X8 hown hK hP 0 rfl rfl 15 (by decide) lk_1 (fun _ h9 => h9) rfl dX8_lose_32 ?_
      refine lv_bipush (v := 82) hx hb dX8_lose_35 (by decide) ?_
      refine lv_iload_n hx hb dX8_lose_37 rfl (lv_at hl 1 rfl) ?_
      refine lv_iload_n hx hb dX8_lose_38 rfl (lv_at hl 2 rfl) ?_
      have hFc := fl_freeN hS hA
      refine va_calli (va_runS (As := [.int 82, .int x1, .int x2]) (rest := [.ref (a 16)]) ⟨hx, hb, hml, hown, hts⟩ (c_X8_spot l H.size 82 x1 x2 _ h) (va_cwS 3 hts gX8_lose_X8_spot rfl rfl rfl (by decide +kernel) ⟨Nat.le_of_ble_eq_true rfl, Nat.le_of_ble_eq_true rfl⟩) ⟨fun a U g mk q => by obtain ⟨q0, q1⟩ := q; exact ⟨q0, q1⟩, fun U hU hW => ⟨rfl, congrArg Array.size hU⟩⟩ rfl rfl hl.1 rfl (lv_room (Nat.le_of_ble_eq_true rfl)) dX8_lose_39 ⟨Nat.zero_le _, Nat.zero_le _⟩) hS (fun q _ h => hFc q h) hFc (fun r_6 zz t H1 locs ht hvm hw hB hz1 hk1 hS => ?_)
      replace hP := fl_keep hP hk1
      replace h := hw
      generalize H1 = H at hP hS ⊢
      obtain ⟨hi_7, h⟩ := h
      refine va_iald (D := (dC, dI)) (cl := vwCl) (i := r_6) hx hb hK hP 11 10 rfl rfl hi_7 dX8_lose_42 ?_
      refine lv_istore_n (lv' := [(3, .int (u.2.1 15 r_6.toNatClampNeg)), (0, .ref (a 0)), (1, .int x1), (2, .int x2)]) hx hb dX8_lose_43 rfl hl (by decide) rfl (fun ls hl => ?_)
      refine lv_aload_n hx hb dX8_lose_44 rfl (lv_at hl 1 rfl) ?_
      refine lv_bipush (v := 82) hx hb dX8_lose_45 (by decide) ?_
      refine lv_iload_n hx hb dX8_lose_47 rfl (lv_at hl 2 rfl) ?_
      refine lv_iload_n hx hb dX8_lose_48 rfl (lv_at hl 3 rfl) ?_
      have hPc := hP
      have hDc := hD
      have hKc := hK
      have hFc := va_free (wc := (wd_X8 a ca u)) hD hS hA [0, 1, 2, 3, 4, 5, 6, 7, 8, 9, 10, 11, 12, 13, 14, 15, 16, 17, 18, 19] rfl
      refine va_callv (va_runV (As := [.int 82, .int x1, .int x2]) (rest := []) ⟨hx, hb, hml, hown, hts⟩ (c_X8_takeOut l dC dI a ca H.size u 82 x1 x2 _ h) (cwV 3 hts gX8_lose_X8_takeOut rfl rfl rfl (by decide +kernel) ⟨Nat.le_of_ble_eq_true rfl, Nat.le_of_ble_eq_true rfl⟩) ⟨fun a U g mk q => by obtain ⟨q0, q1, qP, qK, qD⟩ := q; exact ⟨q0, q1, qP, va_K.moved (u := U) (U := U.calling g mk a) (Vm.Alike.refl U.vm) qK, qD⟩, va_recv hKc hPc (ci := 7) (q0 := 0) rfl rfl, fun U hU hW => ⟨rfl, by rw [hU], by rw [hU]; exact hPc, va_K.moved hW.alike hKc, hDc.weaken (fun _ _ _ _ => trivial)⟩⟩ rfl rfl hl.1 rfl (lv_room (Nat.le_of_ble_eq_true rfl)) dX8_lose_49 ⟨Nat.zero_le _, Nat.zero_le _⟩) hS (fun q _ h => hFc q h) hFc (fun zz t H1 locs ht hvm hw hB hz1 hk1 hS => ?_)
      obtain ⟨u_8, rfl⟩ : ∃ z, z = zz := ⟨_, rfl⟩
      replace h := hw
      obtain ⟨hP1, hD1⟩ := hB
      rw [ht] at hP1
      replace hD : va_D A (wd_X8 a ca u_8) := hD1.weaken (fun _ _ _ h9 => hFc _ h9)
      replace hP : va_P (dC, dI) vwCl (wd_X8 a ca u_8) H1 := hP1
      generalize H1 = H at hP hS ⊢
      refine lv_iload_n hx hb dX8_lose_52 rfl (lv_at hl 0 rfl) ?_
      subst hQ
      exact W.iret (v := (u.2.1 15 r_6.toNatClampNeg)) hx hb hr (fun t ht hW => ⟨⟨_, u_8, rfl, h, by rw [ht]; exact hP, hD⟩, hS.F ht⟩) hS.2.2 dX8_lose_53
    · replace h := h.2 hc_5
      refine lv_iconst (v := (-1)) hx hb dX8_lose_29 (by decide) ?_
      subst hQ
      exact W.iret (v := (-1)) hx hb hr (fun t ht hW => ⟨⟨_, u, rfl, h, by rw [ht]; exact hP, hD⟩, hS.F ht⟩) hS.2.2 dX8_lose_30
abbrev rm_X8_now : Room := { frames := 1, cells := 0, slots := 0, locals := 22 }
set_option maxHeartbeats 4000000 in
set_option maxRecDepth 100000 in
theorem c_X8_now (l : Launch) (dC : Nat → ClassId) (dI : Nat → Nat → Nat) (a : Nat → Nat) (ca : Nat → ClassId) (sz : Nat) (u : Ob) (x1 : Int32) (x2 : Int32) (post : Int32 → Prop) (h : wp_X8_now u x1 x2 post) : Met l yX8_now wsX8_now rm_X8_now (va_Pc [.ref (a 0), .int x1, .int x2] (fun U => U.heap.size = sz ∧ va_P (dC, dI) vwCl (wd_X8 a ca u) U.heap ∧ va_K (dC, dI) vwCl (ty_X8 ca) U ∧ va_D (fun _ => True) (wd_X8 a ca u))) (va_Qi (fun (rr : Int32) (_ : Unit) => post rr) (fun (zz : Unit) (t : State) => va_P (dC, dI) vwCl (wd_X8 a ca u) t.heap ∧ va_D (va_A (wd_X8 a ca u) sz) (wd_X8 a ca u)) (va_A (wd_X8 a ca u) sz)) 0 0 (va_A (wd_X8 a ca u) sz) := by
  refine fl_ofW (cc := cX8_now) (maxL := 3) (ret := (some .int)) (by decide) rfl ?_
  intro p e s m args below meth c s₁ Q B hml hv hQ
  obtain ⟨hargs, hsz, hP, hK, hD0⟩ := hv
  have hx := B.exec
  have hb := B.bytes
  have hr := B.returns
  have hts := atoms_spec (ws := wsX8_now) B.pre
  have hown : s.vm.findClass RX8 = some m.cls := findClass_of_methodNamed B.named
  subst hsz
  have hD := hD0.self (sz := s.heap.size)
  generalize hAe : va_A (wd_X8 a ca u) s.heap.size = A at hD hQ
  have hA : ∀ q : Nat, s.heap.size ≤ q → A q := fun q h => by rw [← hAe]; exact Or.inr h
  have hS : va_S A s.heap s.heap [] := va_S.rf
  have hl := lv_entry ([.ref (a 0), .int x1, .int x2]) (n := 3) (Nat.le_of_ble_eq_true rfl)
  refine W.eq (g2 := F0 m 0 ((lg_sl ([.ref (a 0), .int x1, .int x2]) ++ List.replicate (3 - (lg_sl ([.ref (a 0), .int x1, .int x2])).length) Slot.unset).toArray) []) (by rw [hargs]; exact lg_entry_eq m _ 3) ?_
  generalize (lg_sl ([.ref (a 0), .int x1, .int x2]) ++ List.replicate (3 - (lg_sl ([.ref (a 0), .int x1, .int x2])).length) Slot.unset).toArray = ls at hl ⊢
  have hl : lv_has ls 3 [(0, .ref (a 0)), (1, .int x1), (2, .int x2)] := hl
  suffices hstart : ∀ (H : Heap) (locs : List Loc) (ls : Array Slot), va_P (dC, dI) vwCl (wd_X8 a ca u) H → va_D A (wd_X8 a ca u) → va_S A s.heap H locs → lv_has ls 3 [(0, .ref (a 0)), (1, .int x1), (2, .int x2)] → W p l e (headSpec wsX8_now rm_X8_now).room s m args below meth c H locs 0 0 Q (F0 m 0 ls []) from hstart _ _ _ hP hD hS hl
  clear hS hP hD hD0
  intro H locs ls hP hD hS hl
  have hin_X8 : ∀ w ∈ wsX80, w ∈ wsX8_now := by decide +kernel
  have lk_0 := hts (.fieldLink RX8 42 "ForgettingLinesModel" "sizes" "[I") (by decide +kernel)
  have lk_1 := hts (.fieldLink RX8 45 "ForgettingLinesModel" "words" "[I") (by decide +kernel)
  have lk_2 := hts (.fieldLink RX8 39 "ForgettingLinesModel" "stateOf" "[I") (by decide +kernel)
  unfold wp_X8_now at h
  refine lv_iload_n hx hb dX8_now_0 rfl (lv_at hl 2 rfl) ?_
  refine lv_bipush (v := (-2)) hx hb dX8_now_1 (by decide) ?_
  refine lv_icmp_ne (tgt := 14) hx hb dX8_now_3 (by decide) (fun hc_1 => ?_) (fun hc_1 => ?_)
  · replace h := h.1 hc_1
    refine lv_iload_n hx hb dX8_now_14 rfl (lv_at hl 1 rfl) ?_
    refine lv_iconst (v := 0) hx hb dX8_now_15 (by decide) ?_
    refine lv_iconst (v := 1) hx hb dX8_now_16 (by decide) ?_
    have hFc := fl_freeN hS hA
    refine va_calli (va_runS (As := [.int x1, .int 0, .int 1]) (rest := []) ⟨hx, hb, hml, hown, hts⟩ (c_X8_in l H.size x1 0 1 _ h) (va_cwS 3 hts gX8_now_X8_in rfl rfl rfl (by decide +kernel) ⟨Nat.le_of_ble_eq_true rfl, Nat.le_of_ble_eq_true rfl⟩) ⟨fun a U g mk q => by obtain ⟨q0, q1⟩ := q; exact ⟨q0, q1⟩, fun U hU hW => ⟨rfl, congrArg Array.size hU⟩⟩ rfl rfl hl.1 rfl (lv_room (Nat.le_of_ble_eq_true rfl)) dX8_now_17 ⟨Nat.zero_le _, Nat.zero_le _⟩) hS (fun q _ h => hFc q h) hFc (fun r_2 zz t H1 locs ht hvm hw hB hz1 hk1 hS => ?_)
    replace hP := fl_keep hP hk1
    replace h := hw
    generalize H1 = H at hP hS ⊢
    refine lv_if_eq (tgt := 43) hx hb dX8_now_20 (by decide) (fun hc_3 => ?_) (fun hc_3 => ?_)
    · replace h := h.1 hc_3
      refine lv_iconst (v := (-1)) hx hb dX8_now_43 (by decide) ?_
      subst hQ
      exact W.iret (v := (-1)) hx hb hr (fun t ht hW => ⟨⟨_, (), rfl, h, by rw [ht]; exact hP, hD⟩, hS.F ht⟩) hS.2.2 dX8_now_44
    · replace h := h.2 hc_3
      refine lv_iload_n hx hb dX8_now_23 rfl (lv_at hl 2 rfl) ?_
      refine lv_iconst (v := (-1)) hx hb dX8_now_24 (by decide) ?_
      refine lv_aload_n hx hb dX8_now_25 rfl (lv_at hl 0 rfl) ?_
      refine va_get (D := (dC, dI)) (ci := 7) (v := .ref (a 15)) (C := RX8) (T := TX8) (N := 25) hx hb hts hin_X8 hown hK hP 0 rfl rfl 14 (by decide) lk_0 (fun _ h9 => h9) rfl dX8_now_26 ?_
      refine lv_sipush (v := 164) hx hb dX8_now_29 (by decide) ?_
      refine lv_iload_n hx hb dX8_now_32 rfl (lv_at hl 1 rfl) ?_
      refine lv_iadd hx hb dX8_now_33 ?_
      obtain ⟨hi_4, h⟩ := h
      refine va_iald (D := (dC, dI)) (cl := vwCl) (i := (164 + x1)) hx hb hK hP 10 9 rfl rfl hi_4 dX8_now_34 ?_
      refine lv_iconst (v := 1) hx hb dX8_now_35 (by decide) ?_
      refine lv_isub hx hb dX8_now_36 ?_
      have hFc := fl_freeN hS hA
      refine va_calli (va_runS (As := [.int x2, .int (-1), .int ((u.2.1 14 (164 + x1).toNatClampNeg) - 1)]) (rest := []) ⟨hx, hb, hml, hown, hts⟩ (c_X8_in l H.size x2 (-1) ((u.2.1 14 (164 + x1).toNatClampNeg) - 1) _ h) (va_cwS 3 hts gX8_now_X8_in rfl rfl rfl (by decide +kernel) ⟨Nat.le_of_ble_eq_true rfl, Nat.le_of_ble_eq_true rfl⟩) ⟨fun a U g mk q => by obtain ⟨q0, q1⟩ := q; exact ⟨q0, q1⟩, fun U hU hW => ⟨rfl, congrArg Array.size hU⟩⟩ rfl rfl hl.1 rfl (lv_room (Nat.le_of_ble_eq_true rfl)) dX8_now_37 ⟨Nat.zero_le _, Nat.zero_le _⟩) hS (fun q _ h => hFc q h) hFc (fun r_5 zz t H1 locs ht hvm hw hB hz1 hk1 hS => ?_)
      replace hP := fl_keep hP hk1
      replace h := hw
      generalize H1 = H at hP hS ⊢
      refine lv_if_ne (tgt := 45) hx hb dX8_now_40 (by decide) (fun hc_6 => ?_) (fun hc_6 => ?_)
      · replace h := h.1 hc_6
        refine lv_iload_n hx hb dX8_now_45 rfl (lv_at hl 2 rfl) ?_
        refine lv_iconst (v := (-1)) hx hb dX8_now_46 (by decide) ?_
        refine lv_icmp_ne (tgt := 63) hx hb dX8_now_47 (by decide) (fun hc_7 => ?_) (fun hc_7 => ?_)
        · replace h := h.1 hc_7
          refine lv_aload_n hx hb dX8_now_63 rfl (lv_at hl 0 rfl) ?_
          refine va_get (D := (dC, dI)) (ci := 7) (v := .ref (a 16)) (C := RX8) (T := TX8) (N := 25) hx hb hts hin_X8 hown hK hP 0 rfl rfl 15 (by decide) lk_1 (fun _ h9 => h9) rfl dX8_now_64 ?_
          refine lv_bipush (v := 82) hx hb dX8_now_67 (by decide) ?_
          refine lv_iload_n hx hb dX8_now_69 rfl (lv_at hl 1 rfl) ?_
          refine lv_iload_n hx hb dX8_now_70 rfl (lv_at hl 2 rfl) ?_
          have hFc := fl_freeN hS hA
          refine va_calli (va_runS (As := [.int 82, .int x1, .int x2]) (rest := [.ref (a 16)]) ⟨hx, hb, hml, hown, hts⟩ (c_X8_spot l H.size 82 x1 x2 _ h) (va_cwS 3 hts gX8_now_X8_spot rfl rfl rfl (by decide +kernel) ⟨Nat.le_of_ble_eq_true rfl, Nat.le_of_ble_eq_true rfl⟩) ⟨fun a U g mk q => by obtain ⟨q0, q1⟩ := q; exact ⟨q0, q1⟩, fun U hU hW => ⟨rfl, congrArg Array.size hU⟩⟩ rfl rfl hl.1 rfl (lv_room (Nat.le_of_ble_eq_true rfl)) dX8_now_71 ⟨Nat.zero_le _, Nat.zero_le _⟩) hS (fun q _ h => hFc q h) hFc (fun r_8 zz t H1 locs ht hvm hw hB hz1 hk1 hS => ?_)
          replace hP := fl_keep hP hk1
          replace h := hw
          generalize H1 = H at hP hS ⊢
          obtain ⟨hi_9, h⟩ := h
          refine va_iald (D := (dC, dI)) (cl := vwCl) (i := r_8) hx hb hK hP 11 10 rfl rfl hi_9 dX8_now_74 ?_
          subst hQ
          exact W.iret (v := (u.2.1 15 r_8.toNatClampNeg)) hx hb hr (fun t ht hW => ⟨⟨_, (), rfl, h, by rw [ht]; exact hP, hD⟩, hS.F ht⟩) hS.2.2 dX8_now_75
        · replace h := h.2 hc_7
          refine lv_aload_n hx hb dX8_now_50 rfl (lv_at hl 0 rfl) ?_
          refine va_get (D := (dC, dI)) (ci := 7) (v := .ref (a 15)) (C := RX8) (T := TX8) (N := 25) hx hb hts hin_X8 hown hK hP 0 rfl rfl 14 (by decide) lk_0 (fun _ h9 => h9) rfl dX8_now_51 ?_
          refine lv_sipush (v := 164) hx hb dX8_now_54 (by decide) ?_
          refine lv_iload_n hx hb dX8_now_57 rfl (lv_at hl 1 rfl) ?_
          refine lv_iadd hx hb dX8_now_58 ?_
          obtain ⟨hi_10, h⟩ := h
          refine va_iald (D := (dC, dI)) (cl := vwCl) (i := (164 + x1)) hx hb hK hP 10 9 rfl rfl hi_10 dX8_now_59 ?_
          refine lv_goto (tgt := 75) hx hb dX8_now_60 (by decide) ?_
          subst hQ
          exact W.iret (v := (u.2.1 14 (164 + x1).toNatClampNeg)) hx hb hr (fun t ht hW => ⟨⟨_, (), rfl, h, by rw [ht]; exact hP, hD⟩, hS.F ht⟩) hS.2.2 dX8_now_75
      · replace h := h.2 hc_6
        refine lv_iconst (v := (-1)) hx hb dX8_now_43 (by decide) ?_
        subst hQ
        exact W.iret (v := (-1)) hx hb hr (fun t ht hW => ⟨⟨_, (), rfl, h, by rw [ht]; exact hP, hD⟩, hS.F ht⟩) hS.2.2 dX8_now_44
  · replace h := h.2 hc_1
    refine lv_aload_n hx hb dX8_now_6 rfl (lv_at hl 0 rfl) ?_
    refine va_get (D := (dC, dI)) (ci := 7) (v := .ref (a 14)) (C := RX8) (T := TX8) (N := 25) hx hb hts hin_X8 hown hK hP 0 rfl rfl 13 (by decide) lk_2 (fun _ h9 => h9) rfl dX8_now_7 ?_
    refine lv_bipush (v := 82) hx hb dX8_now_10 (by decide) ?_
    obtain ⟨hi_11, h⟩ := h
    refine va_iald (D := (dC, dI)) (cl := vwCl) (i := 82) hx hb hK hP 9 8 rfl rfl hi_11 dX8_now_12 ?_
    subst hQ
    exact W.iret (v := (u.2.1 13 (82 : Int32).toNatClampNeg)) hx hb hr (fun t ht hW => ⟨⟨_, (), rfl, h, by rw [ht]; exact hP, hD⟩, hS.F ht⟩) hS.2.2 dX8_now_13
abbrev rm_X8_reset : Room := { frames := 1, cells := 0, slots := 0, locals := 22 }
set_option maxHeartbeats 4000000 in
set_option maxRecDepth 100000 in
theorem c_X8_reset (l : Launch) (dC : Nat → ClassId) (dI : Nat → Nat → Nat) (a : Nat → Nat) (ca : Nat → ClassId) (sz : Nat) (u : Ob) (post : Int32 → Ob → Prop) (h : wp_X8_reset u post) : Met l yX8_reset wsX8_reset rm_X8_reset (va_Pc [.ref (a 0)] (fun U => U.heap.size = sz ∧ va_P (dC, dI) vwCl (wd_X8 a ca u) U.heap ∧ va_K (dC, dI) vwCl (ty_X8 ca) U ∧ va_D (fun _ => True) (wd_X8 a ca u))) (va_Qi post (fun (zz : Ob) (t : State) => va_P (dC, dI) vwCl (wd_X8 a ca zz) t.heap ∧ va_D (va_A (wd_X8 a ca u) sz) (wd_X8 a ca zz)) (va_A (wd_X8 a ca u) sz)) 0 0 (va_A (wd_X8 a ca u) sz) := by
  refine fl_ofW (cc := cX8_reset) (maxL := 1) (ret := (some .int)) (by decide) rfl ?_
  intro p e s m args below meth c s₁ Q B hml hv hQ
  obtain ⟨hargs, hsz, hP, hK, hD0⟩ := hv
  have hx := B.exec
  have hb := B.bytes
  have hr := B.returns
  have hts := atoms_spec (ws := wsX8_reset) B.pre
  have hown : s.vm.findClass RX8 = some m.cls := findClass_of_methodNamed B.named
  subst hsz
  have hD := hD0.self (sz := s.heap.size)
  generalize hAe : va_A (wd_X8 a ca u) s.heap.size = A at hD hQ
  have hA : ∀ q : Nat, s.heap.size ≤ q → A q := fun q h => by rw [← hAe]; exact Or.inr h
  have hS : va_S A s.heap s.heap [] := va_S.rf
  have hl := lv_entry ([.ref (a 0)]) (n := 1) (Nat.le_of_ble_eq_true rfl)
  refine W.eq (g2 := F0 m 0 ((lg_sl ([.ref (a 0)]) ++ List.replicate (1 - (lg_sl ([.ref (a 0)])).length) Slot.unset).toArray) []) (by rw [hargs]; exact lg_entry_eq m _ 1) ?_
  generalize (lg_sl ([.ref (a 0)]) ++ List.replicate (1 - (lg_sl ([.ref (a 0)])).length) Slot.unset).toArray = ls at hl ⊢
  have hl : lv_has ls 1 [(0, .ref (a 0))] := hl
  suffices hstart : ∀ (H : Heap) (locs : List Loc) (ls : Array Slot), va_P (dC, dI) vwCl (wd_X8 a ca u) H → va_D A (wd_X8 a ca u) → va_S A s.heap H locs → lv_has ls 1 [(0, .ref (a 0))] → W p l e (headSpec wsX8_reset rm_X8_reset).room s m args below meth c H locs 0 0 Q (F0 m 0 ls []) from hstart _ _ _ hP hD hS hl
  clear hS hP hD hD0
  intro H locs ls hP hD hS hl
  unfold wp_X8_reset at h
  refine lv_aload_n hx hb dX8_reset_0 rfl (lv_at hl 0 rfl) ?_
  refine lv_bipush (v := 82) hx hb dX8_reset_1 (by decide) ?_
  refine lv_iconst (v := 0) hx hb dX8_reset_3 (by decide) ?_
  have hPc := hP
  have hDc := hD
  have hKc := hK
  have hFc := va_free (wc := (wd_X8 a ca u)) hD hS hA [0, 1, 2, 3, 4, 5, 6, 7, 8, 9, 10, 11, 12, 13, 14, 15, 16, 17, 18, 19] rfl
  refine va_callv (va_runV (As := [.int 82, .int 0]) (rest := []) ⟨hx, hb, hml, hown, hts⟩ (c_X8_empty l dC dI a ca H.size u 82 0 _ h) (cwV 2 hts gX8_reset_X8_empty rfl rfl rfl (by decide +kernel) ⟨Nat.le_of_ble_eq_true rfl, Nat.le_of_ble_eq_true rfl⟩) ⟨fun a U g mk q => by obtain ⟨q0, q1, qP, qK, qD⟩ := q; exact ⟨q0, q1, qP, va_K.moved (u := U) (U := U.calling g mk a) (Vm.Alike.refl U.vm) qK, qD⟩, va_recv hKc hPc (ci := 7) (q0 := 0) rfl rfl, fun U hU hW => ⟨rfl, by rw [hU], by rw [hU]; exact hPc, va_K.moved hW.alike hKc, hDc.weaken (fun _ _ _ _ => trivial)⟩⟩ rfl rfl hl.1 rfl (lv_room (Nat.le_of_ble_eq_true rfl)) dX8_reset_4 ⟨Nat.zero_le _, Nat.zero_le _⟩) hS (fun q _ h => hFc q h) hFc (fun zz t H1 locs ht hvm hw hB hz1 hk1 hS => ?_)
  obtain ⟨u_1, rfl⟩ : ∃ z, z = zz := ⟨_, rfl⟩
  replace h := hw
  obtain ⟨hP1, hD1⟩ := hB
  rw [ht] at hP1
  replace hD : va_D A (wd_X8 a ca u_1) := hD1.weaken (fun _ _ _ h9 => hFc _ h9)
  replace hP : va_P (dC, dI) vwCl (wd_X8 a ca u_1) H1 := hP1
  generalize H1 = H at hP hS ⊢
  refine lv_iconst (v := 1) hx hb dX8_reset_7 (by decide) ?_
  subst hQ
  exact W.iret (v := 1) hx hb hr (fun t ht hW => ⟨⟨_, u_1, rfl, h, by rw [ht]; exact hP, hD⟩, hS.F ht⟩) hS.2.2 dX8_reset_8
abbrev rm_X8_aim : Room := { frames := 2, cells := 0, slots := 0, locals := 43 }
set_option maxHeartbeats 4000000 in
set_option maxRecDepth 100000 in
theorem c_X8_aim (l : Launch) (dC : Nat → ClassId) (dI : Nat → Nat → Nat) (a : Nat → Nat) (ca : Nat → ClassId) (sz : Nat) (u : Ob) (x1 : Int32) (post : Int32 → Ob → Prop) (h : wp_X8_aim u x1 post) : Met l yX8_aim wsX8_aim rm_X8_aim (va_Pc [.ref (a 0), .int x1] (fun U => U.heap.size = sz ∧ va_P (dC, dI) vwCl (wd_X8 a ca u) U.heap ∧ va_K (dC, dI) vwCl (ty_X8 ca) U ∧ va_D (fun _ => True) (wd_X8 a ca u))) (va_Qi post (fun (zz : Ob) (t : State) => va_P (dC, dI) vwCl (wd_X8 a ca zz) t.heap ∧ va_D (va_A (wd_X8 a ca u) sz) (wd_X8 a ca zz)) (va_A (wd_X8 a ca u) sz)) 0 0 (va_A (wd_X8 a ca u) sz) := by
  refine fl_ofW (cc := cX8_aim) (maxL := 2) (ret := (some .int)) (by decide) rfl ?_
  intro p e s m args below meth c s₁ Q B hml hv hQ
  obtain ⟨hargs, hsz, hP, hK, hD0⟩ := hv
  have hx := B.exec
  have hb := B.bytes
  have hr := B.returns
  have hts := atoms_spec (ws := wsX8_aim) B.pre
  have hown : s.vm.findClass RX8 = some m.cls := findClass_of_methodNamed B.named
  subst hsz
  have hD := hD0.self (sz := s.heap.size)
  generalize hAe : va_A (wd_X8 a ca u) s.heap.size = A at hD hQ
  have hA : ∀ q : Nat, s.heap.size ≤ q → A q := fun q h => by rw [← hAe]; exact Or.inr h
  have hS : va_S A s.heap s.heap [] := va_S.rf
  have hl := lv_entry ([.ref (a 0), .int x1]) (n := 2) (Nat.le_of_ble_eq_true rfl)
  refine W.eq (g2 := F0 m 0 ((lg_sl ([.ref (a 0), .int x1]) ++ List.replicate (2 - (lg_sl ([.ref (a 0), .int x1])).length) Slot.unset).toArray) []) (by rw [hargs]; exact lg_entry_eq m _ 2) ?_
  generalize (lg_sl ([.ref (a 0), .int x1]) ++ List.replicate (2 - (lg_sl ([.ref (a 0), .int x1])).length) Slot.unset).toArray = ls at hl ⊢
  have hl : lv_has ls 2 [(0, .ref (a 0)), (1, .int x1)] := hl
  suffices hstart : ∀ (H : Heap) (locs : List Loc) (ls : Array Slot), va_P (dC, dI) vwCl (wd_X8 a ca u) H → va_D A (wd_X8 a ca u) → va_S A s.heap H locs → lv_has ls 2 [(0, .ref (a 0)), (1, .int x1)] → W p l e (headSpec wsX8_aim rm_X8_aim).room s m args below meth c H locs 0 0 Q (F0 m 0 ls []) from hstart _ _ _ hP hD hS hl
  clear hS hP hD hD0
  intro H locs ls hP hD hS hl
  unfold wp_X8_aim at h
  refine lv_aload_n hx hb dX8_aim_0 rfl (lv_at hl 0 rfl) ?_
  refine lv_iload_n hx hb dX8_aim_1 rfl (lv_at hl 1 rfl) ?_
  have hPc := hP
  have hDc := hD
  have hKc := hK
  have hFc := va_free (wc := (wd_X8 a ca u)) hD hS hA [0, 1, 2, 3, 4, 5, 6, 7, 8, 9, 10, 11, 12, 13, 14, 15, 16, 17, 18, 19] rfl
  refine va_calli (va_runV (As := [.int x1]) (rest := []) ⟨hx, hb, hml, hown, hts⟩ (c_X8_isState l dC dI a ca H.size u x1 _ h) (cwV 1 hts gX8_aim_X8_isState rfl rfl rfl (by decide +kernel) ⟨Nat.le_of_ble_eq_true rfl, Nat.le_of_ble_eq_true rfl⟩) ⟨fun a U g mk q => by obtain ⟨q0, q1, qP, qK, qD⟩ := q; exact ⟨q0, q1, qP, va_K.moved (u := U) (U := U.calling g mk a) (Vm.Alike.refl U.vm) qK, qD⟩, va_recv hKc hPc (ci := 7) (q0 := 0) rfl rfl, fun U hU hW => ⟨rfl, by rw [hU], by rw [hU]; exact hPc, va_K.moved hW.alike hKc, hDc.weaken (fun _ _ _ _ => trivial)⟩⟩ rfl rfl hl.1 rfl (lv_room (Nat.le_of_ble_eq_true rfl)) dX8_aim_2 ⟨Nat.zero_le _, Nat.zero_le _⟩) hS (fun q _ h => hFc q h) hFc (fun r_1 zz t H1 locs ht hvm hw hB hz1 hk1 hS => ?_)
  replace h := hw
  obtain ⟨hP1, hD1⟩ := hB
  rw [ht] at hP1
  replace hD : va_D A (wd_X8 a ca u) := hD1.weaken (fun _ _ _ h9 => hFc _ h9)
  replace hP : va_P (dC, dI) vwCl (wd_X8 a ca u) H1 := hP1
  generalize H1 = H at hP hS ⊢
  refine lv_if_ne (tgt := 10) hx hb dX8_aim_5 (by decide) (fun hc_2 => ?_) (fun hc_2 => ?_)
  · replace h := h.1 hc_2
    refine lv_aload_n hx hb dX8_aim_10 rfl (lv_at hl 0 rfl) ?_
    refine lv_bipush (v := 81) hx hb dX8_aim_11 (by decide) ?_
    refine lv_iload_n hx hb dX8_aim_13 rfl (lv_at hl 1 rfl) ?_
    have hPc := hP
    have hDc := hD
    have hKc := hK
    have hFc := va_free (wc := (wd_X8 a ca u)) hD hS hA [0, 1, 2, 3, 4, 5, 6, 7, 8, 9, 10, 11, 12, 13, 14, 15, 16, 17, 18, 19] rfl
    refine va_callv (va_runV (As := [.int 81, .int x1]) (rest := []) ⟨hx, hb, hml, hown, hts⟩ (c_X8_empty l dC dI a ca H.size u 81 x1 _ h) (cwV 2 hts gX8_aim_X8_empty rfl rfl rfl (by decide +kernel) ⟨Nat.le_of_ble_eq_true rfl, Nat.le_of_ble_eq_true rfl⟩) ⟨fun a U g mk q => by obtain ⟨q0, q1, qP, qK, qD⟩ := q; exact ⟨q0, q1, qP, va_K.moved (u := U) (U := U.calling g mk a) (Vm.Alike.refl U.vm) qK, qD⟩, va_recv hKc hPc (ci := 7) (q0 := 0) rfl rfl, fun U hU hW => ⟨rfl, by rw [hU], by rw [hU]; exact hPc, va_K.moved hW.alike hKc, hDc.weaken (fun _ _ _ _ => trivial)⟩⟩ rfl rfl hl.1 rfl (lv_room (Nat.le_of_ble_eq_true rfl)) dX8_aim_14 ⟨Nat.zero_le _, Nat.zero_le _⟩) hS (fun q _ h => hFc q h) hFc (fun zz t H1 locs ht hvm hw hB hz1 hk1 hS => ?_)
    obtain ⟨u_3, rfl⟩ : ∃ z, z = zz := ⟨_, rfl⟩
    replace h := hw
    obtain ⟨hP1, hD1⟩ := hB
    rw [ht] at hP1
    replace hD : va_D A (wd_X8 a ca u_3) := hD1.weaken (fun _ _ _ h9 => hFc _ h9)
    replace hP : va_P (dC, dI) vwCl (wd_X8 a ca u_3) H1 := hP1
    generalize H1 = H at hP hS ⊢
    refine lv_iconst (v := 1) hx hb dX8_aim_17 (by decide) ?_
    subst hQ
    exact W.iret (v := 1) hx hb hr (fun t ht hW => ⟨⟨_, u_3, rfl, h, by rw [ht]; exact hP, hD⟩, hS.F ht⟩) hS.2.2 dX8_aim_18
  · replace h := h.2 hc_2
    refine lv_iconst (v := (-1)) hx hb dX8_aim_8 (by decide) ?_
    subst hQ
    exact W.iret (v := (-1)) hx hb hr (fun t ht hW => ⟨⟨_, u, rfl, h, by rw [ht]; exact hP, hD⟩, hS.F ht⟩) hS.2.2 dX8_aim_9
abbrev rm_X8_want : Room := { frames := 2, cells := 0, slots := 0, locals := 47 }
set_option maxHeartbeats 4000000 in
set_option maxRecDepth 100000 in
theorem c_X8_want (l : Launch) (dC : Nat → ClassId) (dI : Nat → Nat → Nat) (a : Nat → Nat) (ca : Nat → ClassId) (sz : Nat) (u : Ob) (x1 : Int32) (x2 : Int32) (post : Int32 → Ob → Prop) (h : wp_X8_want u x1 x2 post) : Met l yX8_want wsX8_want rm_X8_want (va_Pc [.ref (a 0), .int x1, .int x2] (fun U => U.heap.size = sz ∧ va_P (dC, dI) vwCl (wd_X8 a ca u) U.heap ∧ va_K (dC, dI) vwCl (ty_X8 ca) U ∧ va_D (fun _ => True) (wd_X8 a ca u))) (va_Qi post (fun (zz : Ob) (t : State) => va_P (dC, dI) vwCl (wd_X8 a ca zz) t.heap ∧ va_D (va_A (wd_X8 a ca u) sz) (wd_X8 a ca zz)) (va_A (wd_X8 a ca u) sz)) 0 0 (va_A (wd_X8 a ca u) sz) := by
  refine fl_ofW (cc := cX8_want) (maxL := 3) (ret := (some .int)) (by decide) rfl ?_
  intro p e s m args below meth c s₁ Q B hml hv hQ
  obtain ⟨hargs, hsz, hP, hK, hD0⟩ := hv
  have hx := B.exec
  have hb := B.bytes
  have hr := B.returns
  have hts := atoms_spec (ws := wsX8_want) B.pre
  have hown : s.vm.findClass RX8 = some m.cls := findClass_of_methodNamed B.named
  subst hsz
  have hD := hD0.self (sz := s.heap.size)
  generalize hAe : va_A (wd_X8 a ca u) s.heap.size = A at hD hQ
  have hA : ∀ q : Nat, s.heap.size ≤ q → A q := fun q h => by rw [← hAe]; exact Or.inr h
  have hS : va_S A s.heap s.heap [] := va_S.rf
  have hl := lv_entry ([.ref (a 0), .int x1, .int x2]) (n := 3) (Nat.le_of_ble_eq_true rfl)
  refine W.eq (g2 := F0 m 0 ((lg_sl ([.ref (a 0), .int x1, .int x2]) ++ List.replicate (3 - (lg_sl ([.ref (a 0), .int x1, .int x2])).length) Slot.unset).toArray) []) (by rw [hargs]; exact lg_entry_eq m _ 3) ?_
  generalize (lg_sl ([.ref (a 0), .int x1, .int x2]) ++ List.replicate (3 - (lg_sl ([.ref (a 0), .int x1, .int x2])).length) Slot.unset).toArray = ls at hl ⊢
  have hl : lv_has ls 3 [(0, .ref (a 0)), (1, .int x1), (2, .int x2)] := hl
  suffices hstart : ∀ (H : Heap) (locs : List Loc) (ls : Array Slot), va_P (dC, dI) vwCl (wd_X8 a ca u) H → va_D A (wd_X8 a ca u) → va_S A s.heap H locs → lv_has ls 3 [(0, .ref (a 0)), (1, .int x1), (2, .int x2)] → W p l e (headSpec wsX8_want rm_X8_want).room s m args below meth c H locs 0 0 Q (F0 m 0 ls []) from hstart _ _ _ hP hD hS hl
  clear hS hP hD hD0
  intro H locs ls hP hD hS hl
  have hin_X8 : ∀ w ∈ wsX80, w ∈ wsX8_want := by decide +kernel
  have lk_0 := hts (.fieldLink RX8 42 "ForgettingLinesModel" "sizes" "[I") (by decide +kernel)
  have lk_1 := hts (.fieldLink RX8 13 "ForgettingLinesModel" "bags" "[Z") (by decide +kernel)
  unfold wp_X8_want at h
  refine lv_iload_n hx hb dX8_want_0 rfl (lv_at hl 1 rfl) ?_
  refine lv_iconst (v := 0) hx hb dX8_want_1 (by decide) ?_
  refine lv_iconst (v := 1) hx hb dX8_want_2 (by decide) ?_
  have hFc := fl_freeN hS hA
  refine va_calli (va_runS (As := [.int x1, .int 0, .int 1]) (rest := []) ⟨hx, hb, hml, hown, hts⟩ (c_X8_in l H.size x1 0 1 _ h) (va_cwS 3 hts gX8_want_X8_in rfl rfl rfl (by decide +kernel) ⟨Nat.le_of_ble_eq_true rfl, Nat.le_of_ble_eq_true rfl⟩) ⟨fun a U g mk q => by obtain ⟨q0, q1⟩ := q; exact ⟨q0, q1⟩, fun U hU hW => ⟨rfl, congrArg Array.size hU⟩⟩ rfl rfl hl.1 rfl (lv_room (Nat.le_of_ble_eq_true rfl)) dX8_want_3 ⟨Nat.zero_le _, Nat.zero_le _⟩) hS (fun q _ h => hFc q h) hFc (fun r_1 zz t H1 locs ht hvm hw hB hz1 hk1 hS => ?_)
  replace hP := fl_keep hP hk1
  replace h := hw
  generalize H1 = H at hP hS ⊢
  refine lv_if_eq (tgt := 18) hx hb dX8_want_6 (by decide) (fun hc_2 => ?_) (fun hc_2 => ?_)
  · replace h := h.1 hc_2
    refine lv_iconst (v := (-1)) hx hb dX8_want_18 (by decide) ?_
    subst hQ
    exact W.iret (v := (-1)) hx hb hr (fun t ht hW => ⟨⟨_, u, rfl, h, by rw [ht]; exact hP, hD⟩, hS.F ht⟩) hS.2.2 dX8_want_19
  · replace h := h.2 hc_2
    refine lv_iload_n hx hb dX8_want_9 rfl (lv_at hl 2 rfl) ?_
    refine lv_iconst (v := 0) hx hb dX8_want_10 (by decide) ?_
    refine lv_iconst (v := 2) hx hb dX8_want_11 (by decide) ?_
    have hFc := fl_freeN hS hA
    refine va_calli (va_runS (As := [.int x2, .int 0, .int 2]) (rest := []) ⟨hx, hb, hml, hown, hts⟩ (c_X8_in l H.size x2 0 2 _ h) (va_cwS 3 hts gX8_want_X8_in rfl rfl rfl (by decide +kernel) ⟨Nat.le_of_ble_eq_true rfl, Nat.le_of_ble_eq_true rfl⟩) ⟨fun a U g mk q => by obtain ⟨q0, q1⟩ := q; exact ⟨q0, q1⟩, fun U hU hW => ⟨rfl, congrArg Array.size hU⟩⟩ rfl rfl hl.1 rfl (lv_room (Nat.le_of_ble_eq_true rfl)) dX8_want_12 ⟨Nat.zero_le _, Nat.zero_le _⟩) hS (fun q _ h => hFc q h) hFc (fun r_3 zz t H1 locs ht hvm hw hB hz1 hk1 hS => ?_)
    replace hP := fl_keep hP hk1
    replace h := hw
    generalize H1 = H at hP hS ⊢
    refine lv_if_ne (tgt := 20) hx hb dX8_want_15 (by decide) (fun hc_4 => ?_) (fun hc_4 => ?_)
    · replace h := h.1 hc_4
      refine lv_aload_n hx hb dX8_want_20 rfl (lv_at hl 0 rfl) ?_
      refine va_get (D := (dC, dI)) (ci := 7) (v := .ref (a 15)) (C := RX8) (T := TX8) (N := 25) hx hb hts hin_X8 hown hK hP 0 rfl rfl 14 (by decide) lk_0 (fun _ h9 => h9) rfl dX8_want_21 ?_
      refine lv_sipush (v := 162) hx hb dX8_want_24 (by decide) ?_
      refine lv_iload_n hx hb dX8_want_27 rfl (lv_at hl 1 rfl) ?_
      refine lv_iadd hx hb dX8_want_28 ?_
      obtain ⟨hi_5, h⟩ := h
      refine va_iald (D := (dC, dI)) (cl := vwCl) (i := (162 + x1)) hx hb hK hP 10 9 rfl rfl hi_5 dX8_want_29 ?_
      refine lv_bipush (v := 10) hx hb dX8_want_30 (by decide) ?_
      refine lv_icmp_ne (tgt := 38) hx hb dX8_want_32 (by decide) (fun hc_6 => ?_) (fun hc_6 => ?_)
      · replace h := h.1 hc_6
        refine lv_aload_n hx hb dX8_want_38 rfl (lv_at hl 0 rfl) ?_
        refine lv_bipush (v := 81) hx hb dX8_want_39 (by decide) ?_
        refine lv_iload_n hx hb dX8_want_41 rfl (lv_at hl 1 rfl) ?_
        refine lv_aload_n hx hb dX8_want_42 rfl (lv_at hl 0 rfl) ?_
        refine va_get (D := (dC, dI)) (ci := 7) (v := .ref (a 2)) (C := RX8) (T := TX8) (N := 25) hx hb hts hin_X8 hown hK hP 0 rfl rfl 1 (by decide) lk_1 (fun _ h9 => h9) rfl dX8_want_43 ?_
        refine lv_iload_n hx hb dX8_want_46 rfl (lv_at hl 1 rfl) ?_
        obtain ⟨hi_7, h⟩ := h
        refine va_zald (D := (dC, dI)) (cl := vwCl) (i := x1) hx hb hK hP 1 0 rfl rfl hi_7 dX8_want_47 ?_
        refine jn1_ind (GG := (fun (w_9 : Int32) => ∀ (H : Heap) (locs : List Loc) (ls : Array Slot), va_P (dC, dI) vwCl (wd_X8 a ca u) H → va_D A (wd_X8 a ca u) → va_S A s.heap H locs → lv_has ls 3 [(0, .ref (a 0)), (1, .int x1), (2, .int x2)] → W p l e (headSpec wsX8_want rm_X8_want).room s m args below meth c H locs 0 0 Q (F0 m 72 ls [.int w_9, .int x1, .int 81, .ref (a 0)]))) h (fun w_9 h H locs ls hP hD hS hl => ?_) (fun JJ_8 ih_JJ_8 h => ?_)
        · refine lv_iload_n hx hb dX8_want_72 rfl (lv_at hl 2 rfl) ?_
          have hPc := hP
          have hDc := hD
          have hKc := hK
          have hFc := va_free (wc := (wd_X8 a ca u)) hD hS hA [0, 1, 2, 3, 4, 5, 6, 7, 8, 9, 10, 11, 12, 13, 14, 15, 16, 17, 18, 19] rfl
          refine va_callv (va_runV (As := [.int 81, .int x1, .int w_9, .int x2]) (rest := []) ⟨hx, hb, hml, hown, hts⟩ (c_X8_putIn l dC dI a ca H.size u 81 x1 w_9 x2 _ h) (cwV 4 hts gX8_want_X8_putIn rfl rfl rfl (by decide +kernel) ⟨Nat.le_of_ble_eq_true rfl, Nat.le_of_ble_eq_true rfl⟩) ⟨fun a U g mk q => by obtain ⟨q0, q1, qP, qK, qD⟩ := q; exact ⟨q0, q1, qP, va_K.moved (u := U) (U := U.calling g mk a) (Vm.Alike.refl U.vm) qK, qD⟩, va_recv hKc hPc (ci := 7) (q0 := 0) rfl rfl, fun U hU hW => ⟨rfl, by rw [hU], by rw [hU]; exact hPc, va_K.moved hW.alike hKc, hDc.weaken (fun _ _ _ _ => trivial)⟩⟩ rfl rfl hl.1 rfl (lv_room (Nat.le_of_ble_eq_true rfl)) dX8_want_73 ⟨Nat.zero_le _, Nat.zero_le _⟩) hS (fun q _ h => hFc q h) hFc (fun zz t H1 locs ht hvm hw hB hz1 hk1 hS => ?_)
          obtain ⟨u_10, rfl⟩ : ∃ z, z = zz := ⟨_, rfl⟩
          replace h := hw
          obtain ⟨hP1, hD1⟩ := hB
          rw [ht] at hP1
          replace hD : va_D A (wd_X8 a ca u_10) := hD1.weaken (fun _ _ _ h9 => hFc _ h9)
          replace hP : va_P (dC, dI) vwCl (wd_X8 a ca u_10) H1 := hP1
          generalize H1 = H at hP hS ⊢
          refine lv_aload_n hx hb dX8_want_76 rfl (lv_at hl 0 rfl) ?_
          refine va_get (D := (dC, dI)) (ci := 7) (v := .ref (a 15)) (C := RX8) (T := TX8) (N := 25) hx hb hts hin_X8 hown hK hP 0 rfl rfl 14 (by decide) lk_0 (fun _ h9 => h9) rfl dX8_want_77 ?_
          refine lv_sipush (v := 162) hx hb dX8_want_80 (by decide) ?_
          refine lv_iload_n hx hb dX8_want_83 rfl (lv_at hl 1 rfl) ?_
          refine lv_iadd hx hb dX8_want_84 ?_
          obtain ⟨hi_11, h⟩ := h
          refine va_iald (D := (dC, dI)) (cl := vwCl) (i := (162 + x1)) hx hb hK hP 10 9 rfl rfl hi_11 dX8_want_85 ?_
          subst hQ
          exact W.iret (v := (u_10.2.1 14 (162 + x1).toNatClampNeg)) hx hb hr (fun t ht hW => ⟨⟨_, u_10, rfl, h, by rw [ht]; exact hP, hD⟩, hS.F ht⟩) hS.2.2 dX8_want_86
        · refine lv_if_eq (tgt := 62) hx hb dX8_want_48 (by decide) (fun hc_12 => ?_) (fun hc_12 => ?_)
          · replace h := h.1 hc_12
            refine lv_aload_n hx hb dX8_want_62 rfl (lv_at hl 0 rfl) ?_
            refine va_get (D := (dC, dI)) (ci := 7) (v := .ref (a 15)) (C := RX8) (T := TX8) (N := 25) hx hb hts hin_X8 hown hK hP 0 rfl rfl 14 (by decide) lk_0 (fun _ h9 => h9) rfl dX8_want_63 ?_
            refine lv_sipush (v := 162) hx hb dX8_want_66 (by decide) ?_
            refine lv_iload_n hx hb dX8_want_69 rfl (lv_at hl 1 rfl) ?_
            refine lv_iadd hx hb dX8_want_70 ?_
            obtain ⟨hi_13, h⟩ := h
            refine va_iald (D := (dC, dI)) (cl := vwCl) (i := (162 + x1)) hx hb hK hP 10 9 rfl rfl hi_13 dX8_want_71 ?_
            exact ih_JJ_8 _ h _ _ _ hP hD hS (lv_sub hl [0, 1, 2] rfl)
          · replace h := h.2 hc_12
            refine lv_aload_n hx hb dX8_want_51 rfl (lv_at hl 0 rfl) ?_
            refine lv_bipush (v := 81) hx hb dX8_want_52 (by decide) ?_
            refine lv_iload_n hx hb dX8_want_54 rfl (lv_at hl 1 rfl) ?_
            refine lv_iload_n hx hb dX8_want_55 rfl (lv_at hl 2 rfl) ?_
            have hPc := hP
            have hDc := hD
            have hKc := hK
            have hFc := va_free (wc := (wd_X8 a ca u)) hD hS hA [0, 1, 2, 3, 4, 5, 6, 7, 8, 9, 10, 11, 12, 13, 14, 15, 16, 17, 18, 19] rfl
            refine va_calli (va_runV (As := [.int 81, .int x1, .int x2]) (rest := [.int x1, .int 81, .ref (a 0)]) ⟨hx, hb, hml, hown, hts⟩ (c_X8_inOrder l dC dI a ca H.size u 81 x1 x2 _ h) (cwV 3 hts gX8_want_X8_inOrder rfl rfl rfl (by decide +kernel) ⟨Nat.le_of_ble_eq_true rfl, Nat.le_of_ble_eq_true rfl⟩) ⟨fun a U g mk q => by obtain ⟨q0, q1, qP, qK, qD⟩ := q; exact ⟨q0, q1, qP, va_K.moved (u := U) (U := U.calling g mk a) (Vm.Alike.refl U.vm) qK, qD⟩, va_recv hKc hPc (ci := 7) (q0 := 0) rfl rfl, fun U hU hW => ⟨rfl, by rw [hU], by rw [hU]; exact hPc, va_K.moved hW.alike hKc, hDc.weaken (fun _ _ _ _ => trivial)⟩⟩ rfl rfl hl.1 rfl (lv_room (Nat.le_of_ble_eq_true rfl)) dX8_want_56 ⟨Nat.zero_le _, Nat.zero_le _⟩) hS (fun q _ h => hFc q h) hFc (fun r_14 zz t H1 locs ht hvm hw hB hz1 hk1 hS => ?_)
            replace h := hw
            obtain ⟨hP1, hD1⟩ := hB
            rw [ht] at hP1
            replace hD : va_D A (wd_X8 a ca u) := hD1.weaken (fun _ _ _ h9 => hFc _ h9)
            replace hP : va_P (dC, dI) vwCl (wd_X8 a ca u) H1 := hP1
            generalize H1 = H at hP hS ⊢
            refine lv_goto (tgt := 72) hx hb dX8_want_59 (by decide) ?_
            exact ih_JJ_8 _ h _ _ _ hP hD hS (lv_sub hl [0, 1, 2] rfl)
      · replace h := h.2 hc_6
        refine lv_bipush (v := (-3)) hx hb dX8_want_35 (by decide) ?_
        subst hQ
        exact W.iret (v := (-3)) hx hb hr (fun t ht hW => ⟨⟨_, u, rfl, h, by rw [ht]; exact hP, hD⟩, hS.F ht⟩) hS.2.2 dX8_want_37
    · replace h := h.2 hc_4
      refine lv_iconst (v := (-1)) hx hb dX8_want_18 (by decide) ?_
      subst hQ
      exact W.iret (v := (-1)) hx hb hr (fun t ht hW => ⟨⟨_, u, rfl, h, by rw [ht]; exact hP, hD⟩, hS.F ht⟩) hS.2.2 dX8_want_19
