abbrev rm_X7_isAmong : Room := { frames := 0, cells := 0, slots := 0, locals := 0 }
set_option maxHeartbeats 4000000 in
set_option maxRecDepth 100000 in
theorem c_X7_isAmong (l : Launch) (sz : Nat) (x1 : Int32) (x2 : Int32) (post : Int32 → Prop) (h : wp_X7_isAmong x1 x2 post) : Met l yX7_isAmong wsX7_isAmong rm_X7_isAmong (va_Pc [.int x1, .int x2] (fun U => U.heap.size = sz)) (va_Qi (fun (rr : Int32) (_ : Unit) => post rr) (fun (_ : Unit) (_ : State) => True) (va_A [] sz)) 0 0 (va_A [] sz) := by
  refine fl_ofW (cc := cX7_isAmong) (maxL := 2) (ret := (some .boolean)) (by decide) rfl ?_
  intro p e s m args below meth c s₁ Q B hml hv hQ
  obtain ⟨hargs, hsz⟩ := hv
  have hx := B.exec
  have hb := B.bytes
  have hr := B.returns
  have hts := atoms_spec (ws := wsX7_isAmong) B.pre
  have hown : s.vm.findClass RX7 = some m.cls := findClass_of_methodNamed B.named
  subst hsz
  generalize hAe : va_A [] s.heap.size = A at hQ
  have hA : ∀ q : Nat, s.heap.size ≤ q → A q := fun q h => by rw [← hAe]; exact Or.inr h
  have hS : va_S A s.heap s.heap [] := va_S.rf
  have hl := lv_entry ([.int x1, .int x2]) (n := 2) (Nat.le_of_ble_eq_true rfl)
  refine W.eq (g2 := F0 m 0 ((lg_sl ([.int x1, .int x2]) ++ List.replicate (2 - (lg_sl ([.int x1, .int x2])).length) Slot.unset).toArray) []) (by rw [hargs]; exact lg_entry_eq m _ 2) ?_
  generalize (lg_sl ([.int x1, .int x2]) ++ List.replicate (2 - (lg_sl ([.int x1, .int x2])).length) Slot.unset).toArray = ls at hl ⊢
  have hl : lv_has ls 2 [(0, .int x1), (1, .int x2)] := hl
  suffices hstart : ∀ (H : Heap) (locs : List Loc) (ls : Array Slot), va_S A s.heap H locs → lv_has ls 2 [(0, .int x1), (1, .int x2)] → W p l e (headSpec wsX7_isAmong rm_X7_isAmong).room s m args below meth c H locs 0 0 Q (F0 m 0 ls []) from hstart _ _ _ hS hl
  clear hS
  intro H locs ls hS hl
  unfold wp_X7_isAmong at h
  refine lv_iload_n hx hb dX7_isAmong_0 rfl (lv_at hl 0 rfl) ?_
  refine lv_if_lt (tgt := 13) hx hb dX7_isAmong_1 (by decide) (fun hc_1 => ?_) (fun hc_1 => ?_)
  · replace h := h.1 hc_1
    refine lv_iconst (v := 0) hx hb dX7_isAmong_13 (by decide) ?_
    subst hQ
    exact W.zret (v := 0) hx hb hr (by rfl) (fun t ht hW => ⟨⟨_, (), rfl, h, trivial⟩, hS.F ht⟩) hS.2.2 dX7_isAmong_14
  · replace h := h.2 hc_1
    refine lv_iload_n hx hb dX7_isAmong_4 rfl (lv_at hl 0 rfl) ?_
    refine lv_iload_n hx hb dX7_isAmong_5 rfl (lv_at hl 1 rfl) ?_
    refine lv_icmp_ge (tgt := 13) hx hb dX7_isAmong_6 (by decide) (fun hc_2 => ?_) (fun hc_2 => ?_)
    · replace h := h.1 hc_2
      refine lv_iconst (v := 0) hx hb dX7_isAmong_13 (by decide) ?_
      subst hQ
      exact W.zret (v := 0) hx hb hr (by rfl) (fun t ht hW => ⟨⟨_, (), rfl, h, trivial⟩, hS.F ht⟩) hS.2.2 dX7_isAmong_14
    · replace h := h.2 hc_2
      refine lv_iconst (v := 1) hx hb dX7_isAmong_9 (by decide) ?_
      refine lv_goto (tgt := 14) hx hb dX7_isAmong_10 (by decide) ?_
      subst hQ
      exact W.zret (v := 1) hx hb hr (by rfl) (fun t ht hW => ⟨⟨_, (), rfl, h, trivial⟩, hS.F ht⟩) hS.2.2 dX7_isAmong_14
abbrev rm_X6_placeInOrder : Room := { frames := 0, cells := 0, slots := 0, locals := 0 }
set_option maxHeartbeats 4000000 in
set_option maxRecDepth 100000 in
theorem c_X6_placeInOrder (l : Launch) (sz : Nat) (x1 : Int32) (x2 : Int32) (post : Int32 → Prop) (h : wp_X6_placeInOrder x1 x2 post) : Met l yX6_placeInOrder wsX6_placeInOrder rm_X6_placeInOrder (va_Pc [.int x1, .int x2] (fun U => U.heap.size = sz)) (va_Qi (fun (rr : Int32) (_ : Unit) => post rr) (fun (_ : Unit) (_ : State) => True) (va_A [] sz)) 0 0 (va_A [] sz) := by
  refine fl_ofW (cc := cX6_placeInOrder) (maxL := 4) (ret := (some .int)) (by decide) rfl ?_
  intro p e s m args below meth c s₁ Q B hml hv hQ
  obtain ⟨hargs, hsz⟩ := hv
  have hx := B.exec
  have hb := B.bytes
  have hr := B.returns
  have hts := atoms_spec (ws := wsX6_placeInOrder) B.pre
  have hown : s.vm.findClass RX6 = some m.cls := findClass_of_methodNamed B.named
  subst hsz
  generalize hAe : va_A [] s.heap.size = A at hQ
  have hA : ∀ q : Nat, s.heap.size ≤ q → A q := fun q h => by rw [← hAe]; exact Or.inr h
  have hS : va_S A s.heap s.heap [] := va_S.rf
  have hl := lv_entry ([.int x1, .int x2]) (n := 4) (Nat.le_of_ble_eq_true rfl)
  refine W.eq (g2 := F0 m 0 ((lg_sl ([.int x1, .int x2]) ++ List.replicate (4 - (lg_sl ([.int x1, .int x2])).length) Slot.unset).toArray) []) (by rw [hargs]; exact lg_entry_eq m _ 4) ?_
  generalize (lg_sl ([.int x1, .int x2]) ++ List.replicate (4 - (lg_sl ([.int x1, .int x2])).length) Slot.unset).toArray = ls at hl ⊢
  have hl : lv_has ls 4 [(0, .int x1), (1, .int x2)] := hl
  suffices hstart : ∀ (H : Heap) (locs : List Loc) (ls : Array Slot), va_S A s.heap H locs → lv_has ls 4 [(0, .int x1), (1, .int x2)] → W p l e (headSpec wsX6_placeInOrder rm_X6_placeInOrder).room s m args below meth c H locs 0 0 Q (F0 m 0 ls []) from hstart _ _ _ hS hl
  clear hS
  intro H locs ls hS hl
  unfold wp_X6_placeInOrder at h
  refine lv_iload_n hx hb dX6_placeInOrder_0 rfl (lv_at hl 0 rfl) ?_
  refine lv_istore_n (lv' := [(2, .int x1), (0, .int x1), (1, .int x2)]) hx hb dX6_placeInOrder_1 rfl hl (by decide) rfl (fun ls hl => ?_)
  refine lv_iconst (v := 0) hx hb dX6_placeInOrder_2 (by decide) ?_
  refine lv_istore_n (lv' := [(3, .int 0), (2, .int x1), (0, .int x1), (1, .int x2)]) hx hb dX6_placeInOrder_3 rfl hl (by decide) rfl (fun ls hl => ?_)
  obtain ⟨n_7, h⟩ := h
  refine lq2_ind (GG := (fun (v3_2 : Int32) (v2_3 : Int32) => ∀ (H : Heap) (locs : List Loc) (ls : Array Slot), va_S A s.heap H locs → lv_has ls 4 [(3, .int v3_2), (2, .int v2_3), (1, .int x2)] → W p l e (headSpec wsX6_placeInOrder rm_X6_placeInOrder).room s m args below meth c H locs 0 0 Q (F0 m 4 ls []))) (fun LL_1 ih_LL_1 v3_2 v2_3 h H locs ls hS hl => ?_) n_7 _ _ h _ _ _ hS (lv_sub hl [0, 1, 3] rfl)
  refine lv_iload_n hx hb dX6_placeInOrder_4 rfl (lv_at hl 0 rfl) ?_
  refine lv_bipush (v := 15) hx hb dX6_placeInOrder_5 (by decide) ?_
  refine lv_icmp_ge (tgt := 33) hx hb dX6_placeInOrder_7 (by decide) (fun hc_4 => ?_) (fun hc_4 => ?_)
  · replace h := h.1 hc_4
    refine lv_iload_n hx hb dX6_placeInOrder_33 rfl (lv_at hl 0 rfl) ?_
    subst hQ
    exact W.iret (v := v3_2) hx hb hr (fun t ht hW => ⟨⟨_, (), rfl, h, trivial⟩, hS.F ht⟩) hS.2.2 dX6_placeInOrder_34
  · replace h := h.2 hc_4
    refine lv_iload_n hx hb dX6_placeInOrder_10 rfl (lv_at hl 1 rfl) ?_
    refine lv_if_eq (tgt := 33) hx hb dX6_placeInOrder_11 (by decide) (fun hc_5 => ?_) (fun hc_5 => ?_)
    · replace h := h.1 hc_5
      refine lv_iload_n hx hb dX6_placeInOrder_33 rfl (lv_at hl 0 rfl) ?_
      subst hQ
      exact W.iret (v := v3_2) hx hb hr (fun t ht hW => ⟨⟨_, (), rfl, h, trivial⟩, hS.F ht⟩) hS.2.2 dX6_placeInOrder_34
    · replace h := h.2 hc_5
      refine lv_iload_n hx hb dX6_placeInOrder_14 rfl (lv_at hl 1 rfl) ?_
      refine lv_iconst (v := 3) hx hb dX6_placeInOrder_15 (by decide) ?_
      refine lv_iand hx hb dX6_placeInOrder_16 ?_
      refine lv_iload_n hx hb dX6_placeInOrder_17 rfl (lv_at hl 2 rfl) ?_
      refine lv_iconst (v := 1) hx hb dX6_placeInOrder_18 (by decide) ?_
      refine lv_iadd hx hb dX6_placeInOrder_19 ?_
      refine lv_icmp_gt (tgt := 33) hx hb dX6_placeInOrder_20 (by decide) (fun hc_6 => ?_) (fun hc_6 => ?_)
      · replace h := h.1 hc_6
        refine lv_iload_n hx hb dX6_placeInOrder_33 rfl (lv_at hl 0 rfl) ?_
        subst hQ
        exact W.iret (v := v3_2) hx hb hr (fun t ht hW => ⟨⟨_, (), rfl, h, trivial⟩, hS.F ht⟩) hS.2.2 dX6_placeInOrder_34
      · replace h := h.2 hc_6
        refine lv_iload_n hx hb dX6_placeInOrder_23 rfl (lv_at hl 1 rfl) ?_
        refine lv_iconst (v := 2) hx hb dX6_placeInOrder_24 (by decide) ?_
        refine lv_iushr (v := (j_ushr v2_3 2)) hx hb dX6_placeInOrder_25 rfl ?_
        refine lv_istore_n (lv' := [(2, .int (j_ushr v2_3 2)), (3, .int v3_2), (1, .int x2)]) hx hb dX6_placeInOrder_26 rfl hl (by decide) rfl (fun ls hl => ?_)
        refine lv_iinc (v := (v3_2 + 1)) (lv' := [(3, .int (v3_2 + 1)), (2, .int (j_ushr v2_3 2)), (1, .int x2)]) hx hb dX6_placeInOrder_27 hl (k := 1) rfl rfl (by decide) rfl (fun ls hl => ?_)
        refine lv_goto (tgt := 4) hx hb dX6_placeInOrder_30 (by decide) ?_
        exact ih_LL_1 _ _ h _ _ _ hS (lv_sub hl [0, 1, 2] rfl)
abbrev rm_X6_size : Room := { frames := 0, cells := 0, slots := 0, locals := 0 }
set_option maxHeartbeats 4000000 in
set_option maxRecDepth 100000 in
theorem c_X6_size (l : Launch) (sz : Nat) (x1 : Int32) (post : Int32 → Prop) (h : wp_X6_size x1 post) : Met l yX6_size wsX6_size rm_X6_size (va_Pc [.int x1] (fun U => U.heap.size = sz)) (va_Qi (fun (rr : Int32) (_ : Unit) => post rr) (fun (_ : Unit) (_ : State) => True) (va_A [] sz)) 0 0 (va_A [] sz) := by
  refine fl_ofW (cc := cX6_size) (maxL := 2) (ret := (some .int)) (by decide) rfl ?_
  intro p e s m args below meth c s₁ Q B hml hv hQ
  obtain ⟨hargs, hsz⟩ := hv
  have hx := B.exec
  have hb := B.bytes
  have hr := B.returns
  have hts := atoms_spec (ws := wsX6_size) B.pre
  have hown : s.vm.findClass RX6 = some m.cls := findClass_of_methodNamed B.named
  subst hsz
  generalize hAe : va_A [] s.heap.size = A at hQ
  have hA : ∀ q : Nat, s.heap.size ≤ q → A q := fun q h => by rw [← hAe]; exact Or.inr h
  have hS : va_S A s.heap s.heap [] := va_S.rf
  have hl := lv_entry ([.int x1]) (n := 2) (Nat.le_of_ble_eq_true rfl)
  refine W.eq (g2 := F0 m 0 ((lg_sl ([.int x1]) ++ List.replicate (2 - (lg_sl ([.int x1])).length) Slot.unset).toArray) []) (by rw [hargs]; exact lg_entry_eq m _ 2) ?_
  generalize (lg_sl ([.int x1]) ++ List.replicate (2 - (lg_sl ([.int x1])).length) Slot.unset).toArray = ls at hl ⊢
  have hl : lv_has ls 2 [(0, .int x1)] := hl
  suffices hstart : ∀ (H : Heap) (locs : List Loc) (ls : Array Slot), va_S A s.heap H locs → lv_has ls 2 [(0, .int x1)] → W p l e (headSpec wsX6_size rm_X6_size).room s m args below meth c H locs 0 0 Q (F0 m 0 ls []) from hstart _ _ _ hS hl
  clear hS
  intro H locs ls hS hl
  unfold wp_X6_size at h
  refine lv_iconst (v := 0) hx hb dX6_size_0 (by decide) ?_
  refine lv_istore_n (lv' := [(1, .int 0), (0, .int x1)]) hx hb dX6_size_1 rfl hl (by decide) rfl (fun ls hl => ?_)
  obtain ⟨n_5, h⟩ := h
  refine lq1_ind (GG := (fun (v1_2 : Int32) => ∀ (H : Heap) (locs : List Loc) (ls : Array Slot), va_S A s.heap H locs → lv_has ls 2 [(1, .int v1_2), (0, .int x1)] → W p l e (headSpec wsX6_size rm_X6_size).room s m args below meth c H locs 0 0 Q (F0 m 2 ls []))) (fun LL_1 ih_LL_1 v1_2 h H locs ls hS hl => ?_) n_5 _ h _ _ _ hS (lv_sub hl [0, 1] rfl)
  refine lv_iload_n hx hb dX6_size_2 rfl (lv_at hl 0 rfl) ?_
  refine lv_bipush (v := 15) hx hb dX6_size_3 (by decide) ?_
  refine lv_icmp_ge (tgt := 22) hx hb dX6_size_5 (by decide) (fun hc_3 => ?_) (fun hc_3 => ?_)
  · replace h := h.1 hc_3
    refine lv_iload_n hx hb dX6_size_22 rfl (lv_at hl 0 rfl) ?_
    subst hQ
    exact W.iret (v := v1_2) hx hb hr (fun t ht hW => ⟨⟨_, (), rfl, h, trivial⟩, hS.F ht⟩) hS.2.2 dX6_size_23
  · replace h := h.2 hc_3
    refine lv_iload_n hx hb dX6_size_8 rfl (lv_at hl 1 rfl) ?_
    refine lv_iconst (v := 2) hx hb dX6_size_9 (by decide) ?_
    refine lv_iload_n hx hb dX6_size_10 rfl (lv_at hl 0 rfl) ?_
    refine lv_imul hx hb dX6_size_11 ?_
    refine lv_iushr (v := (j_ushr x1 (2 * v1_2))) hx hb dX6_size_12 rfl ?_
    refine lv_if_eq (tgt := 22) hx hb dX6_size_13 (by decide) (fun hc_4 => ?_) (fun hc_4 => ?_)
    · replace h := h.1 hc_4
      refine lv_iload_n hx hb dX6_size_22 rfl (lv_at hl 0 rfl) ?_
      subst hQ
      exact W.iret (v := v1_2) hx hb hr (fun t ht hW => ⟨⟨_, (), rfl, h, trivial⟩, hS.F ht⟩) hS.2.2 dX6_size_23
    · replace h := h.2 hc_4
      refine lv_iinc (v := (v1_2 + 1)) (lv' := [(1, .int (v1_2 + 1)), (0, .int x1)]) hx hb dX6_size_16 hl (k := 0) rfl rfl (by decide) rfl (fun ls hl => ?_)
      refine lv_goto (tgt := 2) hx hb dX6_size_19 (by decide) ?_
      exact ih_LL_1 _ h _ _ _ hS (lv_sub hl [0, 1] rfl)
abbrev rm_X6_with : Room := { frames := 0, cells := 0, slots := 0, locals := 0 }
set_option maxHeartbeats 4000000 in
set_option maxRecDepth 100000 in
theorem c_X6_with (l : Launch) (sz : Nat) (x1 : Int32) (x2 : Int32) (x3 : Int32) (post : Int32 → Prop) (h : wp_X6_with x1 x2 x3 post) : Met l yX6_with wsX6_with rm_X6_with (va_Pc [.int x1, .int x2, .int x3] (fun U => U.heap.size = sz)) (va_Qi (fun (rr : Int32) (_ : Unit) => post rr) (fun (_ : Unit) (_ : State) => True) (va_A [] sz)) 0 0 (va_A [] sz) := by
  refine fl_ofW (cc := cX6_with) (maxL := 5) (ret := (some .int)) (by decide) rfl ?_
  intro p e s m args below meth c s₁ Q B hml hv hQ
  obtain ⟨hargs, hsz⟩ := hv
  have hx := B.exec
  have hb := B.bytes
  have hr := B.returns
  have hts := atoms_spec (ws := wsX6_with) B.pre
  have hown : s.vm.findClass RX6 = some m.cls := findClass_of_methodNamed B.named
  subst hsz
  generalize hAe : va_A [] s.heap.size = A at hQ
  have hA : ∀ q : Nat, s.heap.size ≤ q → A q := fun q h => by rw [← hAe]; exact Or.inr h
  have hS : va_S A s.heap s.heap [] := va_S.rf
  have hl := lv_entry ([.int x1, .int x2, .int x3]) (n := 5) (Nat.le_of_ble_eq_true rfl)
  refine W.eq (g2 := F0 m 0 ((lg_sl ([.int x1, .int x2, .int x3]) ++ List.replicate (5 - (lg_sl ([.int x1, .int x2, .int x3])).length) Slot.unset).toArray) []) (by rw [hargs]; exact lg_entry_eq m _ 5) ?_
  generalize (lg_sl ([.int x1, .int x2, .int x3]) ++ List.replicate (5 - (lg_sl ([.int x1, .int x2, .int x3])).length) Slot.unset).toArray = ls at hl ⊢
  have hl : lv_has ls 5 [(0, .int x1), (1, .int x2), (2, .int x3)] := hl
  suffices hstart : ∀ (H : Heap) (locs : List Loc) (ls : Array Slot), va_S A s.heap H locs → lv_has ls 5 [(0, .int x1), (1, .int x2), (2, .int x3)] → W p l e (headSpec wsX6_with rm_X6_with).room s m args below meth c H locs 0 0 Q (F0 m 0 ls []) from hstart _ _ _ hS hl
  clear hS
  intro H locs ls hS hl
  unfold wp_X6_with at h
  refine lv_iload_n hx hb dX6_with_0 rfl (lv_at hl 0 rfl) ?_
  refine lv_iconst (v := 1) hx hb dX6_with_1 (by decide) ?_
  refine lv_iconst (v := 2) hx hb dX6_with_2 (by decide) ?_
  refine lv_iload_n hx hb dX6_with_3 rfl (lv_at hl 1 rfl) ?_
  refine lv_imul hx hb dX6_with_4 ?_
  refine lv_ishl hx hb dX6_with_5 ?_
  refine lv_iconst (v := 1) hx hb dX6_with_6 (by decide) ?_
  refine lv_isub hx hb dX6_with_7 ?_
  refine lv_iand hx hb dX6_with_8 ?_
  refine lv_istore_n (lv' := [(3, .int (x1 &&& (((1 : Int32) <<< ((2 * x2) &&& 31)) - 1))), (0, .int x1), (1, .int x2), (2, .int x3)]) hx hb dX6_with_9 rfl hl (by decide) rfl (fun ls hl => ?_)
  refine lv_iload_n hx hb dX6_with_10 rfl (lv_at hl 1 rfl) ?_
  refine lv_iconst (v := 2) hx hb dX6_with_11 (by decide) ?_
  refine lv_iload_n hx hb dX6_with_12 rfl (lv_at hl 2 rfl) ?_
  refine lv_imul hx hb dX6_with_13 ?_
  refine lv_iushr (v := (j_ushr x1 (2 * x2))) hx hb dX6_with_14 rfl ?_
  refine lv_istore (lv' := [(4, .int (j_ushr x1 (2 * x2))), (3, .int (x1 &&& (((1 : Int32) <<< ((2 * x2) &&& 31)) - 1))), (0, .int x1), (1, .int x2), (2, .int x3)]) hx hb dX6_with_15 hl (by decide) rfl (fun ls hl => ?_)
  refine lv_iload_n hx hb dX6_with_17 rfl (lv_at hl 1 rfl) ?_
  refine lv_iload hx hb dX6_with_18 (lv_at hl 0 rfl) ?_
  refine lv_iconst (v := 2) hx hb dX6_with_20 (by decide) ?_
  refine lv_ishl hx hb dX6_with_21 ?_
  refine lv_iload_n hx hb dX6_with_22 rfl (lv_at hl 4 rfl) ?_
  refine lv_iconst (v := 1) hx hb dX6_with_23 (by decide) ?_
  refine lv_iadd hx hb dX6_with_24 ?_
  refine lv_ior hx hb dX6_with_25 ?_
  refine lv_iconst (v := 2) hx hb dX6_with_26 (by decide) ?_
  refine lv_iload_n hx hb dX6_with_27 rfl (lv_at hl 3 rfl) ?_
  refine lv_imul hx hb dX6_with_28 ?_
  refine lv_ishl hx hb dX6_with_29 ?_
  refine lv_ior hx hb dX6_with_30 ?_
  subst hQ
  exact W.iret (v := ((x1 &&& (((1 : Int32) <<< ((2 * x2) &&& 31)) - 1)) ||| ((((j_ushr x1 (2 * x2)) <<< ((2 : Int32) &&& 31)) ||| (x3 + 1)) <<< ((2 * x2) &&& 31)))) hx hb hr (fun t ht hW => ⟨⟨_, (), rfl, h, trivial⟩, hS.F ht⟩) hS.2.2 dX6_with_31
abbrev rm_X6_find : Room := { frames := 0, cells := 0, slots := 0, locals := 0 }
set_option maxHeartbeats 4000000 in
set_option maxRecDepth 100000 in
theorem c_X6_find (l : Launch) (sz : Nat) (x1 : Int32) (x2 : Int32) (post : Int32 → Prop) (h : wp_X6_find x1 x2 post) : Met l yX6_find wsX6_find rm_X6_find (va_Pc [.int x1, .int x2] (fun U => U.heap.size = sz)) (va_Qi (fun (rr : Int32) (_ : Unit) => post rr) (fun (_ : Unit) (_ : State) => True) (va_A [] sz)) 0 0 (va_A [] sz) := by
  refine fl_ofW (cc := cX6_find) (maxL := 3) (ret := (some .int)) (by decide) rfl ?_
  intro p e s m args below meth c s₁ Q B hml hv hQ
  obtain ⟨hargs, hsz⟩ := hv
  have hx := B.exec
  have hb := B.bytes
  have hr := B.returns
  have hts := atoms_spec (ws := wsX6_find) B.pre
  have hown : s.vm.findClass RX6 = some m.cls := findClass_of_methodNamed B.named
  subst hsz
  generalize hAe : va_A [] s.heap.size = A at hQ
  have hA : ∀ q : Nat, s.heap.size ≤ q → A q := fun q h => by rw [← hAe]; exact Or.inr h
  have hS : va_S A s.heap s.heap [] := va_S.rf
  have hl := lv_entry ([.int x1, .int x2]) (n := 3) (Nat.le_of_ble_eq_true rfl)
  refine W.eq (g2 := F0 m 0 ((lg_sl ([.int x1, .int x2]) ++ List.replicate (3 - (lg_sl ([.int x1, .int x2])).length) Slot.unset).toArray) []) (by rw [hargs]; exact lg_entry_eq m _ 3) ?_
  generalize (lg_sl ([.int x1, .int x2]) ++ List.replicate (3 - (lg_sl ([.int x1, .int x2])).length) Slot.unset).toArray = ls at hl ⊢
  have hl : lv_has ls 3 [(0, .int x1), (1, .int x2)] := hl
  suffices hstart : ∀ (H : Heap) (locs : List Loc) (ls : Array Slot), va_S A s.heap H locs → lv_has ls 3 [(0, .int x1), (1, .int x2)] → W p l e (headSpec wsX6_find rm_X6_find).room s m args below meth c H locs 0 0 Q (F0 m 0 ls []) from hstart _ _ _ hS hl
  clear hS
  intro H locs ls hS hl
  unfold wp_X6_find at h
  refine lv_iconst (v := 0) hx hb dX6_find_0 (by decide) ?_
  refine lv_istore_n (lv' := [(2, .int 0), (0, .int x1), (1, .int x2)]) hx hb dX6_find_1 rfl hl (by decide) rfl (fun ls hl => ?_)
  obtain ⟨n_5, h⟩ := h
  refine lq1_ind (GG := (fun (v2_2 : Int32) => ∀ (H : Heap) (locs : List Loc) (ls : Array Slot), va_S A s.heap H locs → lv_has ls 3 [(2, .int v2_2), (0, .int x1), (1, .int x2)] → W p l e (headSpec wsX6_find rm_X6_find).room s m args below meth c H locs 0 0 Q (F0 m 2 ls []))) (fun LL_1 ih_LL_1 v2_2 h H locs ls hS hl => ?_) n_5 _ h _ _ _ hS (lv_sub hl [0, 1, 2] rfl)
  refine lv_iload_n hx hb dX6_find_2 rfl (lv_at hl 0 rfl) ?_
  refine lv_bipush (v := 15) hx hb dX6_find_3 (by decide) ?_
  refine lv_icmp_ge (tgt := 29) hx hb dX6_find_5 (by decide) (fun hc_3 => ?_) (fun hc_3 => ?_)
  · replace h := h.1 hc_3
    refine lv_iconst (v := (-1)) hx hb dX6_find_29 (by decide) ?_
    subst hQ
    exact W.iret (v := (-1)) hx hb hr (fun t ht hW => ⟨⟨_, (), rfl, h, trivial⟩, hS.F ht⟩) hS.2.2 dX6_find_30
  · replace h := h.2 hc_3
    refine lv_iload_n hx hb dX6_find_8 rfl (lv_at hl 1 rfl) ?_
    refine lv_iconst (v := 2) hx hb dX6_find_9 (by decide) ?_
    refine lv_iload_n hx hb dX6_find_10 rfl (lv_at hl 0 rfl) ?_
    refine lv_imul hx hb dX6_find_11 ?_
    refine lv_iushr (v := (j_ushr x1 (2 * v2_2))) hx hb dX6_find_12 rfl ?_
    refine lv_iconst (v := 3) hx hb dX6_find_13 (by decide) ?_
    refine lv_iand hx hb dX6_find_14 ?_
    refine lv_iload_n hx hb dX6_find_15 rfl (lv_at hl 2 rfl) ?_
    refine lv_iconst (v := 1) hx hb dX6_find_16 (by decide) ?_
    refine lv_iadd hx hb dX6_find_17 ?_
    refine lv_icmp_ne (tgt := 23) hx hb dX6_find_18 (by decide) (fun hc_4 => ?_) (fun hc_4 => ?_)
    · replace h := h.1 hc_4
      refine lv_iinc (v := (v2_2 + 1)) (lv' := [(2, .int (v2_2 + 1)), (0, .int x1), (1, .int x2)]) hx hb dX6_find_23 hl (k := 0) rfl rfl (by decide) rfl (fun ls hl => ?_)
      refine lv_goto (tgt := 2) hx hb dX6_find_26 (by decide) ?_
      exact ih_LL_1 _ h _ _ _ hS (lv_sub hl [0, 1, 2] rfl)
    · replace h := h.2 hc_4
      refine lv_iload_n hx hb dX6_find_21 rfl (lv_at hl 0 rfl) ?_
      subst hQ
      exact W.iret (v := v2_2) hx hb hr (fun t ht hW => ⟨⟨_, (), rfl, h, trivial⟩, hS.F ht⟩) hS.2.2 dX6_find_22
abbrev rm_X6_without : Room := { frames := 0, cells := 0, slots := 0, locals := 0 }
set_option maxHeartbeats 4000000 in
set_option maxRecDepth 100000 in
theorem c_X6_without (l : Launch) (sz : Nat) (x1 : Int32) (x2 : Int32) (post : Int32 → Prop) (h : wp_X6_without x1 x2 post) : Met l yX6_without wsX6_without rm_X6_without (va_Pc [.int x1, .int x2] (fun U => U.heap.size = sz)) (va_Qi (fun (rr : Int32) (_ : Unit) => post rr) (fun (_ : Unit) (_ : State) => True) (va_A [] sz)) 0 0 (va_A [] sz) := by
  refine fl_ofW (cc := cX6_without) (maxL := 4) (ret := (some .int)) (by decide) rfl ?_
  intro p e s m args below meth c s₁ Q B hml hv hQ
  obtain ⟨hargs, hsz⟩ := hv
  have hx := B.exec
  have hb := B.bytes
  have hr := B.returns
  have hts := atoms_spec (ws := wsX6_without) B.pre
  have hown : s.vm.findClass RX6 = some m.cls := findClass_of_methodNamed B.named
  subst hsz
  generalize hAe : va_A [] s.heap.size = A at hQ
  have hA : ∀ q : Nat, s.heap.size ≤ q → A q := fun q h => by rw [← hAe]; exact Or.inr h
  have hS : va_S A s.heap s.heap [] := va_S.rf
  have hl := lv_entry ([.int x1, .int x2]) (n := 4) (Nat.le_of_ble_eq_true rfl)
  refine W.eq (g2 := F0 m 0 ((lg_sl ([.int x1, .int x2]) ++ List.replicate (4 - (lg_sl ([.int x1, .int x2])).length) Slot.unset).toArray) []) (by rw [hargs]; exact lg_entry_eq m _ 4) ?_
  generalize (lg_sl ([.int x1, .int x2]) ++ List.replicate (4 - (lg_sl ([.int x1, .int x2])).length) Slot.unset).toArray = ls at hl ⊢
  have hl : lv_has ls 4 [(0, .int x1), (1, .int x2)] := hl
  suffices hstart : ∀ (H : Heap) (locs : List Loc) (ls : Array Slot), va_S A s.heap H locs → lv_has ls 4 [(0, .int x1), (1, .int x2)] → W p l e (headSpec wsX6_without rm_X6_without).room s m args below meth c H locs 0 0 Q (F0 m 0 ls []) from hstart _ _ _ hS hl
  clear hS
  intro H locs ls hS hl
  unfold wp_X6_without at h
  refine lv_iload_n hx hb dX6_without_0 rfl (lv_at hl 0 rfl) ?_
  refine lv_iconst (v := 1) hx hb dX6_without_1 (by decide) ?_
  refine lv_iconst (v := 2) hx hb dX6_without_2 (by decide) ?_
  refine lv_iload_n hx hb dX6_without_3 rfl (lv_at hl 1 rfl) ?_
  refine lv_imul hx hb dX6_without_4 ?_
  refine lv_ishl hx hb dX6_without_5 ?_
  refine lv_iconst (v := 1) hx hb dX6_without_6 (by decide) ?_
  refine lv_isub hx hb dX6_without_7 ?_
  refine lv_iand hx hb dX6_without_8 ?_
  refine lv_istore_n (lv' := [(2, .int (x1 &&& (((1 : Int32) <<< ((2 * x2) &&& 31)) - 1))), (0, .int x1), (1, .int x2)]) hx hb dX6_without_9 rfl hl (by decide) rfl (fun ls hl => ?_)
  refine lv_iload_n hx hb dX6_without_10 rfl (lv_at hl 1 rfl) ?_
  refine lv_iconst (v := 2) hx hb dX6_without_11 (by decide) ?_
  refine lv_iload_n hx hb dX6_without_12 rfl (lv_at hl 2 rfl) ?_
  refine lv_imul hx hb dX6_without_13 ?_
  refine lv_iconst (v := 2) hx hb dX6_without_14 (by decide) ?_
  refine lv_iadd hx hb dX6_without_15 ?_
  refine lv_iushr (v := (j_ushr x1 ((2 * x2) + 2))) hx hb dX6_without_16 rfl ?_
  refine lv_istore_n (lv' := [(3, .int (j_ushr x1 ((2 * x2) + 2))), (2, .int (x1 &&& (((1 : Int32) <<< ((2 * x2) &&& 31)) - 1))), (0, .int x1), (1, .int x2)]) hx hb dX6_without_17 rfl hl (by decide) rfl (fun ls hl => ?_)
  refine lv_iload_n hx hb dX6_without_18 rfl (lv_at hl 1 rfl) ?_
  refine lv_iload_n hx hb dX6_without_19 rfl (lv_at hl 0 rfl) ?_
  refine lv_iconst (v := 2) hx hb dX6_without_20 (by decide) ?_
  refine lv_iload_n hx hb dX6_without_21 rfl (lv_at hl 3 rfl) ?_
  refine lv_imul hx hb dX6_without_22 ?_
  refine lv_ishl hx hb dX6_without_23 ?_
  refine lv_ior hx hb dX6_without_24 ?_
  subst hQ
  exact W.iret (v := ((x1 &&& (((1 : Int32) <<< ((2 * x2) &&& 31)) - 1)) ||| ((j_ushr x1 ((2 * x2) + 2)) <<< ((2 * x2) &&& 31)))) hx hb hr (fun t ht hW => ⟨⟨_, (), rfl, h, trivial⟩, hS.F ht⟩) hS.2.2 dX6_without_25
abbrev rm_X6_at : Room := { frames := 0, cells := 0, slots := 0, locals := 0 }
set_option maxHeartbeats 4000000 in
set_option maxRecDepth 100000 in
theorem c_X6_at (l : Launch) (sz : Nat) (x1 : Int32) (x2 : Int32) (post : Int32 → Prop) (h : wp_X6_at x1 x2 post) : Met l yX6_at wsX6_at rm_X6_at (va_Pc [.int x1, .int x2] (fun U => U.heap.size = sz)) (va_Qi (fun (rr : Int32) (_ : Unit) => post rr) (fun (_ : Unit) (_ : State) => True) (va_A [] sz)) 0 0 (va_A [] sz) := by
  refine fl_ofW (cc := cX6_at) (maxL := 2) (ret := (some .int)) (by decide) rfl ?_
  intro p e s m args below meth c s₁ Q B hml hv hQ
  obtain ⟨hargs, hsz⟩ := hv
  have hx := B.exec
  have hb := B.bytes
  have hr := B.returns
  have hts := atoms_spec (ws := wsX6_at) B.pre
  have hown : s.vm.findClass RX6 = some m.cls := findClass_of_methodNamed B.named
  subst hsz
  generalize hAe : va_A [] s.heap.size = A at hQ
  have hA : ∀ q : Nat, s.heap.size ≤ q → A q := fun q h => by rw [← hAe]; exact Or.inr h
  have hS : va_S A s.heap s.heap [] := va_S.rf
  have hl := lv_entry ([.int x1, .int x2]) (n := 2) (Nat.le_of_ble_eq_true rfl)
  refine W.eq (g2 := F0 m 0 ((lg_sl ([.int x1, .int x2]) ++ List.replicate (2 - (lg_sl ([.int x1, .int x2])).length) Slot.unset).toArray) []) (by rw [hargs]; exact lg_entry_eq m _ 2) ?_
  generalize (lg_sl ([.int x1, .int x2]) ++ List.replicate (2 - (lg_sl ([.int x1, .int x2])).length) Slot.unset).toArray = ls at hl ⊢
  have hl : lv_has ls 2 [(0, .int x1), (1, .int x2)] := hl
  suffices hstart : ∀ (H : Heap) (locs : List Loc) (ls : Array Slot), va_S A s.heap H locs → lv_has ls 2 [(0, .int x1), (1, .int x2)] → W p l e (headSpec wsX6_at rm_X6_at).room s m args below meth c H locs 0 0 Q (F0 m 0 ls []) from hstart _ _ _ hS hl
  clear hS
  intro H locs ls hS hl
  unfold wp_X6_at at h
  refine lv_iload_n hx hb dX6_at_0 rfl (lv_at hl 0 rfl) ?_
  refine lv_iconst (v := 2) hx hb dX6_at_1 (by decide) ?_
  refine lv_iload_n hx hb dX6_at_2 rfl (lv_at hl 1 rfl) ?_
  refine lv_imul hx hb dX6_at_3 ?_
  refine lv_iushr (v := (j_ushr x1 (2 * x2))) hx hb dX6_at_4 rfl ?_
  refine lv_iconst (v := 3) hx hb dX6_at_5 (by decide) ?_
  refine lv_iand hx hb dX6_at_6 ?_
  refine lv_iconst (v := 1) hx hb dX6_at_7 (by decide) ?_
  refine lv_isub hx hb dX6_at_8 ?_
  subst hQ
  exact W.iret (v := (((j_ushr x1 (2 * x2)) &&& 3) - 1)) hx hb hr (fun t ht hW => ⟨⟨_, (), rfl, h, trivial⟩, hS.F ht⟩) hS.2.2 dX6_at_9
abbrev rm_X6_isLonger : Room := { frames := 0, cells := 0, slots := 0, locals := 0 }
set_option maxHeartbeats 4000000 in
set_option maxRecDepth 100000 in
theorem c_X6_isLonger (l : Launch) (sz : Nat) (x1 : Int32) (x2 : Int32) (post : Int32 → Prop) (h : wp_X6_isLonger x1 x2 post) : Met l yX6_isLonger wsX6_isLonger rm_X6_isLonger (va_Pc [.int x1, .int x2] (fun U => U.heap.size = sz)) (va_Qi (fun (rr : Int32) (_ : Unit) => post rr) (fun (_ : Unit) (_ : State) => True) (va_A [] sz)) 0 0 (va_A [] sz) := by
  refine fl_ofW (cc := cX6_isLonger) (maxL := 2) (ret := (some .boolean)) (by decide) rfl ?_
  intro p e s m args below meth c s₁ Q B hml hv hQ
  obtain ⟨hargs, hsz⟩ := hv
  have hx := B.exec
  have hb := B.bytes
  have hr := B.returns
  have hts := atoms_spec (ws := wsX6_isLonger) B.pre
  have hown : s.vm.findClass RX6 = some m.cls := findClass_of_methodNamed B.named
  subst hsz
  generalize hAe : va_A [] s.heap.size = A at hQ
  have hA : ∀ q : Nat, s.heap.size ≤ q → A q := fun q h => by rw [← hAe]; exact Or.inr h
  have hS : va_S A s.heap s.heap [] := va_S.rf
  have hl := lv_entry ([.int x1, .int x2]) (n := 2) (Nat.le_of_ble_eq_true rfl)
  refine W.eq (g2 := F0 m 0 ((lg_sl ([.int x1, .int x2]) ++ List.replicate (2 - (lg_sl ([.int x1, .int x2])).length) Slot.unset).toArray) []) (by rw [hargs]; exact lg_entry_eq m _ 2) ?_
  generalize (lg_sl ([.int x1, .int x2]) ++ List.replicate (2 - (lg_sl ([.int x1, .int x2])).length) Slot.unset).toArray = ls at hl ⊢
  have hl : lv_has ls 2 [(0, .int x1), (1, .int x2)] := hl
  suffices hstart : ∀ (H : Heap) (locs : List Loc) (ls : Array Slot), va_S A s.heap H locs → lv_has ls 2 [(0, .int x1), (1, .int x2)] → W p l e (headSpec wsX6_isLonger rm_X6_isLonger).room s m args below meth c H locs 0 0 Q (F0 m 0 ls []) from hstart _ _ _ hS hl
  clear hS
  intro H locs ls hS hl
  unfold wp_X6_isLonger at h
  refine lv_iload_n hx hb dX6_isLonger_0 rfl (lv_at hl 0 rfl) ?_
  refine lv_iconst (v := 2) hx hb dX6_isLonger_1 (by decide) ?_
  refine lv_iload_n hx hb dX6_isLonger_2 rfl (lv_at hl 1 rfl) ?_
  refine lv_imul hx hb dX6_isLonger_3 ?_
  refine lv_iushr (v := (j_ushr x1 (2 * x2))) hx hb dX6_isLonger_4 rfl ?_
  refine lv_if_eq (tgt := 12) hx hb dX6_isLonger_5 (by decide) (fun hc_1 => ?_) (fun hc_1 => ?_)
  · replace h := h.1 hc_1
    refine lv_iconst (v := 0) hx hb dX6_isLonger_12 (by decide) ?_
    subst hQ
    exact W.zret (v := 0) hx hb hr (by rfl) (fun t ht hW => ⟨⟨_, (), rfl, h, trivial⟩, hS.F ht⟩) hS.2.2 dX6_isLonger_13
  · replace h := h.2 hc_1
    refine lv_iconst (v := 1) hx hb dX6_isLonger_8 (by decide) ?_
    refine lv_goto (tgt := 13) hx hb dX6_isLonger_9 (by decide) ?_
    subst hQ
    exact W.zret (v := 1) hx hb hr (by rfl) (fun t ht hW => ⟨⟨_, (), rfl, h, trivial⟩, hS.F ht⟩) hS.2.2 dX6_isLonger_13
abbrev rm_X6_isIn : Room := { frames := 0, cells := 0, slots := 0, locals := 0 }
set_option maxHeartbeats 4000000 in
set_option maxRecDepth 100000 in
theorem c_X6_isIn (l : Launch) (sz : Nat) (x1 : Int32) (x2 : Int32) (post : Int32 → Prop) (h : wp_X6_isIn x1 x2 post) : Met l yX6_isIn wsX6_isIn rm_X6_isIn (va_Pc [.int x1, .int x2] (fun U => U.heap.size = sz)) (va_Qi (fun (rr : Int32) (_ : Unit) => post rr) (fun (_ : Unit) (_ : State) => True) (va_A [] sz)) 0 0 (va_A [] sz) := by
  refine fl_ofW (cc := cX6_isIn) (maxL := 5) (ret := (some .boolean)) (by decide) rfl ?_
  intro p e s m args below meth c s₁ Q B hml hv hQ
  obtain ⟨hargs, hsz⟩ := hv
  have hx := B.exec
  have hb := B.bytes
  have hr := B.returns
  have hts := atoms_spec (ws := wsX6_isIn) B.pre
  have hown : s.vm.findClass RX6 = some m.cls := findClass_of_methodNamed B.named
  subst hsz
  generalize hAe : va_A [] s.heap.size = A at hQ
  have hA : ∀ q : Nat, s.heap.size ≤ q → A q := fun q h => by rw [← hAe]; exact Or.inr h
  have hS : va_S A s.heap s.heap [] := va_S.rf
  have hl := lv_entry ([.int x1, .int x2]) (n := 5) (Nat.le_of_ble_eq_true rfl)
  refine W.eq (g2 := F0 m 0 ((lg_sl ([.int x1, .int x2]) ++ List.replicate (5 - (lg_sl ([.int x1, .int x2])).length) Slot.unset).toArray) []) (by rw [hargs]; exact lg_entry_eq m _ 5) ?_
  generalize (lg_sl ([.int x1, .int x2]) ++ List.replicate (5 - (lg_sl ([.int x1, .int x2])).length) Slot.unset).toArray = ls at hl ⊢
  have hl : lv_has ls 5 [(0, .int x1), (1, .int x2)] := hl
  suffices hstart : ∀ (H : Heap) (locs : List Loc) (ls : Array Slot), va_S A s.heap H locs → lv_has ls 5 [(0, .int x1), (1, .int x2)] → W p l e (headSpec wsX6_isIn rm_X6_isIn).room s m args below meth c H locs 0 0 Q (F0 m 0 ls []) from hstart _ _ _ hS hl
  clear hS
  intro H locs ls hS hl
  unfold wp_X6_isIn at h
  refine lv_iload_n hx hb dX6_isIn_0 rfl (lv_at hl 0 rfl) ?_
  refine lv_istore_n (lv' := [(2, .int x1), (0, .int x1), (1, .int x2)]) hx hb dX6_isIn_1 rfl hl (by decide) rfl (fun ls hl => ?_)
  refine lv_iload_n hx hb dX6_isIn_2 rfl (lv_at hl 2 rfl) ?_
  refine lv_istore_n (lv' := [(3, .int x2), (2, .int x1), (0, .int x1), (1, .int x2)]) hx hb dX6_isIn_3 rfl hl (by decide) rfl (fun ls hl => ?_)
  refine lv_iconst (v := 0) hx hb dX6_isIn_4 (by decide) ?_
  refine lv_istore (lv' := [(4, .int 0), (3, .int x2), (2, .int x1), (0, .int x1), (1, .int x2)]) hx hb dX6_isIn_5 hl (by decide) rfl (fun ls hl => ?_)
  obtain ⟨n_13, h⟩ := h
  refine lq3_ind (GG := (fun (v4_2 : Int32) (v3_3 : Int32) (v2_4 : Int32) => ∀ (H : Heap) (locs : List Loc) (ls : Array Slot), va_S A s.heap H locs → lv_has ls 5 [(4, .int v4_2), (3, .int v3_3), (2, .int v2_4)] → W p l e (headSpec wsX6_isIn rm_X6_isIn).room s m args below meth c H locs 0 0 Q (F0 m 7 ls []))) (fun LL_1 ih_LL_1 v4_2 v3_3 v2_4 h H locs ls hS hl => ?_) n_13 _ _ _ h _ _ _ hS (lv_sub hl [0, 1, 2] rfl)
  refine lv_iload hx hb dX6_isIn_7 (lv_at hl 0 rfl) ?_
  refine lv_bipush (v := 15) hx hb dX6_isIn_9 (by decide) ?_
  refine jn0_ind (GG := (∀ (H : Heap) (locs : List Loc) (ls : Array Slot), va_S A s.heap H locs → lv_has ls 5 [(2, .int v2_4)] → W p l e (headSpec wsX6_isIn rm_X6_isIn).room s m args below meth c H locs 0 0 Q (F0 m 45 ls []))) h (fun  h H locs ls hS hl => ?_) (fun JJ_5 ih_JJ_5 h => ?_)
  · refine lv_iload_n hx hb dX6_isIn_45 rfl (lv_at hl 0 rfl) ?_
    refine lv_if_ne (tgt := 53) hx hb dX6_isIn_46 (by decide) (fun hc_6 => ?_) (fun hc_6 => ?_)
    · replace h := h.1 hc_6
      refine lv_iconst (v := 0) hx hb dX6_isIn_53 (by decide) ?_
      subst hQ
      exact W.zret (v := 0) hx hb hr (by rfl) (fun t ht hW => ⟨⟨_, (), rfl, h, trivial⟩, hS.F ht⟩) hS.2.2 dX6_isIn_54
    · replace h := h.2 hc_6
      refine lv_iconst (v := 1) hx hb dX6_isIn_49 (by decide) ?_
      refine lv_goto (tgt := 54) hx hb dX6_isIn_50 (by decide) ?_
      subst hQ
      exact W.zret (v := 1) hx hb hr (by rfl) (fun t ht hW => ⟨⟨_, (), rfl, h, trivial⟩, hS.F ht⟩) hS.2.2 dX6_isIn_54
  · refine lv_icmp_ge (tgt := 45) hx hb dX6_isIn_11 (by decide) (fun hc_7 => ?_) (fun hc_7 => ?_)
    · replace h := h.1 hc_7
      exact ih_JJ_5 h _ _ _ hS (lv_sub hl [2] rfl)
    · replace h := h.2 hc_7
      refine lv_iload_n hx hb dX6_isIn_14 rfl (lv_at hl 2 rfl) ?_
      refine lv_if_eq (tgt := 45) hx hb dX6_isIn_15 (by decide) (fun hc_8 => ?_) (fun hc_8 => ?_)
      · replace h := h.1 hc_8
        exact ih_JJ_5 h _ _ _ hS (lv_sub hl [2] rfl)
      · replace h := h.2 hc_8
        refine lv_iload_n hx hb dX6_isIn_18 rfl (lv_at hl 1 rfl) ?_
        refine lv_if_eq (tgt := 45) hx hb dX6_isIn_19 (by decide) (fun hc_9 => ?_) (fun hc_9 => ?_)
        · replace h := h.1 hc_9
          exact ih_JJ_5 h _ _ _ hS (lv_sub hl [2] rfl)
        · replace h := h.2 hc_9
          refine lv_iload_n hx hb dX6_isIn_22 rfl (lv_at hl 2 rfl) ?_
          refine lv_iconst (v := 3) hx hb dX6_isIn_23 (by decide) ?_
          refine lv_iand hx hb dX6_isIn_24 ?_
          refine lv_iload_n hx hb dX6_isIn_25 rfl (lv_at hl 1 rfl) ?_
          refine lv_iconst (v := 3) hx hb dX6_isIn_26 (by decide) ?_
          refine lv_iand hx hb dX6_isIn_27 ?_
          refine jn1_ind (GG := (fun (v2_11 : Int32) => ∀ (H : Heap) (locs : List Loc) (ls : Array Slot), va_S A s.heap H locs → lv_has ls 5 [(4, .int v4_2), (3, .int v3_3), (2, .int v2_11)] → W p l e (headSpec wsX6_isIn rm_X6_isIn).room s m args below meth c H locs 0 0 Q (F0 m 35 ls []))) h (fun v2_11 h H locs ls hS hl => ?_) (fun JJ_10 ih_JJ_10 h => ?_)
          · refine lv_iload_n hx hb dX6_isIn_35 rfl (lv_at hl 1 rfl) ?_
            refine lv_iconst (v := 2) hx hb dX6_isIn_36 (by decide) ?_
            refine lv_iushr (v := (j_ushr v3_3 2)) hx hb dX6_isIn_37 rfl ?_
            refine lv_istore_n (lv' := [(3, .int (j_ushr v3_3 2)), (4, .int v4_2), (2, .int v2_11)]) hx hb dX6_isIn_38 rfl hl (by decide) rfl (fun ls hl => ?_)
            refine lv_iinc (v := (v4_2 + 1)) (lv' := [(4, .int (v4_2 + 1)), (3, .int (j_ushr v3_3 2)), (2, .int v2_11)]) hx hb dX6_isIn_39 hl (k := 1) rfl rfl (by decide) rfl (fun ls hl => ?_)
            refine lv_goto (tgt := 7) hx hb dX6_isIn_42 (by decide) ?_
            exact ih_LL_1 _ _ _ h _ _ _ hS (lv_sub hl [0, 1, 2] rfl)
          · refine lv_icmp_ne (tgt := 35) hx hb dX6_isIn_28 (by decide) (fun hc_12 => ?_) (fun hc_12 => ?_)
            · replace h := h.1 hc_12
              exact ih_JJ_10 _ h _ _ _ hS (lv_sub hl [0, 1, 2] rfl)
            · replace h := h.2 hc_12
              refine lv_iload_n hx hb dX6_isIn_31 rfl (lv_at hl 2 rfl) ?_
              refine lv_iconst (v := 2) hx hb dX6_isIn_32 (by decide) ?_
              refine lv_iushr (v := (j_ushr v2_4 2)) hx hb dX6_isIn_33 rfl ?_
              refine lv_istore_n (lv' := [(2, .int (j_ushr v2_4 2)), (4, .int v4_2), (3, .int v3_3)]) hx hb dX6_isIn_34 rfl hl (by decide) rfl (fun ls hl => ?_)
              exact ih_JJ_10 _ h _ _ _ hS (lv_sub hl [1, 2, 0] rfl)
abbrev rm_J7_fill_53178 : Room := { frames := 0, cells := 0, slots := 0, locals := 0 }
set_option maxHeartbeats 4000000 in
set_option maxRecDepth 100000 in
theorem c_J7_fill_53178 (l : Launch) (dC : Nat → ClassId) (dI : Nat → Nat → Nat) (a1 : Nat) (ca1 : ClassId) (n1 : Nat) (sz : Nat) (u1 : Nat → Int32) (x2 : Int32) (post : (Nat → Int32) → Prop) (h : wp_J7_fill_53178 n1 u1 x2 post) : Met l yJ7_fill_53178 wsJ7_fill_53178 rm_J7_fill_53178 (va_Pc [.ref a1, .int x2] (fun U => U.heap.size = sz ∧ va_P (dC, dI) vwCl ([(a1, .inl (ca1, n1, .inl u1))]) U.heap ∧ va_K (dC, dI) vwCl ([(ca1, .int)]) U ∧ va_D (fun _ => True) ([(a1, .inl (ca1, n1, .inl u1))]))) (va_Qv post (fun (zz : Nat → Int32) (t : State) => va_P (dC, dI) vwCl ([(a1, .inl (ca1, n1, .inl zz))]) t.heap ∧ va_D (va_A ([(a1, .inl (ca1, n1, .inl u1))]) sz) ([(a1, .inl (ca1, n1, .inl zz))])) (va_A ([(a1, .inl (ca1, n1, .inl u1))]) sz)) 0 0 (va_A ([(a1, .inl (ca1, n1, .inl u1))]) sz) := by
  refine fl_ofW (cc := cJ7_fill_53178) (maxL := 4) (ret := none) (by decide) rfl ?_
  intro p e s m args below meth c s₁ Q B hml hv hQ
  obtain ⟨hargs, hsz, hP, hK, hD0⟩ := hv
  have hx := B.exec
  have hb := B.bytes
  have hr := B.returns
  have hts := atoms_spec (ws := wsJ7_fill_53178) B.pre
  have hown : s.vm.findClass RJ7 = some m.cls := findClass_of_methodNamed B.named
  subst hsz
  have hD := hD0.self (sz := s.heap.size)
  generalize hAe : va_A ([(a1, .inl (ca1, n1, .inl u1))]) s.heap.size = A at hD hQ
  have hA : ∀ q : Nat, s.heap.size ≤ q → A q := fun q h => by rw [← hAe]; exact Or.inr h
  have hS : va_S A s.heap s.heap [] := va_S.rf
  have hl := lv_entry ([.ref a1, .int x2]) (n := 4) (Nat.le_of_ble_eq_true rfl)
  refine W.eq (g2 := F0 m 0 ((lg_sl ([.ref a1, .int x2]) ++ List.replicate (4 - (lg_sl ([.ref a1, .int x2])).length) Slot.unset).toArray) []) (by rw [hargs]; exact lg_entry_eq m _ 4) ?_
  generalize (lg_sl ([.ref a1, .int x2]) ++ List.replicate (4 - (lg_sl ([.ref a1, .int x2])).length) Slot.unset).toArray = ls at hl ⊢
  have hl : lv_has ls 4 [(0, .ref a1), (1, .int x2)] := hl
  suffices hstart : ∀ (H : Heap) (locs : List Loc) (ls : Array Slot), va_P (dC, dI) vwCl ([(a1, .inl (ca1, n1, .inl u1))]) H → va_D A ([(a1, .inl (ca1, n1, .inl u1))]) → va_S A s.heap H locs → lv_has ls 4 [(0, .ref a1), (1, .int x2)] → W p l e (headSpec wsJ7_fill_53178 rm_J7_fill_53178).room s m args below meth c H locs 0 0 Q (F0 m 0 ls []) from hstart _ _ _ hP hD hS hl
  clear hS hP hD hD0
  intro H locs ls hP hD hS hl
  unfold wp_J7_fill_53178 at h
  refine lv_iconst (v := 0) hx hb dJ7_fill_53178_0 (by decide) ?_
  refine lv_istore_n (lv' := [(2, .int 0), (0, .ref a1), (1, .int x2)]) hx hb dJ7_fill_53178_1 rfl hl (by decide) rfl (fun ls hl => ?_)
  refine lv_aload_n hx hb dJ7_fill_53178_2 rfl (lv_at hl 1 rfl) ?_
  refine va_alen (D := (dC, dI)) (cl := vwCl) hx hb hK hP 0 0 rfl rfl rfl dJ7_fill_53178_3 ?_
  refine lv_istore_n (lv' := [(3, .int (Int32.ofNat n1)), (2, .int 0), (0, .ref a1), (1, .int x2)]) hx hb dJ7_fill_53178_4 rfl hl (by decide) rfl (fun ls hl => ?_)
  obtain ⟨n_7, h⟩ := h
  refine lq2_ind (GG := (fun (v2_2 : Int32) (u1_3 : Nat → Int32) => ∀ (H : Heap) (locs : List Loc) (ls : Array Slot), va_P (dC, dI) vwCl ([(a1, .inl (ca1, n1, .inl u1_3))]) H → va_D A ([(a1, .inl (ca1, n1, .inl u1_3))]) → va_S A s.heap H locs → lv_has ls 4 [(3, .int (Int32.ofNat n1)), (2, .int v2_2), (0, .ref a1), (1, .int x2)] → W p l e (headSpec wsJ7_fill_53178 rm_J7_fill_53178).room s m args below meth c H locs 0 0 Q (F0 m 5 ls []))) (fun LL_1 ih_LL_1 v2_2 u1_3 h H locs ls hP hD hS hl => ?_) n_7 _ _ h _ _ _ hP hD hS (lv_sub hl [0, 1, 2, 3] rfl)
  refine lv_iload_n hx hb dJ7_fill_53178_5 rfl (lv_at hl 1 rfl) ?_
  refine lv_iload_n hx hb dJ7_fill_53178_6 rfl (lv_at hl 0 rfl) ?_
  refine lv_icmp_ge (tgt := 20) hx hb dJ7_fill_53178_7 (by decide) (fun hc_4 => ?_) (fun hc_4 => ?_)
  · replace h := h.1 hc_4
    subst hQ
    exact W.vret hx hb hr (fun t ht hW => ⟨⟨u1_3, rfl, h, by rw [ht]; exact hP, hD⟩, hS.F ht⟩) hS.2.2 dJ7_fill_53178_20
  · replace h := h.2 hc_4
    refine lv_aload_n hx hb dJ7_fill_53178_10 rfl (lv_at hl 2 rfl) ?_
    refine lv_iload_n hx hb dJ7_fill_53178_11 rfl (lv_at hl 1 rfl) ?_
    refine lv_iload_n hx hb dJ7_fill_53178_12 rfl (lv_at hl 3 rfl) ?_
    obtain ⟨hi_5, h⟩ := h
    refine va_iast (D := (dC, dI)) (cl := vwCl) (i := v2_2) hx hb hK hP hD hS 0 0 rfl rfl hi_5 dJ7_fill_53178_13 (fun H locs hP hD hS => ?_)
    obtain ⟨u1_6, eu1_6⟩ : ∃ z : Nat → Int32, z = (upd u1_3 v2_2.toNatClampNeg x2) := ⟨_, rfl⟩
    replace h := h u1_6 eu1_6
    replace hP : va_P (dC, dI) vwCl ([(a1, .inl (ca1, n1, .inl u1_6))]) H := by rw [eu1_6]; exact hP
    replace hD : va_D A ([(a1, .inl (ca1, n1, .inl u1_6))]) := by rw [eu1_6]; exact hD
    refine lv_iinc (v := (v2_2 + 1)) (lv' := [(2, .int (v2_2 + 1)), (3, .int (Int32.ofNat n1)), (0, .ref a1), (1, .int x2)]) hx hb dJ7_fill_53178_14 hl (k := 1) rfl rfl (by decide) rfl (fun ls hl => ?_)
    refine lv_goto (tgt := 5) hx hb dJ7_fill_53178_17 (by decide) ?_
    exact ih_LL_1 _ _ h _ _ _ hP hD hS (lv_sub hl [1, 0, 2, 3] rfl)
abbrev rm_J7_fill_d0a16 : Room := { frames := 0, cells := 0, slots := 0, locals := 0 }
set_option maxHeartbeats 4000000 in
set_option maxRecDepth 100000 in
theorem c_J7_fill_d0a16 (l : Launch) (dC : Nat → ClassId) (dI : Nat → Nat → Nat) (a1 : Nat) (ca1 : ClassId) (n1 : Nat) (sz : Nat) (u1 : Nat → Int64) (x2 : Int64) (post : (Nat → Int64) → Prop) (h : wp_J7_fill_d0a16 n1 u1 x2 post) : Met l yJ7_fill_d0a16 wsJ7_fill_d0a16 rm_J7_fill_d0a16 (va_Pc [.ref a1, .long x2] (fun U => U.heap.size = sz ∧ va_P (dC, dI) vwCl ([(a1, .inl (ca1, n1, .inr (.inl u1)))]) U.heap ∧ va_K (dC, dI) vwCl ([(ca1, .long)]) U ∧ va_D (fun _ => True) ([(a1, .inl (ca1, n1, .inr (.inl u1)))]))) (va_Qv post (fun (zz : Nat → Int64) (t : State) => va_P (dC, dI) vwCl ([(a1, .inl (ca1, n1, .inr (.inl zz)))]) t.heap ∧ va_D (va_A ([(a1, .inl (ca1, n1, .inr (.inl u1)))]) sz) ([(a1, .inl (ca1, n1, .inr (.inl zz)))])) (va_A ([(a1, .inl (ca1, n1, .inr (.inl u1)))]) sz)) 0 0 (va_A ([(a1, .inl (ca1, n1, .inr (.inl u1)))]) sz) := by
  refine fl_ofW (cc := cJ7_fill_d0a16) (maxL := 5) (ret := none) (by decide) rfl ?_
  intro p e s m args below meth c s₁ Q B hml hv hQ
  obtain ⟨hargs, hsz, hP, hK, hD0⟩ := hv
  have hx := B.exec
  have hb := B.bytes
  have hr := B.returns
  have hts := atoms_spec (ws := wsJ7_fill_d0a16) B.pre
  have hown : s.vm.findClass RJ7 = some m.cls := findClass_of_methodNamed B.named
  subst hsz
  have hD := hD0.self (sz := s.heap.size)
  generalize hAe : va_A ([(a1, .inl (ca1, n1, .inr (.inl u1)))]) s.heap.size = A at hD hQ
  have hA : ∀ q : Nat, s.heap.size ≤ q → A q := fun q h => by rw [← hAe]; exact Or.inr h
  have hS : va_S A s.heap s.heap [] := va_S.rf
  have hl := lv_entry ([.ref a1, .long x2]) (n := 5) (Nat.le_of_ble_eq_true rfl)
  refine W.eq (g2 := F0 m 0 ((lg_sl ([.ref a1, .long x2]) ++ List.replicate (5 - (lg_sl ([.ref a1, .long x2])).length) Slot.unset).toArray) []) (by rw [hargs]; exact lg_entry_eq m _ 5) ?_
  generalize (lg_sl ([.ref a1, .long x2]) ++ List.replicate (5 - (lg_sl ([.ref a1, .long x2])).length) Slot.unset).toArray = ls at hl ⊢
  have hl : lv_has ls 5 [(0, .ref a1), (1, .long x2)] := hl
  suffices hstart : ∀ (H : Heap) (locs : List Loc) (ls : Array Slot), va_P (dC, dI) vwCl ([(a1, .inl (ca1, n1, .inr (.inl u1)))]) H → va_D A ([(a1, .inl (ca1, n1, .inr (.inl u1)))]) → va_S A s.heap H locs → lv_has ls 5 [(0, .ref a1), (1, .long x2)] → W p l e (headSpec wsJ7_fill_d0a16 rm_J7_fill_d0a16).room s m args below meth c H locs 0 0 Q (F0 m 0 ls []) from hstart _ _ _ hP hD hS hl
  clear hS hP hD hD0
  intro H locs ls hP hD hS hl
  unfold wp_J7_fill_d0a16 at h
  refine lv_iconst (v := 0) hx hb dJ7_fill_d0a16_0 (by decide) ?_
  refine lv_istore_n (lv' := [(3, .int 0), (0, .ref a1), (1, .long x2)]) hx hb dJ7_fill_d0a16_1 rfl hl (by decide) rfl (fun ls hl => ?_)
  refine lv_aload_n hx hb dJ7_fill_d0a16_2 rfl (lv_at hl 1 rfl) ?_
  refine va_alen (D := (dC, dI)) (cl := vwCl) hx hb hK hP 0 0 rfl rfl rfl dJ7_fill_d0a16_3 ?_
  refine lv_istore (lv' := [(4, .int (Int32.ofNat n1)), (3, .int 0), (0, .ref a1), (1, .long x2)]) hx hb dJ7_fill_d0a16_4 hl (by decide) rfl (fun ls hl => ?_)
  obtain ⟨n_7, h⟩ := h
  refine lq2_ind (GG := (fun (v3_2 : Int32) (u1_3 : Nat → Int64) => ∀ (H : Heap) (locs : List Loc) (ls : Array Slot), va_P (dC, dI) vwCl ([(a1, .inl (ca1, n1, .inr (.inl u1_3)))]) H → va_D A ([(a1, .inl (ca1, n1, .inr (.inl u1_3)))]) → va_S A s.heap H locs → lv_has ls 5 [(4, .int (Int32.ofNat n1)), (3, .int v3_2), (0, .ref a1), (1, .long x2)] → W p l e (headSpec wsJ7_fill_d0a16 rm_J7_fill_d0a16).room s m args below meth c H locs 0 0 Q (F0 m 6 ls []))) (fun LL_1 ih_LL_1 v3_2 u1_3 h H locs ls hP hD hS hl => ?_) n_7 _ _ h _ _ _ hP hD hS (lv_sub hl [0, 1, 2, 3] rfl)
  refine lv_iload_n hx hb dJ7_fill_d0a16_6 rfl (lv_at hl 1 rfl) ?_
  refine lv_iload hx hb dJ7_fill_d0a16_7 (lv_at hl 0 rfl) ?_
  refine lv_icmp_ge (tgt := 22) hx hb dJ7_fill_d0a16_9 (by decide) (fun hc_4 => ?_) (fun hc_4 => ?_)
  · replace h := h.1 hc_4
    subst hQ
    exact W.vret hx hb hr (fun t ht hW => ⟨⟨u1_3, rfl, h, by rw [ht]; exact hP, hD⟩, hS.F ht⟩) hS.2.2 dJ7_fill_d0a16_22
  · replace h := h.2 hc_4
    refine lv_aload_n hx hb dJ7_fill_d0a16_12 rfl (lv_at hl 2 rfl) ?_
    refine lv_iload_n hx hb dJ7_fill_d0a16_13 rfl (lv_at hl 1 rfl) ?_
    refine lv_lload_n hx hb dJ7_fill_d0a16_14 rfl (lv_at hl 3 rfl) ?_
    obtain ⟨hi_5, h⟩ := h
    refine va_last (D := (dC, dI)) (cl := vwCl) (i := v3_2) hx hb hK hP hD hS 0 0 rfl rfl hi_5 dJ7_fill_d0a16_15 (fun H locs hP hD hS => ?_)
    obtain ⟨u1_6, eu1_6⟩ : ∃ z : Nat → Int64, z = (vp_updL u1_3 v3_2.toNatClampNeg x2) := ⟨_, rfl⟩
    replace h := h u1_6 eu1_6
    replace hP : va_P (dC, dI) vwCl ([(a1, .inl (ca1, n1, .inr (.inl u1_6)))]) H := by rw [eu1_6]; exact hP
    replace hD : va_D A ([(a1, .inl (ca1, n1, .inr (.inl u1_6)))]) := by rw [eu1_6]; exact hD
    refine lv_iinc (v := (v3_2 + 1)) (lv' := [(3, .int (v3_2 + 1)), (4, .int (Int32.ofNat n1)), (0, .ref a1), (1, .long x2)]) hx hb dJ7_fill_d0a16_16 hl (k := 1) rfl rfl (by decide) rfl (fun ls hl => ?_)
    refine lv_goto (tgt := 6) hx hb dJ7_fill_d0a16_19 (by decide) ?_
    exact ih_LL_1 _ _ h _ _ _ hP hD hS (lv_sub hl [1, 0, 2, 3] rfl)
