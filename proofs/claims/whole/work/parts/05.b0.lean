abbrev rm_X0_part : Room := { frames := 0, cells := 0, slots := 0, locals := 0 }
set_option maxHeartbeats 4000000 in
set_option maxRecDepth 100000 in
theorem c_X0_part (l : Launch) (dC : Nat → ClassId) (dI : Nat → Nat → Nat) (a : Nat → Nat) (ca : Nat → ClassId) (sz : Nat) (u : Ob) (x1 : Int32) (x2 : Int32) (post : Int32 → Prop) (h : wp_X0_part u x1 x2 post) : Met l yX0_part wsX0_part rm_X0_part (va_Pc [.ref (a 0), .int x1, .int x2] (fun U => U.heap.size = sz ∧ va_P (dC, dI) vwCl (wd_X0 a ca u) U.heap ∧ va_K (dC, dI) vwCl (ty_X0 ca) U ∧ va_D (fun _ => True) (wd_X0 a ca u))) (va_Qi (fun (rr : Int32) (_ : Unit) => post rr) (fun (zz : Unit) (t : State) => va_P (dC, dI) vwCl (wd_X0 a ca u) t.heap ∧ va_D (va_A (wd_X0 a ca u) sz) (wd_X0 a ca u)) (va_A (wd_X0 a ca u) sz)) 0 0 (va_A (wd_X0 a ca u) sz) := by
  refine fl_ofW (cc := cX0_part) (maxL := 3) (ret := (some .int)) (by decide) rfl ?_
  intro p e s m args below meth c s₁ Q B hml hv hQ
  obtain ⟨hargs, hsz, hP, hK, hD0⟩ := hv
  have hx := B.exec
  have hb := B.bytes
  have hr := B.returns
  have hts := atoms_spec (ws := wsX0_part) B.pre
  have hown : s.vm.findClass RX0 = some m.cls := findClass_of_methodNamed B.named
  subst hsz
  have hD := hD0.self (sz := s.heap.size)
  generalize hAe : va_A (wd_X0 a ca u) s.heap.size = A at hD hQ
  have hA : ∀ q : Nat, s.heap.size ≤ q → A q := fun q h => by rw [← hAe]; exact Or.inr h
  have hS : va_S A s.heap s.heap [] := va_S.rf
  have hl := lv_entry ([.ref (a 0), .int x1, .int x2]) (n := 3) (Nat.le_of_ble_eq_true rfl)
  refine W.eq (g2 := F0 m 0 ((lg_sl ([.ref (a 0), .int x1, .int x2]) ++ List.replicate (3 - (lg_sl ([.ref (a 0), .int x1, .int x2])).length) Slot.unset).toArray) []) (by rw [hargs]; exact lg_entry_eq m _ 3) ?_
  generalize (lg_sl ([.ref (a 0), .int x1, .int x2]) ++ List.replicate (3 - (lg_sl ([.ref (a 0), .int x1, .int x2])).length) Slot.unset).toArray = ls at hl ⊢
  have hl : lv_has ls 3 [(0, .ref (a 0)), (1, .int x1), (2, .int x2)] := hl
  suffices hstart : ∀ (H : Heap) (locs : List Loc) (ls : Array Slot), va_P (dC, dI) vwCl (wd_X0 a ca u) H → va_D A (wd_X0 a ca u) → va_S A s.heap H locs → lv_has ls 3 [(0, .ref (a 0)), (1, .int x1), (2, .int x2)] → W p l e (headSpec wsX0_part rm_X0_part).room s m args below meth c H locs 0 0 Q (F0 m 0 ls []) from hstart _ _ _ hP hD hS hl
  clear hS hP hD hD0
  intro H locs ls hP hD hS hl
  have hin_X0 : ∀ w ∈ wsX00, w ∈ wsX0_part := by decide +kernel
  have lk_0 := hts (.fieldLink RX0 19 "ForgettingLines$Machine" "rows" "[I") (by decide +kernel)
  unfold wp_X0_part at h
  refine lv_aload_n hx hb dX0_part_0 rfl (lv_at hl 0 rfl) ?_
  refine va_get (D := (dC, dI)) (ci := 0) (v := .ref (a 4)) (C := RX0) (T := TX0) (N := 4) hx hb hts hin_X0 hown hK hP 0 rfl rfl 3 (by decide) lk_0 (fun _ h9 => h9) rfl dX0_part_1 ?_
  refine lv_iload_n hx hb dX0_part_4 rfl (lv_at hl 1 rfl) ?_
  refine lv_iconst (v := 5) hx hb dX0_part_5 (by decide) ?_
  refine lv_imul hx hb dX0_part_6 ?_
  refine lv_iload_n hx hb dX0_part_7 rfl (lv_at hl 2 rfl) ?_
  refine lv_iadd hx hb dX0_part_8 ?_
  obtain ⟨hi_1, h⟩ := h
  refine va_iald (D := (dC, dI)) (cl := vwCl) (i := ((x1 * 5) + x2)) hx hb hK hP 2 1 rfl rfl hi_1 dX0_part_9 ?_
  subst hQ
  exact W.iret (v := (u.2.1 3 ((x1 * 5) + x2).toNatClampNeg)) hx hb hr (fun t ht hW => ⟨⟨_, (), rfl, h, by rw [ht]; exact hP, hD⟩, hS.F ht⟩) hS.2.2 dX0_part_10
abbrev rm_X0_canHave : Room := { frames := 1, cells := 0, slots := 0, locals := 21 }
set_option maxHeartbeats 4000000 in
set_option maxRecDepth 100000 in
theorem c_X0_canHave (l : Launch) (dC : Nat → ClassId) (dI : Nat → Nat → Nat) (a : Nat → Nat) (ca : Nat → ClassId) (sz : Nat) (u : Ob) (x1 : Int32) (x2 : Int32) (x3 : Int32) (x4 : Int32) (x5 : Int32) (post : Int32 → Prop) (h : wp_X0_canHave u x1 x2 x3 x4 x5 post) : Met l yX0_canHave wsX0_canHave rm_X0_canHave (va_Pc [.ref (a 0), .int x1, .int x2, .int x3, .int x4, .int x5] (fun U => U.heap.size = sz ∧ va_P (dC, dI) vwCl (wd_X0 a ca u) U.heap ∧ va_K (dC, dI) vwCl (ty_X0 ca) U ∧ va_D (fun _ => True) (wd_X0 a ca u) ∧ nw_ok U)) (va_Qi (fun (rr : Int32) (_ : Unit) => post rr) (fun (zz : Unit) (t : State) => va_P (dC, dI) vwCl (wd_X0 a ca u) t.heap ∧ va_D (va_A (wd_X0 a ca u) sz) (wd_X0 a ca u)) (va_A (wd_X0 a ca u) sz)) 0 0 (va_A (wd_X0 a ca u) sz) := by
  refine fl_ofW (cc := cX0_canHave) (maxL := 6) (ret := (some .boolean)) (by decide) rfl ?_
  intro p e s m args below meth c s₁ Q B hml hv hQ
  obtain ⟨hargs, hsz, hP, hK, hD0, hN⟩ := hv
  have hx := B.exec
  have hb := B.bytes
  have hr := B.returns
  have hts := atoms_spec (ws := wsX0_canHave) B.pre
  have hown : s.vm.findClass RX0 = some m.cls := findClass_of_methodNamed B.named
  subst hsz
  have hD := hD0.self (sz := s.heap.size)
  generalize hAe : va_A (wd_X0 a ca u) s.heap.size = A at hD hQ
  have hA : ∀ q : Nat, s.heap.size ≤ q → A q := fun q h => by rw [← hAe]; exact Or.inr h
  have hS : va_S A s.heap s.heap [] := va_S.rf
  have hl := lv_entry ([.ref (a 0), .int x1, .int x2, .int x3, .int x4, .int x5]) (n := 6) (Nat.le_of_ble_eq_true rfl)
  refine W.eq (g2 := F0 m 0 ((lg_sl ([.ref (a 0), .int x1, .int x2, .int x3, .int x4, .int x5]) ++ List.replicate (6 - (lg_sl ([.ref (a 0), .int x1, .int x2, .int x3, .int x4, .int x5])).length) Slot.unset).toArray) []) (by rw [hargs]; exact lg_entry_eq m _ 6) ?_
  generalize (lg_sl ([.ref (a 0), .int x1, .int x2, .int x3, .int x4, .int x5]) ++ List.replicate (6 - (lg_sl ([.ref (a 0), .int x1, .int x2, .int x3, .int x4, .int x5])).length) Slot.unset).toArray = ls at hl ⊢
  have hl : lv_has ls 6 [(0, .ref (a 0)), (1, .int x1), (2, .int x2), (3, .int x3), (4, .int x4), (5, .int x5)] := hl
  suffices hstart : ∀ (H : Heap) (locs : List Loc) (ls : Array Slot), va_P (dC, dI) vwCl (wd_X0 a ca u) H → va_D A (wd_X0 a ca u) → va_S A s.heap H locs → lv_has ls 6 [(0, .ref (a 0)), (1, .int x1), (2, .int x2), (3, .int x3), (4, .int x4), (5, .int x5)] → W p l e (headSpec wsX0_canHave rm_X0_canHave).room s m args below meth c H locs 0 0 Q (F0 m 0 ls []) from hstart _ _ _ hP hD hS hl
  clear hS hP hD hD0
  intro H locs ls hP hD hS hl
  have hin_X0 : ∀ w ∈ wsX00, w ∈ wsX0_canHave := by decide +kernel
  have lk_0 := hts (.fieldLink RX0 9 "ForgettingLines$Machine" "states" "I") (by decide +kernel)
  unfold wp_X0_canHave at h
  refine lv_iload_n hx hb dX0_canHave_0 rfl (lv_at hl 1 rfl) ?_
  refine lv_aload_n hx hb dX0_canHave_1 rfl (lv_at hl 0 rfl) ?_
  refine va_get (D := (dC, dI)) (ci := 0) (v := .int (u.1 0)) (C := RX0) (T := TX0) (N := 4) hx hb hts hin_X0 hown hK hP 0 rfl rfl 0 (by decide) lk_0 (fun _ h9 => h9) rfl dX0_canHave_2 ?_
  have hFc := fl_freeN hS hA
  refine va_calli (va_runSN (As := [.int x1, .int (u.1 0)]) (rest := []) ⟨hx, hb, hml, hown, hts⟩ (c_X7_isAmong l H.size x1 (u.1 0) _ h) ⟨va_cnB 2 hts gX0_canHave_X7_isAmong_n23 rfl rfl rfl (hN _ (List.mem_of_getElem? (i := 6) rfl)) (hts (.initialized RX7) (by decide +kernel)) (by decide +kernel) ⟨Nat.le_of_ble_eq_true rfl, Nat.le_of_ble_eq_true rfl⟩, hts (.static yX7_isAmong) (by decide +kernel), trivial⟩ ⟨fun a U g mk q => by obtain ⟨q0, q1⟩ := q; exact ⟨q0, q1⟩, fun U hU hW => ⟨rfl, congrArg Array.size hU⟩⟩ rfl rfl hl.1 rfl (lv_room (Nat.le_of_ble_eq_true rfl)) dX0_canHave_5 ⟨Nat.zero_le _, Nat.zero_le _⟩) hS (fun q _ h => hFc q h) hFc (fun r_1 zz t H1 locs ht hvm hw hB hz1 hk1 hS => ?_)
  replace hP := fl_keep hP hk1
  replace h := hw
  generalize H1 = H at hP hS ⊢
  refine lv_if_eq (tgt := 31) hx hb dX0_canHave_8 (by decide) (fun hc_2 => ?_) (fun hc_2 => ?_)
  · replace h := h.1 hc_2
    refine lv_iconst (v := 0) hx hb dX0_canHave_31 (by decide) ?_
    subst hQ
    exact W.zret (v := 0) hx hb hr (by rfl) (fun t ht hW => ⟨⟨_, (), rfl, h, by rw [ht]; exact hP, hD⟩, hS.F ht⟩) hS.2.2 dX0_canHave_32
  · replace h := h.2 hc_2
    refine lv_iload_n hx hb dX0_canHave_11 rfl (lv_at hl 2 rfl) ?_
    refine lv_iconst (v := 3) hx hb dX0_canHave_12 (by decide) ?_
    have hFc := fl_freeN hS hA
    refine va_calli (va_runSN (As := [.int x2, .int 3]) (rest := []) ⟨hx, hb, hml, hown, hts⟩ (c_X7_isAmong l H.size x2 3 _ h) ⟨va_cnB 2 hts gX0_canHave_X7_isAmong_n23 rfl rfl rfl (hN _ (List.mem_of_getElem? (i := 6) rfl)) (hts (.initialized RX7) (by decide +kernel)) (by decide +kernel) ⟨Nat.le_of_ble_eq_true rfl, Nat.le_of_ble_eq_true rfl⟩, hts (.static yX7_isAmong) (by decide +kernel), trivial⟩ ⟨fun a U g mk q => by obtain ⟨q0, q1⟩ := q; exact ⟨q0, q1⟩, fun U hU hW => ⟨rfl, congrArg Array.size hU⟩⟩ rfl rfl hl.1 rfl (lv_room (Nat.le_of_ble_eq_true rfl)) dX0_canHave_13 ⟨Nat.zero_le _, Nat.zero_le _⟩) hS (fun q _ h => hFc q h) hFc (fun r_3 zz t H1 locs ht hvm hw hB hz1 hk1 hS => ?_)
    replace hP := fl_keep hP hk1
    replace h := hw
    generalize H1 = H at hP hS ⊢
    refine lv_if_eq (tgt := 31) hx hb dX0_canHave_16 (by decide) (fun hc_4 => ?_) (fun hc_4 => ?_)
    · replace h := h.1 hc_4
      refine lv_iconst (v := 0) hx hb dX0_canHave_31 (by decide) ?_
      subst hQ
      exact W.zret (v := 0) hx hb hr (by rfl) (fun t ht hW => ⟨⟨_, (), rfl, h, by rw [ht]; exact hP, hD⟩, hS.F ht⟩) hS.2.2 dX0_canHave_32
    · replace h := h.2 hc_4
      refine lv_iload hx hb dX0_canHave_19 (lv_at hl 5 rfl) ?_
      refine lv_aload_n hx hb dX0_canHave_21 rfl (lv_at hl 0 rfl) ?_
      refine va_get (D := (dC, dI)) (ci := 0) (v := .int (u.1 0)) (C := RX0) (T := TX0) (N := 4) hx hb hts hin_X0 hown hK hP 0 rfl rfl 0 (by decide) lk_0 (fun _ h9 => h9) rfl dX0_canHave_22 ?_
      have hFc := fl_freeN hS hA
      refine va_calli (va_runSN (As := [.int x5, .int (u.1 0)]) (rest := []) ⟨hx, hb, hml, hown, hts⟩ (c_X7_isAmong l H.size x5 (u.1 0) _ h) ⟨va_cnB 2 hts gX0_canHave_X7_isAmong_n23 rfl rfl rfl (hN _ (List.mem_of_getElem? (i := 6) rfl)) (hts (.initialized RX7) (by decide +kernel)) (by decide +kernel) ⟨Nat.le_of_ble_eq_true rfl, Nat.le_of_ble_eq_true rfl⟩, hts (.static yX7_isAmong) (by decide +kernel), trivial⟩ ⟨fun a U g mk q => by obtain ⟨q0, q1⟩ := q; exact ⟨q0, q1⟩, fun U hU hW => ⟨rfl, congrArg Array.size hU⟩⟩ rfl rfl hl.1 rfl (lv_room (Nat.le_of_ble_eq_true rfl)) dX0_canHave_25 ⟨Nat.zero_le _, Nat.zero_le _⟩) hS (fun q _ h => hFc q h) hFc (fun r_5 zz t H1 locs ht hvm hw hB hz1 hk1 hS => ?_)
      replace hP := fl_keep hP hk1
      replace h := hw
      generalize H1 = H at hP hS ⊢
      refine lv_if_ne (tgt := 33) hx hb dX0_canHave_28 (by decide) (fun hc_6 => ?_) (fun hc_6 => ?_)
      · replace h := h.1 hc_6
        refine lv_iload_n hx hb dX0_canHave_33 rfl (lv_at hl 2 rfl) ?_
        refine lv_if_eq (tgt := 54) hx hb dX0_canHave_34 (by decide) (fun hc_7 => ?_) (fun hc_7 => ?_)
        · replace h := h.1 hc_7
          refine lv_iconst (v := 1) hx hb dX0_canHave_54 (by decide) ?_
          refine lv_goto (tgt := 59) hx hb dX0_canHave_55 (by decide) ?_
          subst hQ
          exact W.zret (v := 1) hx hb hr (by rfl) (fun t ht hW => ⟨⟨_, (), rfl, h, by rw [ht]; exact hP, hD⟩, hS.F ht⟩) hS.2.2 dX0_canHave_59
        · replace h := h.2 hc_7
          refine lv_iload_n hx hb dX0_canHave_37 rfl (lv_at hl 3 rfl) ?_
          refine lv_iconst (v := 2) hx hb dX0_canHave_38 (by decide) ?_
          have hFc := fl_freeN hS hA
          refine va_calli (va_runSN (As := [.int x3, .int 2]) (rest := []) ⟨hx, hb, hml, hown, hts⟩ (c_X7_isAmong l H.size x3 2 _ h) ⟨va_cnB 2 hts gX0_canHave_X7_isAmong_n23 rfl rfl rfl (hN _ (List.mem_of_getElem? (i := 6) rfl)) (hts (.initialized RX7) (by decide +kernel)) (by decide +kernel) ⟨Nat.le_of_ble_eq_true rfl, Nat.le_of_ble_eq_true rfl⟩, hts (.static yX7_isAmong) (by decide +kernel), trivial⟩ ⟨fun a U g mk q => by obtain ⟨q0, q1⟩ := q; exact ⟨q0, q1⟩, fun U hU hW => ⟨rfl, congrArg Array.size hU⟩⟩ rfl rfl hl.1 rfl (lv_room (Nat.le_of_ble_eq_true rfl)) dX0_canHave_39 ⟨Nat.zero_le _, Nat.zero_le _⟩) hS (fun q _ h => hFc q h) hFc (fun r_8 zz t H1 locs ht hvm hw hB hz1 hk1 hS => ?_)
          replace hP := fl_keep hP hk1
          replace h := hw
          generalize H1 = H at hP hS ⊢
          refine lv_if_eq (tgt := 58) hx hb dX0_canHave_42 (by decide) (fun hc_9 => ?_) (fun hc_9 => ?_)
          · replace h := h.1 hc_9
            refine lv_iconst (v := 0) hx hb dX0_canHave_58 (by decide) ?_
            subst hQ
            exact W.zret (v := 0) hx hb hr (by rfl) (fun t ht hW => ⟨⟨_, (), rfl, h, by rw [ht]; exact hP, hD⟩, hS.F ht⟩) hS.2.2 dX0_canHave_59
          · replace h := h.2 hc_9
            refine lv_iload hx hb dX0_canHave_45 (lv_at hl 4 rfl) ?_
            refine lv_iconst (v := 3) hx hb dX0_canHave_47 (by decide) ?_
            have hFc := fl_freeN hS hA
            refine va_calli (va_runSN (As := [.int x4, .int 3]) (rest := []) ⟨hx, hb, hml, hown, hts⟩ (c_X7_isAmong l H.size x4 3 _ h) ⟨va_cnB 2 hts gX0_canHave_X7_isAmong_n23 rfl rfl rfl (hN _ (List.mem_of_getElem? (i := 6) rfl)) (hts (.initialized RX7) (by decide +kernel)) (by decide +kernel) ⟨Nat.le_of_ble_eq_true rfl, Nat.le_of_ble_eq_true rfl⟩, hts (.static yX7_isAmong) (by decide +kernel), trivial⟩ ⟨fun a U g mk q => by obtain ⟨q0, q1⟩ := q; exact ⟨q0, q1⟩, fun U hU hW => ⟨rfl, congrArg Array.size hU⟩⟩ rfl rfl hl.1 rfl (lv_room (Nat.le_of_ble_eq_true rfl)) dX0_canHave_48 ⟨Nat.zero_le _, Nat.zero_le _⟩) hS (fun q _ h => hFc q h) hFc (fun r_10 zz t H1 locs ht hvm hw hB hz1 hk1 hS => ?_)
            replace hP := fl_keep hP hk1
            replace h := hw
            generalize H1 = H at hP hS ⊢
            refine lv_if_eq (tgt := 58) hx hb dX0_canHave_51 (by decide) (fun hc_11 => ?_) (fun hc_11 => ?_)
            · replace h := h.1 hc_11
              refine lv_iconst (v := 0) hx hb dX0_canHave_58 (by decide) ?_
              subst hQ
              exact W.zret (v := 0) hx hb hr (by rfl) (fun t ht hW => ⟨⟨_, (), rfl, h, by rw [ht]; exact hP, hD⟩, hS.F ht⟩) hS.2.2 dX0_canHave_59
            · replace h := h.2 hc_11
              refine lv_iconst (v := 1) hx hb dX0_canHave_54 (by decide) ?_
              refine lv_goto (tgt := 59) hx hb dX0_canHave_55 (by decide) ?_
              subst hQ
              exact W.zret (v := 1) hx hb hr (by rfl) (fun t ht hW => ⟨⟨_, (), rfl, h, by rw [ht]; exact hP, hD⟩, hS.F ht⟩) hS.2.2 dX0_canHave_59
      · replace h := h.2 hc_6
        refine lv_iconst (v := 0) hx hb dX0_canHave_31 (by decide) ?_
        subst hQ
        exact W.zret (v := 0) hx hb hr (by rfl) (fun t ht hW => ⟨⟨_, (), rfl, h, by rw [ht]; exact hP, hD⟩, hS.F ht⟩) hS.2.2 dX0_canHave_32
abbrev rm_X0_canHaveAll : Room := { frames := 2, cells := 0, slots := 0, locals := 46 }
set_option maxHeartbeats 4000000 in
set_option maxRecDepth 100000 in
theorem c_X0_canHaveAll (l : Launch) (dC : Nat → ClassId) (dI : Nat → Nat → Nat) (a : Nat → Nat) (ca : Nat → ClassId) (a1 : Nat) (ca1 : ClassId) (n1 : Nat) (sz : Nat) (u : Ob) (u1 : Nat → Int32) (x2 : Int32) (x3 : Int32) (post : Int32 → Prop) (h : wp_X0_canHaveAll u n1 u1 x2 x3 post) : Met l yX0_canHaveAll wsX0_canHaveAll rm_X0_canHaveAll (va_Pc [.ref (a 0), .ref a1, .int x2, .int x3] (fun U => U.heap.size = sz ∧ va_P (dC, dI) vwCl (wd_X0 a ca u ++ ([(a1, .inl (ca1, n1, .inl u1))])) U.heap ∧ va_K (dC, dI) vwCl (ty_X0 ca ++ ([(ca1, .int)])) U ∧ va_D (fun _ => True) (wd_X0 a ca u ++ ([(a1, .inl (ca1, n1, .inl u1))])) ∧ nw_ok U)) (va_Qi (fun (rr : Int32) (_ : Unit) => post rr) (fun (zz : Unit) (t : State) => va_P (dC, dI) vwCl (wd_X0 a ca u ++ ([(a1, .inl (ca1, n1, .inl u1))])) t.heap ∧ va_D (va_A (wd_X0 a ca u ++ ([(a1, .inl (ca1, n1, .inl u1))])) sz) (wd_X0 a ca u ++ ([(a1, .inl (ca1, n1, .inl u1))]))) (va_A (wd_X0 a ca u ++ ([(a1, .inl (ca1, n1, .inl u1))])) sz)) 0 0 (va_A (wd_X0 a ca u ++ ([(a1, .inl (ca1, n1, .inl u1))])) sz) := by
  refine fl_ofW (cc := cX0_canHaveAll) (maxL := 6) (ret := (some .boolean)) (by decide) rfl ?_
  intro p e s m args below meth c s₁ Q B hml hv hQ
  obtain ⟨hargs, hsz, hP, hK, hD0, hN⟩ := hv
  have hx := B.exec
  have hb := B.bytes
  have hr := B.returns
  have hts := atoms_spec (ws := wsX0_canHaveAll) B.pre
  have hown : s.vm.findClass RX0 = some m.cls := findClass_of_methodNamed B.named
  subst hsz
  have hD := hD0.self (sz := s.heap.size)
  generalize hAe : va_A (wd_X0 a ca u ++ ([(a1, .inl (ca1, n1, .inl u1))])) s.heap.size = A at hD hQ
  have hA : ∀ q : Nat, s.heap.size ≤ q → A q := fun q h => by rw [← hAe]; exact Or.inr h
  have hS : va_S A s.heap s.heap [] := va_S.rf
  have hl := lv_entry ([.ref (a 0), .ref a1, .int x2, .int x3]) (n := 6) (Nat.le_of_ble_eq_true rfl)
  refine W.eq (g2 := F0 m 0 ((lg_sl ([.ref (a 0), .ref a1, .int x2, .int x3]) ++ List.replicate (6 - (lg_sl ([.ref (a 0), .ref a1, .int x2, .int x3])).length) Slot.unset).toArray) []) (by rw [hargs]; exact lg_entry_eq m _ 6) ?_
  generalize (lg_sl ([.ref (a 0), .ref a1, .int x2, .int x3]) ++ List.replicate (6 - (lg_sl ([.ref (a 0), .ref a1, .int x2, .int x3])).length) Slot.unset).toArray = ls at hl ⊢
  have hl : lv_has ls 6 [(0, .ref (a 0)), (1, .ref a1), (2, .int x2), (3, .int x3)] := hl
  suffices hstart : ∀ (H : Heap) (locs : List Loc) (ls : Array Slot), va_P (dC, dI) vwCl (wd_X0 a ca u ++ ([(a1, .inl (ca1, n1, .inl u1))])) H → va_D A (wd_X0 a ca u ++ ([(a1, .inl (ca1, n1, .inl u1))])) → va_S A s.heap H locs → lv_has ls 6 [(0, .ref (a 0)), (1, .ref a1), (2, .int x2), (3, .int x3)] → W p l e (headSpec wsX0_canHaveAll rm_X0_canHaveAll).room s m args below meth c H locs 0 0 Q (F0 m 0 ls []) from hstart _ _ _ hP hD hS hl
  clear hS hP hD hD0
  intro H locs ls hP hD hS hl
  unfold wp_X0_canHaveAll at h
  refine lv_iconst (v := 0) hx hb dX0_canHaveAll_0 (by decide) ?_
  refine lv_istore (lv' := [(4, .int 0), (0, .ref (a 0)), (1, .ref a1), (2, .int x2), (3, .int x3)]) hx hb dX0_canHaveAll_1 hl (by decide) rfl (fun ls hl => ?_)
  obtain ⟨n_11, h⟩ := h
  refine lq1_ind (GG := (fun (v4_2 : Int32) => ∀ (H : Heap) (locs : List Loc) (ls : Array Slot), va_P (dC, dI) vwCl (wd_X0 a ca u ++ ([(a1, .inl (ca1, n1, .inl u1))])) H → va_D A (wd_X0 a ca u ++ ([(a1, .inl (ca1, n1, .inl u1))])) → va_S A s.heap H locs → lv_has ls 6 [(4, .int v4_2), (0, .ref (a 0)), (1, .ref a1), (2, .int x2), (3, .int x3)] → W p l e (headSpec wsX0_canHaveAll rm_X0_canHaveAll).room s m args below meth c H locs 0 0 Q (F0 m 3 ls []))) (fun LL_1 ih_LL_1 v4_2 h H locs ls hP hD hS hl => ?_) n_11 _ h _ _ _ hP hD hS (lv_sub hl [0, 1, 2, 3, 4] rfl)
  refine lv_iload hx hb dX0_canHaveAll_3 (lv_at hl 0 rfl) ?_
  refine lv_iload_n hx hb dX0_canHaveAll_5 rfl (lv_at hl 4 rfl) ?_
  refine lv_icmp_ge (tgt := 62) hx hb dX0_canHaveAll_6 (by decide) (fun hc_3 => ?_) (fun hc_3 => ?_)
  · replace h := h.1 hc_3
    refine lv_iconst (v := 1) hx hb dX0_canHaveAll_62 (by decide) ?_
    subst hQ
    exact W.zret (v := 1) hx hb hr (by rfl) (fun t ht hW => ⟨⟨_, (), rfl, h, by rw [ht]; exact hP, hD⟩, hS.F ht⟩) hS.2.2 dX0_canHaveAll_63
  · replace h := h.2 hc_3
    refine lv_iload_n hx hb dX0_canHaveAll_9 rfl (lv_at hl 3 rfl) ?_
    refine lv_iload hx hb dX0_canHaveAll_10 (lv_at hl 0 rfl) ?_
    refine lv_iconst (v := 5) hx hb dX0_canHaveAll_12 (by decide) ?_
    refine lv_imul hx hb dX0_canHaveAll_13 ?_
    refine lv_iadd hx hb dX0_canHaveAll_14 ?_
    refine lv_istore (lv' := [(5, .int (x2 + (v4_2 * 5))), (4, .int v4_2), (0, .ref (a 0)), (1, .ref a1), (2, .int x2), (3, .int x3)]) hx hb dX0_canHaveAll_15 hl (by decide) rfl (fun ls hl => ?_)
    refine lv_aload_n hx hb dX0_canHaveAll_17 rfl (lv_at hl 2 rfl) ?_
    refine lv_aload_n hx hb dX0_canHaveAll_18 rfl (lv_at hl 3 rfl) ?_
    refine lv_iload hx hb dX0_canHaveAll_19 (lv_at hl 0 rfl) ?_
    refine lv_iconst (v := 0) hx hb dX0_canHaveAll_21 (by decide) ?_
    refine lv_iadd hx hb dX0_canHaveAll_22 ?_
    obtain ⟨hi_4, h⟩ := h
    refine va_iald (D := (dC, dI)) (cl := vwCl) (i := ((x2 + (v4_2 * 5)) + 0)) hx hb hK hP 3 2 rfl rfl hi_4 dX0_canHaveAll_23 ?_
    refine lv_aload_n hx hb dX0_canHaveAll_24 rfl (lv_at hl 3 rfl) ?_
    refine lv_iload hx hb dX0_canHaveAll_25 (lv_at hl 0 rfl) ?_
    refine lv_iconst (v := 1) hx hb dX0_canHaveAll_27 (by decide) ?_
    refine lv_iadd hx hb dX0_canHaveAll_28 ?_
    obtain ⟨hi_5, h⟩ := h
    refine va_iald (D := (dC, dI)) (cl := vwCl) (i := ((x2 + (v4_2 * 5)) + 1)) hx hb hK hP 3 2 rfl rfl hi_5 dX0_canHaveAll_29 ?_
    refine lv_aload_n hx hb dX0_canHaveAll_30 rfl (lv_at hl 3 rfl) ?_
    refine lv_iload hx hb dX0_canHaveAll_31 (lv_at hl 0 rfl) ?_
    refine lv_iconst (v := 2) hx hb dX0_canHaveAll_33 (by decide) ?_
    refine lv_iadd hx hb dX0_canHaveAll_34 ?_
    obtain ⟨hi_6, h⟩ := h
    refine va_iald (D := (dC, dI)) (cl := vwCl) (i := ((x2 + (v4_2 * 5)) + 2)) hx hb hK hP 3 2 rfl rfl hi_6 dX0_canHaveAll_35 ?_
    refine lv_aload_n hx hb dX0_canHaveAll_36 rfl (lv_at hl 3 rfl) ?_
    refine lv_iload hx hb dX0_canHaveAll_37 (lv_at hl 0 rfl) ?_
    refine lv_iconst (v := 3) hx hb dX0_canHaveAll_39 (by decide) ?_
    refine lv_iadd hx hb dX0_canHaveAll_40 ?_
    obtain ⟨hi_7, h⟩ := h
    refine va_iald (D := (dC, dI)) (cl := vwCl) (i := ((x2 + (v4_2 * 5)) + 3)) hx hb hK hP 3 2 rfl rfl hi_7 dX0_canHaveAll_41 ?_
    refine lv_aload_n hx hb dX0_canHaveAll_42 rfl (lv_at hl 3 rfl) ?_
    refine lv_iload hx hb dX0_canHaveAll_43 (lv_at hl 0 rfl) ?_
    refine lv_iconst (v := 4) hx hb dX0_canHaveAll_45 (by decide) ?_
    refine lv_iadd hx hb dX0_canHaveAll_46 ?_
    obtain ⟨hi_8, h⟩ := h
    refine va_iald (D := (dC, dI)) (cl := vwCl) (i := ((x2 + (v4_2 * 5)) + 4)) hx hb hK hP 3 2 rfl rfl hi_8 dX0_canHaveAll_47 ?_
    have hPc := hP.sub (ws' := (wd_X0 a ca u)) [0, 1, 2] rfl
    have hDc := hD.sub (ws' := (wd_X0 a ca u)) [0, 1, 2] (by decide) rfl
    have hKc := hK.sub (tys' := (ty_X0 ca)) [0, 1] rfl
    have hFc := va_free (wc := (wd_X0 a ca u)) hD hS hA [0, 1, 2] rfl
    refine va_calli (va_runV (As := [.int (u1 ((x2 + (v4_2 * 5)) + 0).toNatClampNeg), .int (u1 ((x2 + (v4_2 * 5)) + 1).toNatClampNeg), .int (u1 ((x2 + (v4_2 * 5)) + 2).toNatClampNeg), .int (u1 ((x2 + (v4_2 * 5)) + 3).toNatClampNeg), .int (u1 ((x2 + (v4_2 * 5)) + 4).toNatClampNeg)]) (rest := []) ⟨hx, hb, hml, hown, hts⟩ (c_X0_canHave l dC dI a ca H.size u (u1 ((x2 + (v4_2 * 5)) + 0).toNatClampNeg) (u1 ((x2 + (v4_2 * 5)) + 1).toNatClampNeg) (u1 ((x2 + (v4_2 * 5)) + 2).toNatClampNeg) (u1 ((x2 + (v4_2 * 5)) + 3).toNatClampNeg) (u1 ((x2 + (v4_2 * 5)) + 4).toNatClampNeg) _ h) (cwV 5 hts gX0_canHaveAll_X0_canHave rfl rfl rfl (by decide +kernel) ⟨Nat.le_of_ble_eq_true rfl, Nat.le_of_ble_eq_true rfl⟩) ⟨fun a U g mk q => by obtain ⟨q0, q1, qP, qK, qD, qN⟩ := q; exact ⟨q0, q1, qP, va_K.moved (u := U) (U := U.calling g mk a) (Vm.Alike.refl U.vm) qK, qD, qN.call⟩, va_recv hKc hPc (ci := 0) (q0 := 0) rfl rfl, fun U hU hW => ⟨rfl, by rw [hU], by rw [hU]; exact hPc, va_K.moved hW.alike hKc, hDc.weaken (fun _ _ _ _ => trivial), hN.warm hW⟩⟩ rfl rfl hl.1 rfl (lv_room (Nat.le_of_ble_eq_true rfl)) dX0_canHaveAll_48 ⟨Nat.zero_le _, Nat.zero_le _⟩) hS (fun q _ h => hFc q h) hFc (fun r_9 zz t H1 locs ht hvm hw hB hz1 hk1 hS => ?_)
    replace h := hw
    obtain ⟨hP1, hD1⟩ := hB
    rw [ht] at hP1
    obtain ⟨hP, hD⟩ := va_join (wr := [3].filterMap (fun i => (wd_X0 a ca u ++ ([(a1, .inl (ca1, n1, .inl u1))]))[i]?)) (w1 := (wd_X0 a ca u)) hP hD [0, 1, 2] [3] rfl rfl (by decide) (by decide) hk1 hFc hP1 hD1
    replace hP : va_P (dC, dI) vwCl (wd_X0 a ca u ++ ([(a1, .inl (ca1, n1, .inl u1))])) H1 := (hP.sub [1, 2, 3, 0] rfl)
    replace hD : va_D A (wd_X0 a ca u ++ ([(a1, .inl (ca1, n1, .inl u1))])) := (hD.sub [1, 2, 3, 0] (by decide) rfl)
    generalize H1 = H at hP hS ⊢
    refine lv_if_ne (tgt := 56) hx hb dX0_canHaveAll_51 (by decide) (fun hc_10 => ?_) (fun hc_10 => ?_)
    · replace h := h.1 hc_10
      refine lv_iinc (v := (v4_2 + 1)) (lv' := [(4, .int (v4_2 + 1)), (5, .int (x2 + (v4_2 * 5))), (0, .ref (a 0)), (1, .ref a1), (2, .int x2), (3, .int x3)]) hx hb dX0_canHaveAll_56 hl (k := 1) rfl rfl (by decide) rfl (fun ls hl => ?_)
      refine lv_goto (tgt := 3) hx hb dX0_canHaveAll_59 (by decide) ?_
      exact ih_LL_1 _ h _ _ _ hP hD hS (lv_sub hl [0, 2, 3, 4, 5] rfl)
    · replace h := h.2 hc_10
      refine lv_iconst (v := 0) hx hb dX0_canHaveAll_54 (by decide) ?_
      subst hQ
      exact W.zret (v := 0) hx hb hr (by rfl) (fun t ht hW => ⟨⟨_, (), rfl, h, by rw [ht]; exact hP, hD⟩, hS.F ht⟩) hS.2.2 dX0_canHaveAll_55
abbrev rm_X0_add : Room := { frames := 0, cells := 0, slots := 0, locals := 0 }
set_option maxHeartbeats 4000000 in
set_option maxRecDepth 100000 in
theorem c_X0_add (l : Launch) (dC : Nat → ClassId) (dI : Nat → Nat → Nat) (a : Nat → Nat) (ca : Nat → ClassId) (sz : Nat) (u : Ob) (x1 : Int32) (x2 : Int32) (x3 : Int32) (x4 : Int32) (x5 : Int32) (post : Ob → Prop) (h : wp_X0_add u x1 x2 x3 x4 x5 post) : Met l yX0_add wsX0_add rm_X0_add (va_Pc [.ref (a 0), .int x1, .int x2, .int x3, .int x4, .int x5] (fun U => U.heap.size = sz ∧ va_P (dC, dI) vwCl (wd_X0 a ca u) U.heap ∧ va_K (dC, dI) vwCl (ty_X0 ca) U ∧ va_D (fun _ => True) (wd_X0 a ca u))) (va_Qv post (fun (zz : Ob) (t : State) => va_P (dC, dI) vwCl (wd_X0 a ca zz) t.heap ∧ va_D (va_A (wd_X0 a ca u) sz) (wd_X0 a ca zz)) (va_A (wd_X0 a ca u) sz)) 0 0 (va_A (wd_X0 a ca u) sz) := by
  refine fl_ofW (cc := cX0_add) (maxL := 7) (ret := none) (by decide) rfl ?_
  intro p e s m args below meth c s₁ Q B hml hv hQ
  obtain ⟨hargs, hsz, hP, hK, hD0⟩ := hv
  have hx := B.exec
  have hb := B.bytes
  have hr := B.returns
  have hts := atoms_spec (ws := wsX0_add) B.pre
  have hown : s.vm.findClass RX0 = some m.cls := findClass_of_methodNamed B.named
  subst hsz
  have hD := hD0.self (sz := s.heap.size)
  generalize hAe : va_A (wd_X0 a ca u) s.heap.size = A at hD hQ
  have hA : ∀ q : Nat, s.heap.size ≤ q → A q := fun q h => by rw [← hAe]; exact Or.inr h
  have hS : va_S A s.heap s.heap [] := va_S.rf
  have hl := lv_entry ([.ref (a 0), .int x1, .int x2, .int x3, .int x4, .int x5]) (n := 7) (Nat.le_of_ble_eq_true rfl)
  refine W.eq (g2 := F0 m 0 ((lg_sl ([.ref (a 0), .int x1, .int x2, .int x3, .int x4, .int x5]) ++ List.replicate (7 - (lg_sl ([.ref (a 0), .int x1, .int x2, .int x3, .int x4, .int x5])).length) Slot.unset).toArray) []) (by rw [hargs]; exact lg_entry_eq m _ 7) ?_
  generalize (lg_sl ([.ref (a 0), .int x1, .int x2, .int x3, .int x4, .int x5]) ++ List.replicate (7 - (lg_sl ([.ref (a 0), .int x1, .int x2, .int x3, .int x4, .int x5])).length) Slot.unset).toArray = ls at hl ⊢
  have hl : lv_has ls 7 [(0, .ref (a 0)), (1, .int x1), (2, .int x2), (3, .int x3), (4, .int x4), (5, .int x5)] := hl
  suffices hstart : ∀ (H : Heap) (locs : List Loc) (ls : Array Slot), va_P (dC, dI) vwCl (wd_X0 a ca u) H → va_D A (wd_X0 a ca u) → va_S A s.heap H locs → lv_has ls 7 [(0, .ref (a 0)), (1, .int x1), (2, .int x2), (3, .int x3), (4, .int x4), (5, .int x5)] → W p l e (headSpec wsX0_add rm_X0_add).room s m args below meth c H locs 0 0 Q (F0 m 0 ls []) from hstart _ _ _ hP hD hS hl
  clear hS hP hD hD0
  intro H locs ls hP hD hS hl
  have hin_X0 : ∀ w ∈ wsX00, w ∈ wsX0_add := by decide +kernel
  have lk_0 := hts (.fieldLink RX0 31 "ForgettingLines$Machine" "count" "I") (by decide +kernel)
  have lk_1 := hts (.fieldLink RX0 19 "ForgettingLines$Machine" "rows" "[I") (by decide +kernel)
  unfold wp_X0_add at h
  refine lv_aload_n hx hb dX0_add_0 rfl (lv_at hl 0 rfl) ?_
  refine va_get (D := (dC, dI)) (ci := 0) (v := .int (u.1 1)) (C := RX0) (T := TX0) (N := 4) hx hb hts hin_X0 hown hK hP 0 rfl rfl 1 (by decide) lk_0 (fun _ h9 => h9) rfl dX0_add_1 ?_
  refine lv_iconst (v := 5) hx hb dX0_add_4 (by decide) ?_
  refine lv_imul hx hb dX0_add_5 ?_
  refine lv_istore (lv' := [(6, .int ((u.1 1) * 5)), (0, .ref (a 0)), (1, .int x1), (2, .int x2), (3, .int x3), (4, .int x4), (5, .int x5)]) hx hb dX0_add_6 hl (by decide) rfl (fun ls hl => ?_)
  refine lv_aload_n hx hb dX0_add_8 rfl (lv_at hl 1 rfl) ?_
  refine va_get (D := (dC, dI)) (ci := 0) (v := .ref (a 4)) (C := RX0) (T := TX0) (N := 4) hx hb hts hin_X0 hown hK hP 0 rfl rfl 3 (by decide) lk_1 (fun _ h9 => h9) rfl dX0_add_9 ?_
  refine lv_iload hx hb dX0_add_12 (lv_at hl 0 rfl) ?_
  refine lv_iconst (v := 0) hx hb dX0_add_14 (by decide) ?_
  refine lv_iadd hx hb dX0_add_15 ?_
  refine lv_iload_n hx hb dX0_add_16 rfl (lv_at hl 2 rfl) ?_
  obtain ⟨hi_1, h⟩ := h
  refine va_iast (D := (dC, dI)) (cl := vwCl) (i := (((u.1 1) * 5) + 0)) hx hb hK hP hD hS 2 1 rfl rfl hi_1 dX0_add_17 (fun H locs hP hD hS => ?_)
  obtain ⟨u_2, eu_2⟩ : ∃ z : Ob, z = fs_a u 3 (upd (u.2.1 3) (((u.1 1) * 5) + 0).toNatClampNeg x1) := ⟨_, rfl⟩
  replace h := h u_2 eu_2
  replace hP : va_P (dC, dI) vwCl (wd_X0 a ca u_2) H := by rw [eu_2]; exact hP
  replace hD : va_D A (wd_X0 a ca u_2) := by rw [eu_2]; exact hD
  refine lv_aload_n hx hb dX0_add_18 rfl (lv_at hl 1 rfl) ?_
  refine va_get (D := (dC, dI)) (ci := 0) (v := .ref (a 4)) (C := RX0) (T := TX0) (N := 4) hx hb hts hin_X0 hown hK hP 0 rfl rfl 3 (by decide) lk_1 (fun _ h9 => h9) rfl dX0_add_19 ?_
  refine lv_iload hx hb dX0_add_22 (lv_at hl 0 rfl) ?_
  refine lv_iconst (v := 1) hx hb dX0_add_24 (by decide) ?_
  refine lv_iadd hx hb dX0_add_25 ?_
  refine lv_iload_n hx hb dX0_add_26 rfl (lv_at hl 3 rfl) ?_
  obtain ⟨hi_3, h⟩ := h
  refine va_iast (D := (dC, dI)) (cl := vwCl) (i := (((u.1 1) * 5) + 1)) hx hb hK hP hD hS 2 1 rfl rfl hi_3 dX0_add_27 (fun H locs hP hD hS => ?_)
  obtain ⟨u_4, eu_4⟩ : ∃ z : Ob, z = fs_a u_2 3 (upd (u_2.2.1 3) (((u.1 1) * 5) + 1).toNatClampNeg x2) := ⟨_, rfl⟩
  replace h := h u_4 eu_4
  replace hP : va_P (dC, dI) vwCl (wd_X0 a ca u_4) H := by rw [eu_4]; exact hP
  replace hD : va_D A (wd_X0 a ca u_4) := by rw [eu_4]; exact hD
  refine lv_aload_n hx hb dX0_add_28 rfl (lv_at hl 1 rfl) ?_
  refine va_get (D := (dC, dI)) (ci := 0) (v := .ref (a 4)) (C := RX0) (T := TX0) (N := 4) hx hb hts hin_X0 hown hK hP 0 rfl rfl 3 (by decide) lk_1 (fun _ h9 => h9) rfl dX0_add_29 ?_
  refine lv_iload hx hb dX0_add_32 (lv_at hl 0 rfl) ?_
  refine lv_iconst (v := 2) hx hb dX0_add_34 (by decide) ?_
  refine lv_iadd hx hb dX0_add_35 ?_
  refine lv_iload_n hx hb dX0_add_36 rfl (lv_at hl 3 rfl) ?_
  refine jn1_ind (GG := (fun (w_6 : Int32) => ∀ (H : Heap) (locs : List Loc) (ls : Array Slot), va_P (dC, dI) vwCl (wd_X0 a ca u_4) H → va_D A (wd_X0 a ca u_4) → va_S A s.heap H locs → lv_has ls 7 [(6, .int ((u.1 1) * 5)), (0, .ref (a 0)), (2, .int x2), (4, .int x4), (5, .int x5)] → W p l e (headSpec wsX0_add rm_X0_add).room s m args below meth c H locs 0 0 Q (F0 m 45 ls [.int w_6, .int (((u.1 1) * 5) + 2), .ref (a 4)]))) h (fun w_6 h H locs ls hP hD hS hl => ?_) (fun JJ_5 ih_JJ_5 h => ?_)
  · obtain ⟨hi_7, h⟩ := h
    refine va_iast (D := (dC, dI)) (cl := vwCl) (i := (((u.1 1) * 5) + 2)) hx hb hK hP hD hS 2 1 rfl rfl hi_7 dX0_add_45 (fun H locs hP hD hS => ?_)
    obtain ⟨u_8, eu_8⟩ : ∃ z : Ob, z = fs_a u_4 3 (upd (u_4.2.1 3) (((u.1 1) * 5) + 2).toNatClampNeg w_6) := ⟨_, rfl⟩
    replace h := h u_8 eu_8
    replace hP : va_P (dC, dI) vwCl (wd_X0 a ca u_8) H := by rw [eu_8]; exact hP
    replace hD : va_D A (wd_X0 a ca u_8) := by rw [eu_8]; exact hD
    refine lv_aload_n hx hb dX0_add_46 rfl (lv_at hl 1 rfl) ?_
    refine va_get (D := (dC, dI)) (ci := 0) (v := .ref (a 4)) (C := RX0) (T := TX0) (N := 4) hx hb hts hin_X0 hown hK hP 0 rfl rfl 3 (by decide) lk_1 (fun _ h9 => h9) rfl dX0_add_47 ?_
    refine lv_iload hx hb dX0_add_50 (lv_at hl 0 rfl) ?_
    refine lv_iconst (v := 3) hx hb dX0_add_52 (by decide) ?_
    refine lv_iadd hx hb dX0_add_53 ?_
    refine lv_iload_n hx hb dX0_add_54 rfl (lv_at hl 2 rfl) ?_
    refine jn1_ind (GG := (fun (w_10 : Int32) => ∀ (H : Heap) (locs : List Loc) (ls : Array Slot), va_P (dC, dI) vwCl (wd_X0 a ca u_8) H → va_D A (wd_X0 a ca u_8) → va_S A s.heap H locs → lv_has ls 7 [(6, .int ((u.1 1) * 5)), (0, .ref (a 0)), (5, .int x5)] → W p l e (headSpec wsX0_add rm_X0_add).room s m args below meth c H locs 0 0 Q (F0 m 64 ls [.int w_10, .int (((u.1 1) * 5) + 3), .ref (a 4)]))) h (fun w_10 h H locs ls hP hD hS hl => ?_) (fun JJ_9 ih_JJ_9 h => ?_)
    · obtain ⟨hi_11, h⟩ := h
      refine va_iast (D := (dC, dI)) (cl := vwCl) (i := (((u.1 1) * 5) + 3)) hx hb hK hP hD hS 2 1 rfl rfl hi_11 dX0_add_64 (fun H locs hP hD hS => ?_)
      obtain ⟨u_12, eu_12⟩ : ∃ z : Ob, z = fs_a u_8 3 (upd (u_8.2.1 3) (((u.1 1) * 5) + 3).toNatClampNeg w_10) := ⟨_, rfl⟩
      replace h := h u_12 eu_12
      replace hP : va_P (dC, dI) vwCl (wd_X0 a ca u_12) H := by rw [eu_12]; exact hP
      replace hD : va_D A (wd_X0 a ca u_12) := by rw [eu_12]; exact hD
      refine lv_aload_n hx hb dX0_add_65 rfl (lv_at hl 1 rfl) ?_
      refine va_get (D := (dC, dI)) (ci := 0) (v := .ref (a 4)) (C := RX0) (T := TX0) (N := 4) hx hb hts hin_X0 hown hK hP 0 rfl rfl 3 (by decide) lk_1 (fun _ h9 => h9) rfl dX0_add_66 ?_
      refine lv_iload hx hb dX0_add_69 (lv_at hl 0 rfl) ?_
      refine lv_iconst (v := 4) hx hb dX0_add_71 (by decide) ?_
      refine lv_iadd hx hb dX0_add_72 ?_
      refine lv_iload hx hb dX0_add_73 (lv_at hl 2 rfl) ?_
      obtain ⟨hi_13, h⟩ := h
      refine va_iast (D := (dC, dI)) (cl := vwCl) (i := (((u.1 1) * 5) + 4)) hx hb hK hP hD hS 2 1 rfl rfl hi_13 dX0_add_75 (fun H locs hP hD hS => ?_)
      obtain ⟨u_14, eu_14⟩ : ∃ z : Ob, z = fs_a u_12 3 (upd (u_12.2.1 3) (((u.1 1) * 5) + 4).toNatClampNeg x5) := ⟨_, rfl⟩
      replace h := h u_14 eu_14
      replace hP : va_P (dC, dI) vwCl (wd_X0 a ca u_14) H := by rw [eu_14]; exact hP
      replace hD : va_D A (wd_X0 a ca u_14) := by rw [eu_14]; exact hD
      refine lv_aload_n hx hb dX0_add_76 rfl (lv_at hl 1 rfl) ?_
      refine lv_dup hx hb dX0_add_77 rfl ?_
      refine va_get (D := (dC, dI)) (ci := 0) (v := .int (u_14.1 1)) (C := RX0) (T := TX0) (N := 4) hx hb hts hin_X0 hown hK hP 0 rfl rfl 1 (by decide) lk_0 (fun _ h9 => h9) rfl dX0_add_78 ?_
      refine lv_iconst (v := 1) hx hb dX0_add_81 (by decide) ?_
      refine lv_iadd hx hb dX0_add_82 ?_
      refine va_put (D := (dC, dI)) (ci := 0) (v := .int ((u_14.1 1) + 1)) (ty := .int) (C := RX0) (T := TX0) (N := 4) hx hb hts hin_X0 tyX0 tyX0_ok nmX0 hown hK hP hD hS 0 rfl rfl 1 (by decide) lk_0 (fun _ h9 => h9) rfl (by decide +kernel) rfl rfl (Nat.le_of_ble_eq_true rfl) dX0_add_83 (fun H locs hP hD hS => ?_)
      obtain ⟨u_15, eu_15⟩ : ∃ z : Ob, z = fs_i u_14 1 ((u_14.1 1) + 1) := ⟨_, rfl⟩
      replace h := h u_15 eu_15
      replace hP : va_P (dC, dI) vwCl (wd_X0 a ca u_15) H := by rw [eu_15]; exact hP
      replace hD : va_D A (wd_X0 a ca u_15) := by rw [eu_15]; exact hD
      subst hQ
      exact W.vret hx hb hr (fun t ht hW => ⟨⟨u_15, rfl, h, by rw [ht]; exact hP, hD⟩, hS.F ht⟩) hS.2.2 dX0_add_86
    · refine lv_if_ne (tgt := 62) hx hb dX0_add_55 (by decide) (fun hc_16 => ?_) (fun hc_16 => ?_)
      · replace h := h.1 hc_16
        refine lv_iload hx hb dX0_add_62 (lv_at hl 3 rfl) ?_
        exact ih_JJ_9 _ h _ _ _ hP hD hS (lv_sub hl [0, 1, 4] rfl)
      · replace h := h.2 hc_16
        refine lv_iconst (v := 0) hx hb dX0_add_58 (by decide) ?_
        refine lv_goto (tgt := 64) hx hb dX0_add_59 (by decide) ?_
        exact ih_JJ_9 _ h _ _ _ hP hD hS (lv_sub hl [0, 1, 4] rfl)
  · refine lv_if_ne (tgt := 44) hx hb dX0_add_37 (by decide) (fun hc_17 => ?_) (fun hc_17 => ?_)
    · replace h := h.1 hc_17
      refine lv_iload_n hx hb dX0_add_44 rfl (lv_at hl 4 rfl) ?_
      exact ih_JJ_5 _ h _ _ _ hP hD hS (lv_sub hl [0, 1, 3, 5, 6] rfl)
    · replace h := h.2 hc_17
      refine lv_iconst (v := 0) hx hb dX0_add_40 (by decide) ?_
      refine lv_goto (tgt := 45) hx hb dX0_add_41 (by decide) ?_
      exact ih_JJ_5 _ h _ _ _ hP hD hS (lv_sub hl [0, 1, 3, 5, 6] rfl)
abbrev rm_X0_addAll : Room := { frames := 1, cells := 0, slots := 0, locals := 26 }
set_option maxHeartbeats 4000000 in
set_option maxRecDepth 100000 in
theorem c_X0_addAll (l : Launch) (dC : Nat → ClassId) (dI : Nat → Nat → Nat) (a : Nat → Nat) (ca : Nat → ClassId) (a1 : Nat) (ca1 : ClassId) (n1 : Nat) (sz : Nat) (u : Ob) (u1 : Nat → Int32) (x2 : Int32) (x3 : Int32) (post : Ob → Prop) (h : wp_X0_addAll u n1 u1 x2 x3 post) : Met l yX0_addAll wsX0_addAll rm_X0_addAll (va_Pc [.ref (a 0), .ref a1, .int x2, .int x3] (fun U => U.heap.size = sz ∧ va_P (dC, dI) vwCl (wd_X0 a ca u ++ ([(a1, .inl (ca1, n1, .inl u1))])) U.heap ∧ va_K (dC, dI) vwCl (ty_X0 ca ++ ([(ca1, .int)])) U ∧ va_D (fun _ => True) (wd_X0 a ca u ++ ([(a1, .inl (ca1, n1, .inl u1))])))) (va_Qv post (fun (zz : Ob) (t : State) => va_P (dC, dI) vwCl (wd_X0 a ca zz ++ ([(a1, .inl (ca1, n1, .inl u1))])) t.heap ∧ va_D (va_A (wd_X0 a ca u ++ ([(a1, .inl (ca1, n1, .inl u1))])) sz) (wd_X0 a ca zz ++ ([(a1, .inl (ca1, n1, .inl u1))]))) (va_A (wd_X0 a ca u ++ ([(a1, .inl (ca1, n1, .inl u1))])) sz)) 0 0 (va_A (wd_X0 a ca u ++ ([(a1, .inl (ca1, n1, .inl u1))])) sz) := by
  refine fl_ofW (cc := cX0_addAll) (maxL := 6) (ret := none) (by decide) rfl ?_
  intro p e s m args below meth c s₁ Q B hml hv hQ
  obtain ⟨hargs, hsz, hP, hK, hD0⟩ := hv
  have hx := B.exec
  have hb := B.bytes
  have hr := B.returns
  have hts := atoms_spec (ws := wsX0_addAll) B.pre
  have hown : s.vm.findClass RX0 = some m.cls := findClass_of_methodNamed B.named
  subst hsz
  have hD := hD0.self (sz := s.heap.size)
  generalize hAe : va_A (wd_X0 a ca u ++ ([(a1, .inl (ca1, n1, .inl u1))])) s.heap.size = A at hD hQ
  have hA : ∀ q : Nat, s.heap.size ≤ q → A q := fun q h => by rw [← hAe]; exact Or.inr h
  have hS : va_S A s.heap s.heap [] := va_S.rf
  have hl := lv_entry ([.ref (a 0), .ref a1, .int x2, .int x3]) (n := 6) (Nat.le_of_ble_eq_true rfl)
  refine W.eq (g2 := F0 m 0 ((lg_sl ([.ref (a 0), .ref a1, .int x2, .int x3]) ++ List.replicate (6 - (lg_sl ([.ref (a 0), .ref a1, .int x2, .int x3])).length) Slot.unset).toArray) []) (by rw [hargs]; exact lg_entry_eq m _ 6) ?_
  generalize (lg_sl ([.ref (a 0), .ref a1, .int x2, .int x3]) ++ List.replicate (6 - (lg_sl ([.ref (a 0), .ref a1, .int x2, .int x3])).length) Slot.unset).toArray = ls at hl ⊢
  have hl : lv_has ls 6 [(0, .ref (a 0)), (1, .ref a1), (2, .int x2), (3, .int x3)] := hl
  suffices hstart : ∀ (H : Heap) (locs : List Loc) (ls : Array Slot), va_P (dC, dI) vwCl (wd_X0 a ca u ++ ([(a1, .inl (ca1, n1, .inl u1))])) H → va_D A (wd_X0 a ca u ++ ([(a1, .inl (ca1, n1, .inl u1))])) → va_S A s.heap H locs → lv_has ls 6 [(0, .ref (a 0)), (1, .ref a1), (2, .int x2), (3, .int x3)] → W p l e (headSpec wsX0_addAll rm_X0_addAll).room s m args below meth c H locs 0 0 Q (F0 m 0 ls []) from hstart _ _ _ hP hD hS hl
  clear hS hP hD hD0
  intro H locs ls hP hD hS hl
  unfold wp_X0_addAll at h
  refine lv_iconst (v := 0) hx hb dX0_addAll_0 (by decide) ?_
  refine lv_istore (lv' := [(4, .int 0), (0, .ref (a 0)), (1, .ref a1), (2, .int x2), (3, .int x3)]) hx hb dX0_addAll_1 hl (by decide) rfl (fun ls hl => ?_)
  obtain ⟨n_11, h⟩ := h
  refine lq2_ind (GG := (fun (v4_2 : Int32) (u_3 : Ob) => ∀ (H : Heap) (locs : List Loc) (ls : Array Slot), va_P (dC, dI) vwCl (wd_X0 a ca u_3 ++ ([(a1, .inl (ca1, n1, .inl u1))])) H → va_D A (wd_X0 a ca u_3 ++ ([(a1, .inl (ca1, n1, .inl u1))])) → va_S A s.heap H locs → lv_has ls 6 [(4, .int v4_2), (0, .ref (a 0)), (1, .ref a1), (2, .int x2), (3, .int x3)] → W p l e (headSpec wsX0_addAll rm_X0_addAll).room s m args below meth c H locs 0 0 Q (F0 m 3 ls []))) (fun LL_1 ih_LL_1 v4_2 u_3 h H locs ls hP hD hS hl => ?_) n_11 _ _ h _ _ _ hP hD hS (lv_sub hl [0, 1, 2, 3, 4] rfl)
  refine lv_iload hx hb dX0_addAll_3 (lv_at hl 0 rfl) ?_
  refine lv_iload_n hx hb dX0_addAll_5 rfl (lv_at hl 4 rfl) ?_
  refine lv_icmp_ge (tgt := 57) hx hb dX0_addAll_6 (by decide) (fun hc_4 => ?_) (fun hc_4 => ?_)
  · replace h := h.1 hc_4
    subst hQ
    exact W.vret hx hb hr (fun t ht hW => ⟨⟨u_3, rfl, h, by rw [ht]; exact hP, hD⟩, hS.F ht⟩) hS.2.2 dX0_addAll_57
  · replace h := h.2 hc_4
    refine lv_iload_n hx hb dX0_addAll_9 rfl (lv_at hl 3 rfl) ?_
    refine lv_iload hx hb dX0_addAll_10 (lv_at hl 0 rfl) ?_
    refine lv_iconst (v := 5) hx hb dX0_addAll_12 (by decide) ?_
    refine lv_imul hx hb dX0_addAll_13 ?_
    refine lv_iadd hx hb dX0_addAll_14 ?_
    refine lv_istore (lv' := [(5, .int (x2 + (v4_2 * 5))), (4, .int v4_2), (0, .ref (a 0)), (1, .ref a1), (2, .int x2), (3, .int x3)]) hx hb dX0_addAll_15 hl (by decide) rfl (fun ls hl => ?_)
    refine lv_aload_n hx hb dX0_addAll_17 rfl (lv_at hl 2 rfl) ?_
    refine lv_aload_n hx hb dX0_addAll_18 rfl (lv_at hl 3 rfl) ?_
    refine lv_iload hx hb dX0_addAll_19 (lv_at hl 0 rfl) ?_
    refine lv_iconst (v := 0) hx hb dX0_addAll_21 (by decide) ?_
    refine lv_iadd hx hb dX0_addAll_22 ?_
    obtain ⟨hi_5, h⟩ := h
    refine va_iald (D := (dC, dI)) (cl := vwCl) (i := ((x2 + (v4_2 * 5)) + 0)) hx hb hK hP 3 2 rfl rfl hi_5 dX0_addAll_23 ?_
    refine lv_aload_n hx hb dX0_addAll_24 rfl (lv_at hl 3 rfl) ?_
    refine lv_iload hx hb dX0_addAll_25 (lv_at hl 0 rfl) ?_
    refine lv_iconst (v := 1) hx hb dX0_addAll_27 (by decide) ?_
    refine lv_iadd hx hb dX0_addAll_28 ?_
    obtain ⟨hi_6, h⟩ := h
    refine va_iald (D := (dC, dI)) (cl := vwCl) (i := ((x2 + (v4_2 * 5)) + 1)) hx hb hK hP 3 2 rfl rfl hi_6 dX0_addAll_29 ?_
    refine lv_aload_n hx hb dX0_addAll_30 rfl (lv_at hl 3 rfl) ?_
    refine lv_iload hx hb dX0_addAll_31 (lv_at hl 0 rfl) ?_
    refine lv_iconst (v := 2) hx hb dX0_addAll_33 (by decide) ?_
    refine lv_iadd hx hb dX0_addAll_34 ?_
    obtain ⟨hi_7, h⟩ := h
    refine va_iald (D := (dC, dI)) (cl := vwCl) (i := ((x2 + (v4_2 * 5)) + 2)) hx hb hK hP 3 2 rfl rfl hi_7 dX0_addAll_35 ?_
    refine lv_aload_n hx hb dX0_addAll_36 rfl (lv_at hl 3 rfl) ?_
    refine lv_iload hx hb dX0_addAll_37 (lv_at hl 0 rfl) ?_
    refine lv_iconst (v := 3) hx hb dX0_addAll_39 (by decide) ?_
    refine lv_iadd hx hb dX0_addAll_40 ?_
    obtain ⟨hi_8, h⟩ := h
    refine va_iald (D := (dC, dI)) (cl := vwCl) (i := ((x2 + (v4_2 * 5)) + 3)) hx hb hK hP 3 2 rfl rfl hi_8 dX0_addAll_41 ?_
    refine lv_aload_n hx hb dX0_addAll_42 rfl (lv_at hl 3 rfl) ?_
    refine lv_iload hx hb dX0_addAll_43 (lv_at hl 0 rfl) ?_
    refine lv_iconst (v := 4) hx hb dX0_addAll_45 (by decide) ?_
    refine lv_iadd hx hb dX0_addAll_46 ?_
    obtain ⟨hi_9, h⟩ := h
    refine va_iald (D := (dC, dI)) (cl := vwCl) (i := ((x2 + (v4_2 * 5)) + 4)) hx hb hK hP 3 2 rfl rfl hi_9 dX0_addAll_47 ?_
    have hPc := hP.sub (ws' := (wd_X0 a ca u_3)) [0, 1, 2] rfl
    have hDc := hD.sub (ws' := (wd_X0 a ca u_3)) [0, 1, 2] (by decide) rfl
    have hKc := hK.sub (tys' := (ty_X0 ca)) [0, 1] rfl
    have hFc := va_free (wc := (wd_X0 a ca u_3)) hD hS hA [0, 1, 2] rfl
    refine va_callv (va_runV (As := [.int (u1 ((x2 + (v4_2 * 5)) + 0).toNatClampNeg), .int (u1 ((x2 + (v4_2 * 5)) + 1).toNatClampNeg), .int (u1 ((x2 + (v4_2 * 5)) + 2).toNatClampNeg), .int (u1 ((x2 + (v4_2 * 5)) + 3).toNatClampNeg), .int (u1 ((x2 + (v4_2 * 5)) + 4).toNatClampNeg)]) (rest := []) ⟨hx, hb, hml, hown, hts⟩ (c_X0_add l dC dI a ca H.size u_3 (u1 ((x2 + (v4_2 * 5)) + 0).toNatClampNeg) (u1 ((x2 + (v4_2 * 5)) + 1).toNatClampNeg) (u1 ((x2 + (v4_2 * 5)) + 2).toNatClampNeg) (u1 ((x2 + (v4_2 * 5)) + 3).toNatClampNeg) (u1 ((x2 + (v4_2 * 5)) + 4).toNatClampNeg) _ h) (cwV 5 hts gX0_addAll_X0_add rfl rfl rfl (by decide +kernel) ⟨Nat.le_of_ble_eq_true rfl, Nat.le_of_ble_eq_true rfl⟩) ⟨fun a U g mk q => by obtain ⟨q0, q1, qP, qK, qD⟩ := q; exact ⟨q0, q1, qP, va_K.moved (u := U) (U := U.calling g mk a) (Vm.Alike.refl U.vm) qK, qD⟩, va_recv hKc hPc (ci := 0) (q0 := 0) rfl rfl, fun U hU hW => ⟨rfl, by rw [hU], by rw [hU]; exact hPc, va_K.moved hW.alike hKc, hDc.weaken (fun _ _ _ _ => trivial)⟩⟩ rfl rfl hl.1 rfl (lv_room (Nat.le_of_ble_eq_true rfl)) dX0_addAll_48 ⟨Nat.zero_le _, Nat.zero_le _⟩) hS (fun q _ h => hFc q h) hFc (fun zz t H1 locs ht hvm hw hB hz1 hk1 hS => ?_)
    obtain ⟨u_10, rfl⟩ : ∃ z, z = zz := ⟨_, rfl⟩
    replace h := hw
    obtain ⟨hP1, hD1⟩ := hB
    rw [ht] at hP1
    obtain ⟨hP, hD⟩ := va_join (wr := [3].filterMap (fun i => (wd_X0 a ca u_3 ++ ([(a1, .inl (ca1, n1, .inl u1))]))[i]?)) (w1 := (wd_X0 a ca u_10)) hP hD [0, 1, 2] [3] rfl rfl (by decide) (by decide) hk1 hFc hP1 hD1
    replace hP : va_P (dC, dI) vwCl (wd_X0 a ca u_10 ++ ([(a1, .inl (ca1, n1, .inl u1))])) H1 := (hP.sub [1, 2, 3, 0] rfl)
    replace hD : va_D A (wd_X0 a ca u_10 ++ ([(a1, .inl (ca1, n1, .inl u1))])) := (hD.sub [1, 2, 3, 0] (by decide) rfl)
    generalize H1 = H at hP hS ⊢
    refine lv_iinc (v := (v4_2 + 1)) (lv' := [(4, .int (v4_2 + 1)), (5, .int (x2 + (v4_2 * 5))), (0, .ref (a 0)), (1, .ref a1), (2, .int x2), (3, .int x3)]) hx hb dX0_addAll_51 hl (k := 1) rfl rfl (by decide) rfl (fun ls hl => ?_)
    refine lv_goto (tgt := 3) hx hb dX0_addAll_54 (by decide) ?_
    exact ih_LL_1 _ _ h _ _ _ hP hD hS (lv_sub hl [0, 2, 3, 4, 5] rfl)
abbrev rm_X0_replace : Room := { frames := 2, cells := 0, slots := 0, locals := 51 }
set_option maxHeartbeats 4000000 in
set_option maxRecDepth 100000 in
theorem c_X0_replace (l : Launch) (dC : Nat → ClassId) (dI : Nat → Nat → Nat) (a : Nat → Nat) (ca : Nat → ClassId) (a1 : Nat) (ca1 : ClassId) (n1 : Nat) (sz : Nat) (u : Ob) (u1 : Nat → Int32) (x2 : Int32) (post : Ob → Prop) (h : wp_X0_replace u n1 u1 x2 post) : Met l yX0_replace wsX0_replace rm_X0_replace (va_Pc [.ref (a 0), .ref a1, .int x2] (fun U => U.heap.size = sz ∧ va_P (dC, dI) vwCl (wd_X0 a ca u ++ ([(a1, .inl (ca1, n1, .inl u1))])) U.heap ∧ va_K (dC, dI) vwCl (ty_X0 ca ++ ([(ca1, .int)])) U ∧ va_D (fun _ => True) (wd_X0 a ca u ++ ([(a1, .inl (ca1, n1, .inl u1))])))) (va_Qv post (fun (zz : Ob) (t : State) => va_P (dC, dI) vwCl (wd_X0 a ca zz ++ ([(a1, .inl (ca1, n1, .inl u1))])) t.heap ∧ va_D (va_A (wd_X0 a ca u ++ ([(a1, .inl (ca1, n1, .inl u1))])) sz) (wd_X0 a ca zz ++ ([(a1, .inl (ca1, n1, .inl u1))]))) (va_A (wd_X0 a ca u ++ ([(a1, .inl (ca1, n1, .inl u1))])) sz)) 0 0 (va_A (wd_X0 a ca u ++ ([(a1, .inl (ca1, n1, .inl u1))])) sz) := by
  refine fl_ofW (cc := cX0_replace) (maxL := 3) (ret := none) (by decide) rfl ?_
  intro p e s m args below meth c s₁ Q B hml hv hQ
  obtain ⟨hargs, hsz, hP, hK, hD0⟩ := hv
  have hx := B.exec
  have hb := B.bytes
  have hr := B.returns
  have hts := atoms_spec (ws := wsX0_replace) B.pre
  have hown : s.vm.findClass RX0 = some m.cls := findClass_of_methodNamed B.named
  subst hsz
  have hD := hD0.self (sz := s.heap.size)
  generalize hAe : va_A (wd_X0 a ca u ++ ([(a1, .inl (ca1, n1, .inl u1))])) s.heap.size = A at hD hQ
  have hA : ∀ q : Nat, s.heap.size ≤ q → A q := fun q h => by rw [← hAe]; exact Or.inr h
  have hS : va_S A s.heap s.heap [] := va_S.rf
  have hl := lv_entry ([.ref (a 0), .ref a1, .int x2]) (n := 3) (Nat.le_of_ble_eq_true rfl)
  refine W.eq (g2 := F0 m 0 ((lg_sl ([.ref (a 0), .ref a1, .int x2]) ++ List.replicate (3 - (lg_sl ([.ref (a 0), .ref a1, .int x2])).length) Slot.unset).toArray) []) (by rw [hargs]; exact lg_entry_eq m _ 3) ?_
  generalize (lg_sl ([.ref (a 0), .ref a1, .int x2]) ++ List.replicate (3 - (lg_sl ([.ref (a 0), .ref a1, .int x2])).length) Slot.unset).toArray = ls at hl ⊢
  have hl : lv_has ls 3 [(0, .ref (a 0)), (1, .ref a1), (2, .int x2)] := hl
  suffices hstart : ∀ (H : Heap) (locs : List Loc) (ls : Array Slot), va_P (dC, dI) vwCl (wd_X0 a ca u ++ ([(a1, .inl (ca1, n1, .inl u1))])) H → va_D A (wd_X0 a ca u ++ ([(a1, .inl (ca1, n1, .inl u1))])) → va_S A s.heap H locs → lv_has ls 3 [(0, .ref (a 0)), (1, .ref a1), (2, .int x2)] → W p l e (headSpec wsX0_replace rm_X0_replace).room s m args below meth c H locs 0 0 Q (F0 m 0 ls []) from hstart _ _ _ hP hD hS hl
  clear hS hP hD hD0
  intro H locs ls hP hD hS hl
  have hin_X0 : ∀ w ∈ wsX00, w ∈ wsX0_replace := by decide +kernel
  have lk_0 := hts (.fieldLink RX0 31 "ForgettingLines$Machine" "count" "I") (by decide +kernel)
  unfold wp_X0_replace at h
  refine lv_aload_n hx hb dX0_replace_0 rfl (lv_at hl 0 rfl) ?_
  refine lv_iconst (v := 0) hx hb dX0_replace_1 (by decide) ?_
  refine va_put (D := (dC, dI)) (ci := 0) (v := .int 0) (ty := .int) (C := RX0) (T := TX0) (N := 4) hx hb hts hin_X0 tyX0 tyX0_ok nmX0 hown hK hP hD hS 0 rfl rfl 1 (by decide) lk_0 (fun _ h9 => h9) rfl (by decide +kernel) rfl rfl (Nat.le_of_ble_eq_true rfl) dX0_replace_2 (fun H locs hP hD hS => ?_)
  obtain ⟨u_1, eu_1⟩ : ∃ z : Ob, z = fs_i u 1 0 := ⟨_, rfl⟩
  replace h := h u_1 eu_1
  replace hP : va_P (dC, dI) vwCl (wd_X0 a ca u_1 ++ ([(a1, .inl (ca1, n1, .inl u1))])) H := by rw [eu_1]; exact hP
  replace hD : va_D A (wd_X0 a ca u_1 ++ ([(a1, .inl (ca1, n1, .inl u1))])) := by rw [eu_1]; exact hD
  refine lv_aload_n hx hb dX0_replace_5 rfl (lv_at hl 0 rfl) ?_
  refine lv_aload_n hx hb dX0_replace_6 rfl (lv_at hl 1 rfl) ?_
  refine lv_iconst (v := 0) hx hb dX0_replace_7 (by decide) ?_
  refine lv_iload_n hx hb dX0_replace_8 rfl (lv_at hl 2 rfl) ?_
  have hPc := hP
  have hDc := hD
  have hKc := hK
  have hFc := va_free (wc := (wd_X0 a ca u_1 ++ ([(a1, .inl (ca1, n1, .inl u1))]))) hD hS hA [0, 1, 2, 3] rfl
  refine va_callv (va_runV (As := [.ref a1, .int 0, .int x2]) (rest := []) ⟨hx, hb, hml, hown, hts⟩ (c_X0_addAll l dC dI a ca a1 ca1 n1 H.size u_1 u1 0 x2 _ h) (cwV 3 hts gX0_replace_X0_addAll rfl rfl rfl (by decide +kernel) ⟨Nat.le_of_ble_eq_true rfl, Nat.le_of_ble_eq_true rfl⟩) ⟨fun a U g mk q => by obtain ⟨q0, q1, qP, qK, qD⟩ := q; exact ⟨q0, q1, qP, va_K.moved (u := U) (U := U.calling g mk a) (Vm.Alike.refl U.vm) qK, qD⟩, va_recv hKc hPc (ci := 0) (q0 := 0) rfl rfl, fun U hU hW => ⟨rfl, by rw [hU], by rw [hU]; exact hPc, va_K.moved hW.alike hKc, hDc.weaken (fun _ _ _ _ => trivial)⟩⟩ rfl rfl hl.1 rfl (lv_room (Nat.le_of_ble_eq_true rfl)) dX0_replace_9 ⟨Nat.zero_le _, Nat.zero_le _⟩) hS (fun q _ h => hFc q h) hFc (fun zz t H1 locs ht hvm hw hB hz1 hk1 hS => ?_)
  obtain ⟨u_2, rfl⟩ : ∃ z, z = zz := ⟨_, rfl⟩
  replace h := hw
  obtain ⟨hP1, hD1⟩ := hB
  rw [ht] at hP1
  replace hD : va_D A (wd_X0 a ca u_2 ++ ([(a1, .inl (ca1, n1, .inl u1))])) := hD1.weaken (fun _ _ _ h9 => hFc _ h9)
  replace hP : va_P (dC, dI) vwCl (wd_X0 a ca u_2 ++ ([(a1, .inl (ca1, n1, .inl u1))])) H1 := hP1
  generalize H1 = H at hP hS ⊢
  subst hQ
  exact W.vret hx hb hr (fun t ht hW => ⟨⟨u_2, rfl, h, by rw [ht]; exact hP, hD⟩, hS.F ht⟩) hS.2.2 dX0_replace_12
abbrev rm_X0_wordWith : Room := { frames := 1, cells := 0, slots := 0, locals := 24 }
set_option maxHeartbeats 4000000 in
set_option maxRecDepth 100000 in
theorem c_X0_wordWith (l : Launch) (dC : Nat → ClassId) (dI : Nat → Nat → Nat) (a : Nat → Nat) (ca : Nat → ClassId) (sz : Nat) (u : Ob) (x1 : Int32) (x2 : Int32) (x3 : Int32) (post : Int32 → Prop) (h : wp_X0_wordWith u x1 x2 x3 post) : Met l yX0_wordWith wsX0_wordWith rm_X0_wordWith (va_Pc [.ref (a 0), .int x1, .int x2, .int x3] (fun U => U.heap.size = sz ∧ va_P (dC, dI) vwCl (wd_X0 a ca u) U.heap ∧ va_K (dC, dI) vwCl (ty_X0 ca) U ∧ va_D (fun _ => True) (wd_X0 a ca u))) (va_Qi (fun (rr : Int32) (_ : Unit) => post rr) (fun (zz : Unit) (t : State) => va_P (dC, dI) vwCl (wd_X0 a ca u) t.heap ∧ va_D (va_A (wd_X0 a ca u) sz) (wd_X0 a ca u)) (va_A (wd_X0 a ca u) sz)) 0 0 (va_A (wd_X0 a ca u) sz) := by
  refine fl_ofW (cc := cX0_wordWith) (maxL := 5) (ret := (some .int)) (by decide) rfl ?_
  intro p e s m args below meth c s₁ Q B hml hv hQ
  obtain ⟨hargs, hsz, hP, hK, hD0⟩ := hv
  have hx := B.exec
  have hb := B.bytes
  have hr := B.returns
  have hts := atoms_spec (ws := wsX0_wordWith) B.pre
  have hown : s.vm.findClass RX0 = some m.cls := findClass_of_methodNamed B.named
  subst hsz
  have hD := hD0.self (sz := s.heap.size)
  generalize hAe : va_A (wd_X0 a ca u) s.heap.size = A at hD hQ
  have hA : ∀ q : Nat, s.heap.size ≤ q → A q := fun q h => by rw [← hAe]; exact Or.inr h
  have hS : va_S A s.heap s.heap [] := va_S.rf
  have hl := lv_entry ([.ref (a 0), .int x1, .int x2, .int x3]) (n := 5) (Nat.le_of_ble_eq_true rfl)
  refine W.eq (g2 := F0 m 0 ((lg_sl ([.ref (a 0), .int x1, .int x2, .int x3]) ++ List.replicate (5 - (lg_sl ([.ref (a 0), .int x1, .int x2, .int x3])).length) Slot.unset).toArray) []) (by rw [hargs]; exact lg_entry_eq m _ 5) ?_
  generalize (lg_sl ([.ref (a 0), .int x1, .int x2, .int x3]) ++ List.replicate (5 - (lg_sl ([.ref (a 0), .int x1, .int x2, .int x3])).length) Slot.unset).toArray = ls at hl ⊢
  have hl : lv_has ls 5 [(0, .ref (a 0)), (1, .int x1), (2, .int x2), (3, .int x3)] := hl
  suffices hstart : ∀ (H : Heap) (locs : List Loc) (ls : Array Slot), va_P (dC, dI) vwCl (wd_X0 a ca u) H → va_D A (wd_X0 a ca u) → va_S A s.heap H locs → lv_has ls 5 [(0, .ref (a 0)), (1, .int x1), (2, .int x2), (3, .int x3)] → W p l e (headSpec wsX0_wordWith rm_X0_wordWith).room s m args below meth c H locs 0 0 Q (F0 m 0 ls []) from hstart _ _ _ hP hD hS hl
  clear hS hP hD hD0
  intro H locs ls hP hD hS hl
  have hin_X0 : ∀ w ∈ wsX00, w ∈ wsX0_wordWith := by decide +kernel
  have lk_0 := hts (.fieldLink RX0 15 "ForgettingLines$Machine" "isBag" "[Z") (by decide +kernel)
  unfold wp_X0_wordWith at h
  refine lv_aload_n hx hb dX0_wordWith_0 rfl (lv_at hl 0 rfl) ?_
  refine va_get (D := (dC, dI)) (ci := 0) (v := .ref (a 3)) (C := RX0) (T := TX0) (N := 4) hx hb hts hin_X0 hown hK hP 0 rfl rfl 2 (by decide) lk_0 (fun _ h9 => h9) rfl dX0_wordWith_1 ?_
  refine lv_iload_n hx hb dX0_wordWith_4 rfl (lv_at hl 1 rfl) ?_
  obtain ⟨hi_1, h⟩ := h
  refine va_zald (D := (dC, dI)) (cl := vwCl) (i := x1) hx hb hK hP 1 0 rfl rfl hi_1 dX0_wordWith_5 ?_
  refine jn1_ind (GG := (fun (w_3 : Int32) => ∀ (H : Heap) (locs : List Loc) (ls : Array Slot), va_P (dC, dI) vwCl (wd_X0 a ca u) H → va_D A (wd_X0 a ca u) → va_S A s.heap H locs → lv_has ls 5 [(2, .int x2), (3, .int x3)] → W p l e (headSpec wsX0_wordWith rm_X0_wordWith).room s m args below meth c H locs 0 0 Q (F0 m 21 ls [.int w_3]))) h (fun w_3 h H locs ls hP hD hS hl => ?_) (fun JJ_2 ih_JJ_2 h => ?_)
  · refine lv_istore (lv' := [(4, .int w_3), (2, .int x2), (3, .int x3)]) hx hb dX0_wordWith_21 hl (by decide) rfl (fun ls hl => ?_)
    refine lv_iload_n hx hb dX0_wordWith_23 rfl (lv_at hl 1 rfl) ?_
    refine lv_iload hx hb dX0_wordWith_24 (lv_at hl 0 rfl) ?_
    refine lv_iload_n hx hb dX0_wordWith_26 rfl (lv_at hl 2 rfl) ?_
    have hFc := fl_freeN hS hA
    refine va_calli (va_runS (As := [.int x2, .int w_3, .int x3]) (rest := []) ⟨hx, hb, hml, hown, hts⟩ (c_X6_with l H.size x2 w_3 x3 _ h) (va_cwS 3 hts gX0_wordWith_X6_with rfl rfl rfl (by decide +kernel) ⟨Nat.le_of_ble_eq_true rfl, Nat.le_of_ble_eq_true rfl⟩) ⟨fun a U g mk q => by obtain ⟨q0, q1⟩ := q; exact ⟨q0, q1⟩, fun U hU hW => ⟨rfl, congrArg Array.size hU⟩⟩ rfl rfl hl.1 rfl (lv_room (Nat.le_of_ble_eq_true rfl)) dX0_wordWith_27 ⟨Nat.zero_le _, Nat.zero_le _⟩) hS (fun q _ h => hFc q h) hFc (fun r_4 zz t H1 locs ht hvm hw hB hz1 hk1 hS => ?_)
    replace hP := fl_keep hP hk1
    replace h := hw
    generalize H1 = H at hP hS ⊢
    subst hQ
    exact W.iret (v := r_4) hx hb hr (fun t ht hW => ⟨⟨_, (), rfl, h, by rw [ht]; exact hP, hD⟩, hS.F ht⟩) hS.2.2 dX0_wordWith_30
  · refine lv_if_eq (tgt := 17) hx hb dX0_wordWith_6 (by decide) (fun hc_5 => ?_) (fun hc_5 => ?_)
    · replace h := h.1 hc_5
      refine lv_iload_n hx hb dX0_wordWith_17 rfl (lv_at hl 2 rfl) ?_
      have hFc := fl_freeN hS hA
      refine va_calli (va_runS (As := [.int x2]) (rest := []) ⟨hx, hb, hml, hown, hts⟩ (c_X6_size l H.size x2 _ h) (va_cwS 1 hts gX0_wordWith_X6_size rfl rfl rfl (by decide +kernel) ⟨Nat.le_of_ble_eq_true rfl, Nat.le_of_ble_eq_true rfl⟩) ⟨fun a U g mk q => by obtain ⟨q0, q1⟩ := q; exact ⟨q0, q1⟩, fun U hU hW => ⟨rfl, congrArg Array.size hU⟩⟩ rfl rfl hl.1 rfl (lv_room (Nat.le_of_ble_eq_true rfl)) dX0_wordWith_18 ⟨Nat.zero_le _, Nat.zero_le _⟩) hS (fun q _ h => hFc q h) hFc (fun r_6 zz t H1 locs ht hvm hw hB hz1 hk1 hS => ?_)
      replace hP := fl_keep hP hk1
      replace h := hw
      generalize H1 = H at hP hS ⊢
      exact ih_JJ_2 _ h _ _ _ hP hD hS (lv_sub hl [2, 3] rfl)
    · replace h := h.2 hc_5
      refine lv_iload_n hx hb dX0_wordWith_9 rfl (lv_at hl 2 rfl) ?_
      refine lv_iload_n hx hb dX0_wordWith_10 rfl (lv_at hl 3 rfl) ?_
      have hFc := fl_freeN hS hA
      refine va_calli (va_runS (As := [.int x2, .int x3]) (rest := []) ⟨hx, hb, hml, hown, hts⟩ (c_X6_placeInOrder l H.size x2 x3 _ h) (va_cwS 2 hts gX0_wordWith_X6_placeInOrder rfl rfl rfl (by decide +kernel) ⟨Nat.le_of_ble_eq_true rfl, Nat.le_of_ble_eq_true rfl⟩) ⟨fun a U g mk q => by obtain ⟨q0, q1⟩ := q; exact ⟨q0, q1⟩, fun U hU hW => ⟨rfl, congrArg Array.size hU⟩⟩ rfl rfl hl.1 rfl (lv_room (Nat.le_of_ble_eq_true rfl)) dX0_wordWith_11 ⟨Nat.zero_le _, Nat.zero_le _⟩) hS (fun q _ h => hFc q h) hFc (fun r_7 zz t H1 locs ht hvm hw hB hz1 hk1 hS => ?_)
      replace hP := fl_keep hP hk1
      replace h := hw
      generalize H1 = H at hP hS ⊢
      refine lv_goto (tgt := 21) hx hb dX0_wordWith_14 (by decide) ?_
      exact ih_JJ_2 _ h _ _ _ hP hD hS (lv_sub hl [2, 3] rfl)
abbrev rm_X0_wordBehind : Room := { frames := 2, cells := 0, slots := 0, locals := 48 }
set_option maxHeartbeats 4000000 in
set_option maxRecDepth 100000 in
theorem c_X0_wordBehind (l : Launch) (dC : Nat → ClassId) (dI : Nat → Nat → Nat) (a : Nat → Nat) (ca : Nat → ClassId) (sz : Nat) (u : Ob) (x1 : Int32) (x2 : Int32) (post : Int32 → Prop) (h : wp_X0_wordBehind u x1 x2 post) : Met l yX0_wordBehind wsX0_wordBehind rm_X0_wordBehind (va_Pc [.ref (a 0), .int x1, .int x2] (fun U => U.heap.size = sz ∧ va_P (dC, dI) vwCl (wd_X0 a ca u) U.heap ∧ va_K (dC, dI) vwCl (ty_X0 ca) U ∧ va_D (fun _ => True) (wd_X0 a ca u))) (va_Qi (fun (rr : Int32) (_ : Unit) => post rr) (fun (zz : Unit) (t : State) => va_P (dC, dI) vwCl (wd_X0 a ca u) t.heap ∧ va_D (va_A (wd_X0 a ca u) sz) (wd_X0 a ca u)) (va_A (wd_X0 a ca u) sz)) 0 0 (va_A (wd_X0 a ca u) sz) := by
  refine fl_ofW (cc := cX0_wordBehind) (maxL := 7) (ret := (some .int)) (by decide) rfl ?_
  intro p e s m args below meth c s₁ Q B hml hv hQ
  obtain ⟨hargs, hsz, hP, hK, hD0⟩ := hv
  have hx := B.exec
  have hb := B.bytes
  have hr := B.returns
  have hts := atoms_spec (ws := wsX0_wordBehind) B.pre
  have hown : s.vm.findClass RX0 = some m.cls := findClass_of_methodNamed B.named
  subst hsz
  have hD := hD0.self (sz := s.heap.size)
  generalize hAe : va_A (wd_X0 a ca u) s.heap.size = A at hD hQ
  have hA : ∀ q : Nat, s.heap.size ≤ q → A q := fun q h => by rw [← hAe]; exact Or.inr h
  have hS : va_S A s.heap s.heap [] := va_S.rf
  have hl := lv_entry ([.ref (a 0), .int x1, .int x2]) (n := 7) (Nat.le_of_ble_eq_true rfl)
  refine W.eq (g2 := F0 m 0 ((lg_sl ([.ref (a 0), .int x1, .int x2]) ++ List.replicate (7 - (lg_sl ([.ref (a 0), .int x1, .int x2])).length) Slot.unset).toArray) []) (by rw [hargs]; exact lg_entry_eq m _ 7) ?_
  generalize (lg_sl ([.ref (a 0), .int x1, .int x2]) ++ List.replicate (7 - (lg_sl ([.ref (a 0), .int x1, .int x2])).length) Slot.unset).toArray = ls at hl ⊢
  have hl : lv_has ls 7 [(0, .ref (a 0)), (1, .int x1), (2, .int x2)] := hl
  suffices hstart : ∀ (H : Heap) (locs : List Loc) (ls : Array Slot), va_P (dC, dI) vwCl (wd_X0 a ca u) H → va_D A (wd_X0 a ca u) → va_S A s.heap H locs → lv_has ls 7 [(0, .ref (a 0)), (1, .int x1), (2, .int x2)] → W p l e (headSpec wsX0_wordBehind rm_X0_wordBehind).room s m args below meth c H locs 0 0 Q (F0 m 0 ls []) from hstart _ _ _ hP hD hS hl
  clear hS hP hD hD0
  intro H locs ls hP hD hS hl
  have hin_X0 : ∀ w ∈ wsX00, w ∈ wsX0_wordBehind := by decide +kernel
  have lk_0 := hts (.fieldLink RX0 15 "ForgettingLines$Machine" "isBag" "[Z") (by decide +kernel)
  unfold wp_X0_wordBehind at h
  refine lv_aload_n hx hb dX0_wordBehind_0 rfl (lv_at hl 0 rfl) ?_
  refine lv_iload_n hx hb dX0_wordBehind_1 rfl (lv_at hl 1 rfl) ?_
  refine lv_iconst (v := 2) hx hb dX0_wordBehind_2 (by decide) ?_
  have hPc := hP
  have hDc := hD
  have hKc := hK
  have hFc := va_free (wc := (wd_X0 a ca u)) hD hS hA [0, 1, 2] rfl
  refine va_calli (va_runV (As := [.int x1, .int 2]) (rest := []) ⟨hx, hb, hml, hown, hts⟩ (c_X0_part l dC dI a ca H.size u x1 2 _ h) (cwV 2 hts gX0_wordBehind_X0_part rfl rfl rfl (by decide +kernel) ⟨Nat.le_of_ble_eq_true rfl, Nat.le_of_ble_eq_true rfl⟩) ⟨fun a U g mk q => by obtain ⟨q0, q1, qP, qK, qD⟩ := q; exact ⟨q0, q1, qP, va_K.moved (u := U) (U := U.calling g mk a) (Vm.Alike.refl U.vm) qK, qD⟩, va_recv hKc hPc (ci := 0) (q0 := 0) rfl rfl, fun U hU hW => ⟨rfl, by rw [hU], by rw [hU]; exact hPc, va_K.moved hW.alike hKc, hDc.weaken (fun _ _ _ _ => trivial)⟩⟩ rfl rfl hl.1 rfl (lv_room (Nat.le_of_ble_eq_true rfl)) dX0_wordBehind_3 ⟨Nat.zero_le _, Nat.zero_le _⟩) hS (fun q _ h => hFc q h) hFc (fun r_1 zz t H1 locs ht hvm hw hB hz1 hk1 hS => ?_)
  replace h := hw
  obtain ⟨hP1, hD1⟩ := hB
  rw [ht] at hP1
  replace hD : va_D A (wd_X0 a ca u) := hD1.weaken (fun _ _ _ h9 => hFc _ h9)
  replace hP : va_P (dC, dI) vwCl (wd_X0 a ca u) H1 := hP1
  generalize H1 = H at hP hS ⊢
  refine lv_istore_n (lv' := [(3, .int r_1), (0, .ref (a 0)), (1, .int x1), (2, .int x2)]) hx hb dX0_wordBehind_6 rfl hl (by decide) rfl (fun ls hl => ?_)
  refine lv_aload_n hx hb dX0_wordBehind_7 rfl (lv_at hl 1 rfl) ?_
  refine lv_iload_n hx hb dX0_wordBehind_8 rfl (lv_at hl 2 rfl) ?_
  refine lv_iconst (v := 3) hx hb dX0_wordBehind_9 (by decide) ?_
  have hPc := hP
  have hDc := hD
  have hKc := hK
  have hFc := va_free (wc := (wd_X0 a ca u)) hD hS hA [0, 1, 2] rfl
  refine va_calli (va_runV (As := [.int x1, .int 3]) (rest := []) ⟨hx, hb, hml, hown, hts⟩ (c_X0_part l dC dI a ca H.size u x1 3 _ h) (cwV 2 hts gX0_wordBehind_X0_part rfl rfl rfl (by decide +kernel) ⟨Nat.le_of_ble_eq_true rfl, Nat.le_of_ble_eq_true rfl⟩) ⟨fun a U g mk q => by obtain ⟨q0, q1, qP, qK, qD⟩ := q; exact ⟨q0, q1, qP, va_K.moved (u := U) (U := U.calling g mk a) (Vm.Alike.refl U.vm) qK, qD⟩, va_recv hKc hPc (ci := 0) (q0 := 0) rfl rfl, fun U hU hW => ⟨rfl, by rw [hU], by rw [hU]; exact hPc, va_K.moved hW.alike hKc, hDc.weaken (fun _ _ _ _ => trivial)⟩⟩ rfl rfl hl.1 rfl (lv_room (Nat.le_of_ble_eq_true rfl)) dX0_wordBehind_10 ⟨Nat.zero_le _, Nat.zero_le _⟩) hS (fun q _ h => hFc q h) hFc (fun r_2 zz t H1 locs ht hvm hw hB hz1 hk1 hS => ?_)
  replace h := hw
  obtain ⟨hP1, hD1⟩ := hB
  rw [ht] at hP1
  replace hD : va_D A (wd_X0 a ca u) := hD1.weaken (fun _ _ _ h9 => hFc _ h9)
  replace hP : va_P (dC, dI) vwCl (wd_X0 a ca u) H1 := hP1
  generalize H1 = H at hP hS ⊢
  refine lv_istore (lv' := [(4, .int r_2), (3, .int r_1), (0, .ref (a 0)), (1, .int x1), (2, .int x2)]) hx hb dX0_wordBehind_13 hl (by decide) rfl (fun ls hl => ?_)
  refine lv_aload_n hx hb dX0_wordBehind_15 rfl (lv_at hl 2 rfl) ?_
  refine lv_iload_n hx hb dX0_wordBehind_16 rfl (lv_at hl 3 rfl) ?_
  refine lv_iconst (v := 1) hx hb dX0_wordBehind_17 (by decide) ?_
  have hPc := hP
  have hDc := hD
  have hKc := hK
  have hFc := va_free (wc := (wd_X0 a ca u)) hD hS hA [0, 1, 2] rfl
  refine va_calli (va_runV (As := [.int x1, .int 1]) (rest := []) ⟨hx, hb, hml, hown, hts⟩ (c_X0_part l dC dI a ca H.size u x1 1 _ h) (cwV 2 hts gX0_wordBehind_X0_part rfl rfl rfl (by decide +kernel) ⟨Nat.le_of_ble_eq_true rfl, Nat.le_of_ble_eq_true rfl⟩) ⟨fun a U g mk q => by obtain ⟨q0, q1, qP, qK, qD⟩ := q; exact ⟨q0, q1, qP, va_K.moved (u := U) (U := U.calling g mk a) (Vm.Alike.refl U.vm) qK, qD⟩, va_recv hKc hPc (ci := 0) (q0 := 0) rfl rfl, fun U hU hW => ⟨rfl, by rw [hU], by rw [hU]; exact hPc, va_K.moved hW.alike hKc, hDc.weaken (fun _ _ _ _ => trivial)⟩⟩ rfl rfl hl.1 rfl (lv_room (Nat.le_of_ble_eq_true rfl)) dX0_wordBehind_18 ⟨Nat.zero_le _, Nat.zero_le _⟩) hS (fun q _ h => hFc q h) hFc (fun r_3 zz t H1 locs ht hvm hw hB hz1 hk1 hS => ?_)
  replace h := hw
  obtain ⟨hP1, hD1⟩ := hB
  rw [ht] at hP1
  replace hD : va_D A (wd_X0 a ca u) := hD1.weaken (fun _ _ _ h9 => hFc _ h9)
  replace hP : va_P (dC, dI) vwCl (wd_X0 a ca u) H1 := hP1
  generalize H1 = H at hP hS ⊢
  by_cases hs_4 : r_3 = 1
  · replace h := h.1 hs_4
    refine lv_lookup (off := 27) (tgt := 48) hx hb dX0_wordBehind_21 (by decide) (by rw [hs_4]; first | done | rfl) (by decide) ?_
    refine lv_aload_n hx hb dX0_wordBehind_48 rfl (lv_at hl 2 rfl) ?_
    refine lv_iload_n hx hb dX0_wordBehind_49 rfl (lv_at hl 1 rfl) ?_
    refine lv_iload_n hx hb dX0_wordBehind_50 rfl (lv_at hl 4 rfl) ?_
    refine lv_iload hx hb dX0_wordBehind_51 (lv_at hl 0 rfl) ?_
    have hPc := hP
    have hDc := hD
    have hKc := hK
    have hFc := va_free (wc := (wd_X0 a ca u)) hD hS hA [0, 1, 2] rfl
    refine va_calli (va_runV (As := [.int r_1, .int x2, .int r_2]) (rest := []) ⟨hx, hb, hml, hown, hts⟩ (c_X0_wordWith l dC dI a ca H.size u r_1 x2 r_2 _ h) (cwV 3 hts gX0_wordBehind_X0_wordWith rfl rfl rfl (by decide +kernel) ⟨Nat.le_of_ble_eq_true rfl, Nat.le_of_ble_eq_true rfl⟩) ⟨fun a U g mk q => by obtain ⟨q0, q1, qP, qK, qD⟩ := q; exact ⟨q0, q1, qP, va_K.moved (u := U) (U := U.calling g mk a) (Vm.Alike.refl U.vm) qK, qD⟩, va_recv hKc hPc (ci := 0) (q0 := 0) rfl rfl, fun U hU hW => ⟨rfl, by rw [hU], by rw [hU]; exact hPc, va_K.moved hW.alike hKc, hDc.weaken (fun _ _ _ _ => trivial)⟩⟩ rfl rfl hl.1 rfl (lv_room (Nat.le_of_ble_eq_true rfl)) dX0_wordBehind_53 ⟨Nat.zero_le _, Nat.zero_le _⟩) hS (fun q _ h => hFc q h) hFc (fun r_5 zz t H1 locs ht hvm hw hB hz1 hk1 hS => ?_)
    replace h := hw
    obtain ⟨hP1, hD1⟩ := hB
    rw [ht] at hP1
    replace hD : va_D A (wd_X0 a ca u) := hD1.weaken (fun _ _ _ h9 => hFc _ h9)
    replace hP : va_P (dC, dI) vwCl (wd_X0 a ca u) H1 := hP1
    generalize H1 = H at hP hS ⊢
    subst hQ
    exact W.iret (v := r_5) hx hb hr (fun t ht hW => ⟨⟨_, (), rfl, h, by rw [ht]; exact hP, hD⟩, hS.F ht⟩) hS.2.2 dX0_wordBehind_56
  · replace h := h.2 hs_4
    by_cases hs_6 : r_3 = 2
    · replace h := h.1 hs_6
      refine lv_lookup (off := 36) (tgt := 57) hx hb dX0_wordBehind_21 (by decide) (by rw [hs_6]; first | done | rfl) (by decide) ?_
      refine lv_iload_n hx hb dX0_wordBehind_57 rfl (lv_at hl 4 rfl) ?_
      refine lv_iload hx hb dX0_wordBehind_58 (lv_at hl 0 rfl) ?_
      have hFc := fl_freeN hS hA
      refine va_calli (va_runS (As := [.int x2, .int r_2]) (rest := []) ⟨hx, hb, hml, hown, hts⟩ (c_X6_find l H.size x2 r_2 _ h) (va_cwS 2 hts gX0_wordBehind_X6_find rfl rfl rfl (by decide +kernel) ⟨Nat.le_of_ble_eq_true rfl, Nat.le_of_ble_eq_true rfl⟩) ⟨fun a U g mk q => by obtain ⟨q0, q1⟩ := q; exact ⟨q0, q1⟩, fun U hU hW => ⟨rfl, congrArg Array.size hU⟩⟩ rfl rfl hl.1 rfl (lv_room (Nat.le_of_ble_eq_true rfl)) dX0_wordBehind_60 ⟨Nat.zero_le _, Nat.zero_le _⟩) hS (fun q _ h => hFc q h) hFc (fun r_7 zz t H1 locs ht hvm hw hB hz1 hk1 hS => ?_)
      replace hP := fl_keep hP hk1
      replace h := hw
      generalize H1 = H at hP hS ⊢
      refine lv_istore (lv' := [(5, .int r_7), (4, .int r_2), (3, .int r_1), (0, .ref (a 0)), (1, .int x1), (2, .int x2)]) hx hb dX0_wordBehind_63 hl (by decide) rfl (fun ls hl => ?_)
      refine lv_aload_n hx hb dX0_wordBehind_65 rfl (lv_at hl 3 rfl) ?_
      refine va_get (D := (dC, dI)) (ci := 0) (v := .ref (a 3)) (C := RX0) (T := TX0) (N := 4) hx hb hts hin_X0 hown hK hP 0 rfl rfl 2 (by decide) lk_0 (fun _ h9 => h9) rfl dX0_wordBehind_66 ?_
      refine lv_iload_n hx hb dX0_wordBehind_69 rfl (lv_at hl 2 rfl) ?_
      obtain ⟨hi_8, h⟩ := h
      refine va_zald (D := (dC, dI)) (cl := vwCl) (i := r_1) hx hb hK hP 1 0 rfl rfl hi_8 dX0_wordBehind_70 ?_
      refine jn1_ind (GG := (fun (w_10 : Int32) => ∀ (H : Heap) (locs : List Loc) (ls : Array Slot), va_P (dC, dI) vwCl (wd_X0 a ca u) H → va_D A (wd_X0 a ca u) → va_S A s.heap H locs → lv_has ls 7 [(5, .int r_7), (2, .int x2)] → W p l e (headSpec wsX0_wordBehind rm_X0_wordBehind).room s m args below meth c H locs 0 0 Q (F0 m 97 ls [.int w_10]))) h (fun w_10 h H locs ls hP hD hS hl => ?_) (fun JJ_9 ih_JJ_9 h => ?_)
      · refine lv_istore (lv' := [(6, .int w_10), (5, .int r_7), (2, .int x2)]) hx hb dX0_wordBehind_97 hl (by decide) rfl (fun ls hl => ?_)
        refine lv_iload hx hb dX0_wordBehind_99 (lv_at hl 0 rfl) ?_
        refine lv_if_eq (tgt := 113) hx hb dX0_wordBehind_101 (by decide) (fun hc_11 => ?_) (fun hc_11 => ?_)
        · replace h := h.1 hc_11
          refine lv_iconst (v := (-1)) hx hb dX0_wordBehind_113 (by decide) ?_
          subst hQ
          exact W.iret (v := (-1)) hx hb hr (fun t ht hW => ⟨⟨_, (), rfl, h, by rw [ht]; exact hP, hD⟩, hS.F ht⟩) hS.2.2 dX0_wordBehind_114
        · replace h := h.2 hc_11
          refine lv_iload_n hx hb dX0_wordBehind_104 rfl (lv_at hl 2 rfl) ?_
          refine lv_iload hx hb dX0_wordBehind_105 (lv_at hl 1 rfl) ?_
          have hFc := fl_freeN hS hA
          refine va_calli (va_runS (As := [.int x2, .int r_7]) (rest := []) ⟨hx, hb, hml, hown, hts⟩ (c_X6_without l H.size x2 r_7 _ h) (va_cwS 2 hts gX0_wordBehind_X6_without rfl rfl rfl (by decide +kernel) ⟨Nat.le_of_ble_eq_true rfl, Nat.le_of_ble_eq_true rfl⟩) ⟨fun a U g mk q => by obtain ⟨q0, q1⟩ := q; exact ⟨q0, q1⟩, fun U hU hW => ⟨rfl, congrArg Array.size hU⟩⟩ rfl rfl hl.1 rfl (lv_room (Nat.le_of_ble_eq_true rfl)) dX0_wordBehind_107 ⟨Nat.zero_le _, Nat.zero_le _⟩) hS (fun q _ h => hFc q h) hFc (fun r_12 zz t H1 locs ht hvm hw hB hz1 hk1 hS => ?_)
          replace hP := fl_keep hP hk1
          replace h := hw
          generalize H1 = H at hP hS ⊢
          refine lv_goto (tgt := 114) hx hb dX0_wordBehind_110 (by decide) ?_
          subst hQ
          exact W.iret (v := r_12) hx hb hr (fun t ht hW => ⟨⟨_, (), rfl, h, by rw [ht]; exact hP, hD⟩, hS.F ht⟩) hS.2.2 dX0_wordBehind_114
      · refine lv_if_eq (tgt := 87) hx hb dX0_wordBehind_71 (by decide) (fun hc_13 => ?_) (fun hc_13 => ?_)
        · replace h := h.1 hc_13
          refine lv_iload hx hb dX0_wordBehind_87 (lv_at hl 0 rfl) ?_
          refine lv_if_ne (tgt := 96) hx hb dX0_wordBehind_89 (by decide) (fun hc_14 => ?_) (fun hc_14 => ?_)
          · replace h := h.1 hc_14
            refine lv_iconst (v := 0) hx hb dX0_wordBehind_96 (by decide) ?_
            exact ih_JJ_9 _ h _ _ _ hP hD hS (lv_sub hl [0, 5] rfl)
          · replace h := h.2 hc_14
            refine lv_iconst (v := 1) hx hb dX0_wordBehind_92 (by decide) ?_
            refine lv_goto (tgt := 97) hx hb dX0_wordBehind_93 (by decide) ?_
            exact ih_JJ_9 _ h _ _ _ hP hD hS (lv_sub hl [0, 5] rfl)
        · replace h := h.2 hc_13
          refine lv_iload hx hb dX0_wordBehind_74 (lv_at hl 0 rfl) ?_
          refine lv_if_lt (tgt := 83) hx hb dX0_wordBehind_76 (by decide) (fun hc_15 => ?_) (fun hc_15 => ?_)
          · replace h := h.1 hc_15
            refine lv_iconst (v := 0) hx hb dX0_wordBehind_83 (by decide) ?_
            refine lv_goto (tgt := 97) hx hb dX0_wordBehind_84 (by decide) ?_
            exact ih_JJ_9 _ h _ _ _ hP hD hS (lv_sub hl [0, 5] rfl)
          · replace h := h.2 hc_15
            refine lv_iconst (v := 1) hx hb dX0_wordBehind_79 (by decide) ?_
            refine lv_goto (tgt := 97) hx hb dX0_wordBehind_80 (by decide) ?_
            exact ih_JJ_9 _ h _ _ _ hP hD hS (lv_sub hl [0, 5] rfl)
    · replace h := h.2 hs_6
      refine lv_lookup (off := 94) (tgt := 115) hx hb dX0_wordBehind_21 (by decide) (by show Op.lookupswitch.offset [(1, 27), (2, 36)] 94 (Int32.toInt r_3) = 94; rw [lv_osw (a := 1) hs_4 (by decide), lv_osw (a := 2) hs_6 (by decide)]; first | done | rfl) (by decide) ?_
      refine lv_iload_n hx hb dX0_wordBehind_115 rfl (lv_at hl 4 rfl) ?_
      subst hQ
      exact W.iret (v := x2) hx hb hr (fun t ht hW => ⟨⟨_, (), rfl, h, by rw [ht]; exact hP, hD⟩, hS.F ht⟩) hS.2.2 dX0_wordBehind_116
abbrev rm_X0_wordAhead : Room := { frames := 2, cells := 0, slots := 0, locals := 48 }
set_option maxHeartbeats 4000000 in
set_option maxRecDepth 100000 in
theorem c_X0_wordAhead (l : Launch) (dC : Nat → ClassId) (dI : Nat → Nat → Nat) (a : Nat → Nat) (ca : Nat → ClassId) (sz : Nat) (u : Ob) (x1 : Int32) (x2 : Int32) (post : Int32 → Prop) (h : wp_X0_wordAhead u x1 x2 post) : Met l yX0_wordAhead wsX0_wordAhead rm_X0_wordAhead (va_Pc [.ref (a 0), .int x1, .int x2] (fun U => U.heap.size = sz ∧ va_P (dC, dI) vwCl (wd_X0 a ca u) U.heap ∧ va_K (dC, dI) vwCl (ty_X0 ca) U ∧ va_D (fun _ => True) (wd_X0 a ca u))) (va_Qi (fun (rr : Int32) (_ : Unit) => post rr) (fun (zz : Unit) (t : State) => va_P (dC, dI) vwCl (wd_X0 a ca u) t.heap ∧ va_D (va_A (wd_X0 a ca u) sz) (wd_X0 a ca u)) (va_A (wd_X0 a ca u) sz)) 0 0 (va_A (wd_X0 a ca u) sz) := by
  refine fl_ofW (cc := cX0_wordAhead) (maxL := 6) (ret := (some .int)) (by decide) rfl ?_
  intro p e s m args below meth c s₁ Q B hml hv hQ
  obtain ⟨hargs, hsz, hP, hK, hD0⟩ := hv
  have hx := B.exec
  have hb := B.bytes
  have hr := B.returns
  have hts := atoms_spec (ws := wsX0_wordAhead) B.pre
  have hown : s.vm.findClass RX0 = some m.cls := findClass_of_methodNamed B.named
  subst hsz
  have hD := hD0.self (sz := s.heap.size)
  generalize hAe : va_A (wd_X0 a ca u) s.heap.size = A at hD hQ
  have hA : ∀ q : Nat, s.heap.size ≤ q → A q := fun q h => by rw [← hAe]; exact Or.inr h
  have hS : va_S A s.heap s.heap [] := va_S.rf
  have hl := lv_entry ([.ref (a 0), .int x1, .int x2]) (n := 6) (Nat.le_of_ble_eq_true rfl)
  refine W.eq (g2 := F0 m 0 ((lg_sl ([.ref (a 0), .int x1, .int x2]) ++ List.replicate (6 - (lg_sl ([.ref (a 0), .int x1, .int x2])).length) Slot.unset).toArray) []) (by rw [hargs]; exact lg_entry_eq m _ 6) ?_
  generalize (lg_sl ([.ref (a 0), .int x1, .int x2]) ++ List.replicate (6 - (lg_sl ([.ref (a 0), .int x1, .int x2])).length) Slot.unset).toArray = ls at hl ⊢
  have hl : lv_has ls 6 [(0, .ref (a 0)), (1, .int x1), (2, .int x2)] := hl
  suffices hstart : ∀ (H : Heap) (locs : List Loc) (ls : Array Slot), va_P (dC, dI) vwCl (wd_X0 a ca u) H → va_D A (wd_X0 a ca u) → va_S A s.heap H locs → lv_has ls 6 [(0, .ref (a 0)), (1, .int x1), (2, .int x2)] → W p l e (headSpec wsX0_wordAhead rm_X0_wordAhead).room s m args below meth c H locs 0 0 Q (F0 m 0 ls []) from hstart _ _ _ hP hD hS hl
  clear hS hP hD hD0
  intro H locs ls hP hD hS hl
  have hin_X0 : ∀ w ∈ wsX00, w ∈ wsX0_wordAhead := by decide +kernel
  have lk_0 := hts (.fieldLink RX0 15 "ForgettingLines$Machine" "isBag" "[Z") (by decide +kernel)
  unfold wp_X0_wordAhead at h
  refine lv_aload_n hx hb dX0_wordAhead_0 rfl (lv_at hl 0 rfl) ?_
  refine lv_iload_n hx hb dX0_wordAhead_1 rfl (lv_at hl 1 rfl) ?_
  refine lv_iconst (v := 2) hx hb dX0_wordAhead_2 (by decide) ?_
  have hPc := hP
  have hDc := hD
  have hKc := hK
  have hFc := va_free (wc := (wd_X0 a ca u)) hD hS hA [0, 1, 2] rfl
  refine va_calli (va_runV (As := [.int x1, .int 2]) (rest := []) ⟨hx, hb, hml, hown, hts⟩ (c_X0_part l dC dI a ca H.size u x1 2 _ h) (cwV 2 hts gX0_wordAhead_X0_part rfl rfl rfl (by decide +kernel) ⟨Nat.le_of_ble_eq_true rfl, Nat.le_of_ble_eq_true rfl⟩) ⟨fun a U g mk q => by obtain ⟨q0, q1, qP, qK, qD⟩ := q; exact ⟨q0, q1, qP, va_K.moved (u := U) (U := U.calling g mk a) (Vm.Alike.refl U.vm) qK, qD⟩, va_recv hKc hPc (ci := 0) (q0 := 0) rfl rfl, fun U hU hW => ⟨rfl, by rw [hU], by rw [hU]; exact hPc, va_K.moved hW.alike hKc, hDc.weaken (fun _ _ _ _ => trivial)⟩⟩ rfl rfl hl.1 rfl (lv_room (Nat.le_of_ble_eq_true rfl)) dX0_wordAhead_3 ⟨Nat.zero_le _, Nat.zero_le _⟩) hS (fun q _ h => hFc q h) hFc (fun r_1 zz t H1 locs ht hvm hw hB hz1 hk1 hS => ?_)
  replace h := hw
  obtain ⟨hP1, hD1⟩ := hB
  rw [ht] at hP1
  replace hD : va_D A (wd_X0 a ca u) := hD1.weaken (fun _ _ _ h9 => hFc _ h9)
  replace hP : va_P (dC, dI) vwCl (wd_X0 a ca u) H1 := hP1
  generalize H1 = H at hP hS ⊢
  refine lv_istore_n (lv' := [(3, .int r_1), (0, .ref (a 0)), (1, .int x1), (2, .int x2)]) hx hb dX0_wordAhead_6 rfl hl (by decide) rfl (fun ls hl => ?_)
  refine lv_aload_n hx hb dX0_wordAhead_7 rfl (lv_at hl 1 rfl) ?_
  refine lv_iload_n hx hb dX0_wordAhead_8 rfl (lv_at hl 2 rfl) ?_
  refine lv_iconst (v := 3) hx hb dX0_wordAhead_9 (by decide) ?_
  have hPc := hP
  have hDc := hD
  have hKc := hK
  have hFc := va_free (wc := (wd_X0 a ca u)) hD hS hA [0, 1, 2] rfl
  refine va_calli (va_runV (As := [.int x1, .int 3]) (rest := []) ⟨hx, hb, hml, hown, hts⟩ (c_X0_part l dC dI a ca H.size u x1 3 _ h) (cwV 2 hts gX0_wordAhead_X0_part rfl rfl rfl (by decide +kernel) ⟨Nat.le_of_ble_eq_true rfl, Nat.le_of_ble_eq_true rfl⟩) ⟨fun a U g mk q => by obtain ⟨q0, q1, qP, qK, qD⟩ := q; exact ⟨q0, q1, qP, va_K.moved (u := U) (U := U.calling g mk a) (Vm.Alike.refl U.vm) qK, qD⟩, va_recv hKc hPc (ci := 0) (q0 := 0) rfl rfl, fun U hU hW => ⟨rfl, by rw [hU], by rw [hU]; exact hPc, va_K.moved hW.alike hKc, hDc.weaken (fun _ _ _ _ => trivial)⟩⟩ rfl rfl hl.1 rfl (lv_room (Nat.le_of_ble_eq_true rfl)) dX0_wordAhead_10 ⟨Nat.zero_le _, Nat.zero_le _⟩) hS (fun q _ h => hFc q h) hFc (fun r_2 zz t H1 locs ht hvm hw hB hz1 hk1 hS => ?_)
  replace h := hw
  obtain ⟨hP1, hD1⟩ := hB
  rw [ht] at hP1
  replace hD : va_D A (wd_X0 a ca u) := hD1.weaken (fun _ _ _ h9 => hFc _ h9)
  replace hP : va_P (dC, dI) vwCl (wd_X0 a ca u) H1 := hP1
  generalize H1 = H at hP hS ⊢
  refine lv_istore (lv' := [(4, .int r_2), (3, .int r_1), (0, .ref (a 0)), (1, .int x1), (2, .int x2)]) hx hb dX0_wordAhead_13 hl (by decide) rfl (fun ls hl => ?_)
  refine lv_aload_n hx hb dX0_wordAhead_15 rfl (lv_at hl 2 rfl) ?_
  refine lv_iload_n hx hb dX0_wordAhead_16 rfl (lv_at hl 3 rfl) ?_
  refine lv_iconst (v := 1) hx hb dX0_wordAhead_17 (by decide) ?_
  have hPc := hP
  have hDc := hD
  have hKc := hK
  have hFc := va_free (wc := (wd_X0 a ca u)) hD hS hA [0, 1, 2] rfl
  refine va_calli (va_runV (As := [.int x1, .int 1]) (rest := []) ⟨hx, hb, hml, hown, hts⟩ (c_X0_part l dC dI a ca H.size u x1 1 _ h) (cwV 2 hts gX0_wordAhead_X0_part rfl rfl rfl (by decide +kernel) ⟨Nat.le_of_ble_eq_true rfl, Nat.le_of_ble_eq_true rfl⟩) ⟨fun a U g mk q => by obtain ⟨q0, q1, qP, qK, qD⟩ := q; exact ⟨q0, q1, qP, va_K.moved (u := U) (U := U.calling g mk a) (Vm.Alike.refl U.vm) qK, qD⟩, va_recv hKc hPc (ci := 0) (q0 := 0) rfl rfl, fun U hU hW => ⟨rfl, by rw [hU], by rw [hU]; exact hPc, va_K.moved hW.alike hKc, hDc.weaken (fun _ _ _ _ => trivial)⟩⟩ rfl rfl hl.1 rfl (lv_room (Nat.le_of_ble_eq_true rfl)) dX0_wordAhead_18 ⟨Nat.zero_le _, Nat.zero_le _⟩) hS (fun q _ h => hFc q h) hFc (fun r_3 zz t H1 locs ht hvm hw hB hz1 hk1 hS => ?_)
  replace h := hw
  obtain ⟨hP1, hD1⟩ := hB
  rw [ht] at hP1
  replace hD : va_D A (wd_X0 a ca u) := hD1.weaken (fun _ _ _ h9 => hFc _ h9)
  replace hP : va_P (dC, dI) vwCl (wd_X0 a ca u) H1 := hP1
  generalize H1 = H at hP hS ⊢
  by_cases hs_4 : r_3 = 1
  · replace h := h.1 hs_4
    refine lv_lookup (off := 27) (tgt := 48) hx hb dX0_wordAhead_21 (by decide) (by rw [hs_4]; first | done | rfl) (by decide) ?_
    refine lv_aload_n hx hb dX0_wordAhead_48 rfl (lv_at hl 2 rfl) ?_
    refine va_get (D := (dC, dI)) (ci := 0) (v := .ref (a 3)) (C := RX0) (T := TX0) (N := 4) hx hb hts hin_X0 hown hK hP 0 rfl rfl 2 (by decide) lk_0 (fun _ h9 => h9) rfl dX0_wordAhead_49 ?_
    refine lv_iload_n hx hb dX0_wordAhead_52 rfl (lv_at hl 1 rfl) ?_
    obtain ⟨hi_5, h⟩ := h
    refine va_zald (D := (dC, dI)) (cl := vwCl) (i := r_1) hx hb hK hP 1 0 rfl rfl hi_5 dX0_wordAhead_53 ?_
    refine jn1_ind (GG := (fun (w_7 : Int32) => ∀ (H : Heap) (locs : List Loc) (ls : Array Slot), va_P (dC, dI) vwCl (wd_X0 a ca u) H → va_D A (wd_X0 a ca u) → va_S A s.heap H locs → lv_has ls 6 [(4, .int r_2), (2, .int x2)] → W p l e (headSpec wsX0_wordAhead rm_X0_wordAhead).room s m args below meth c H locs 0 0 Q (F0 m 72 ls [.int w_7]))) h (fun w_7 h H locs ls hP hD hS hl => ?_) (fun JJ_6 ih_JJ_6 h => ?_)
    · refine lv_istore (lv' := [(5, .int w_7), (4, .int r_2), (2, .int x2)]) hx hb dX0_wordAhead_72 hl (by decide) rfl (fun ls hl => ?_)
      refine lv_iload hx hb dX0_wordAhead_74 (lv_at hl 0 rfl) ?_
      refine lv_if_lt (tgt := 99) hx hb dX0_wordAhead_76 (by decide) (fun hc_8 => ?_) (fun hc_8 => ?_)
      · replace h := h.1 hc_8
        refine lv_iload_n hx hb dX0_wordAhead_99 rfl (lv_at hl 2 rfl) ?_
        subst hQ
        exact W.iret (v := x2) hx hb hr (fun t ht hW => ⟨⟨_, (), rfl, h, by rw [ht]; exact hP, hD⟩, hS.F ht⟩) hS.2.2 dX0_wordAhead_100
      · replace h := h.2 hc_8
        refine lv_iload_n hx hb dX0_wordAhead_79 rfl (lv_at hl 2 rfl) ?_
        refine lv_iload hx hb dX0_wordAhead_80 (lv_at hl 0 rfl) ?_
        have hFc := fl_freeN hS hA
        refine va_calli (va_runS (As := [.int x2, .int w_7]) (rest := []) ⟨hx, hb, hml, hown, hts⟩ (c_X6_at l H.size x2 w_7 _ h) (va_cwS 2 hts gX0_wordAhead_X6_at rfl rfl rfl (by decide +kernel) ⟨Nat.le_of_ble_eq_true rfl, Nat.le_of_ble_eq_true rfl⟩) ⟨fun a U g mk q => by obtain ⟨q0, q1⟩ := q; exact ⟨q0, q1⟩, fun U hU hW => ⟨rfl, congrArg Array.size hU⟩⟩ rfl rfl hl.1 rfl (lv_room (Nat.le_of_ble_eq_true rfl)) dX0_wordAhead_82 ⟨Nat.zero_le _, Nat.zero_le _⟩) hS (fun q _ h => hFc q h) hFc (fun r_9 zz t H1 locs ht hvm hw hB hz1 hk1 hS => ?_)
        replace hP := fl_keep hP hk1
        replace h := hw
        generalize H1 = H at hP hS ⊢
        refine lv_iload hx hb dX0_wordAhead_85 (lv_at hl 1 rfl) ?_
        refine lv_icmp_ne (tgt := 99) hx hb dX0_wordAhead_87 (by decide) (fun hc_10 => ?_) (fun hc_10 => ?_)
        · replace h := h.1 hc_10
          refine lv_iload_n hx hb dX0_wordAhead_99 rfl (lv_at hl 2 rfl) ?_
          subst hQ
          exact W.iret (v := x2) hx hb hr (fun t ht hW => ⟨⟨_, (), rfl, h, by rw [ht]; exact hP, hD⟩, hS.F ht⟩) hS.2.2 dX0_wordAhead_100
        · replace h := h.2 hc_10
          refine lv_iload_n hx hb dX0_wordAhead_90 rfl (lv_at hl 2 rfl) ?_
          refine lv_iload hx hb dX0_wordAhead_91 (lv_at hl 0 rfl) ?_
          have hFc := fl_freeN hS hA
          refine va_calli (va_runS (As := [.int x2, .int w_7]) (rest := []) ⟨hx, hb, hml, hown, hts⟩ (c_X6_without l H.size x2 w_7 _ h) (va_cwS 2 hts gX0_wordAhead_X6_without rfl rfl rfl (by decide +kernel) ⟨Nat.le_of_ble_eq_true rfl, Nat.le_of_ble_eq_true rfl⟩) ⟨fun a U g mk q => by obtain ⟨q0, q1⟩ := q; exact ⟨q0, q1⟩, fun U hU hW => ⟨rfl, congrArg Array.size hU⟩⟩ rfl rfl hl.1 rfl (lv_room (Nat.le_of_ble_eq_true rfl)) dX0_wordAhead_93 ⟨Nat.zero_le _, Nat.zero_le _⟩) hS (fun q _ h => hFc q h) hFc (fun r_11 zz t H1 locs ht hvm hw hB hz1 hk1 hS => ?_)
          replace hP := fl_keep hP hk1
          replace h := hw
          generalize H1 = H at hP hS ⊢
          refine lv_goto (tgt := 100) hx hb dX0_wordAhead_96 (by decide) ?_
          subst hQ
          exact W.iret (v := r_11) hx hb hr (fun t ht hW => ⟨⟨_, (), rfl, h, by rw [ht]; exact hP, hD⟩, hS.F ht⟩) hS.2.2 dX0_wordAhead_100
    · refine lv_if_eq (tgt := 66) hx hb dX0_wordAhead_54 (by decide) (fun hc_12 => ?_) (fun hc_12 => ?_)
      · replace h := h.1 hc_12
        refine lv_iload_n hx hb dX0_wordAhead_66 rfl (lv_at hl 4 rfl) ?_
        have hFc := fl_freeN hS hA
        refine va_calli (va_runS (As := [.int x2]) (rest := []) ⟨hx, hb, hml, hown, hts⟩ (c_X6_size l H.size x2 _ h) (va_cwS 1 hts gX0_wordAhead_X6_size rfl rfl rfl (by decide +kernel) ⟨Nat.le_of_ble_eq_true rfl, Nat.le_of_ble_eq_true rfl⟩) ⟨fun a U g mk q => by obtain ⟨q0, q1⟩ := q; exact ⟨q0, q1⟩, fun U hU hW => ⟨rfl, congrArg Array.size hU⟩⟩ rfl rfl hl.1 rfl (lv_room (Nat.le_of_ble_eq_true rfl)) dX0_wordAhead_67 ⟨Nat.zero_le _, Nat.zero_le _⟩) hS (fun q _ h => hFc q h) hFc (fun r_13 zz t H1 locs ht hvm hw hB hz1 hk1 hS => ?_)
        replace hP := fl_keep hP hk1
        replace h := hw
        generalize H1 = H at hP hS ⊢
        refine lv_iconst (v := 1) hx hb dX0_wordAhead_70 (by decide) ?_
        refine lv_isub hx hb dX0_wordAhead_71 ?_
        exact ih_JJ_6 _ h _ _ _ hP hD hS (lv_sub hl [0, 4] rfl)
      · replace h := h.2 hc_12
        refine lv_iload_n hx hb dX0_wordAhead_57 rfl (lv_at hl 4 rfl) ?_
        refine lv_iload hx hb dX0_wordAhead_58 (lv_at hl 0 rfl) ?_
        have hFc := fl_freeN hS hA
        refine va_calli (va_runS (As := [.int x2, .int r_2]) (rest := []) ⟨hx, hb, hml, hown, hts⟩ (c_X6_find l H.size x2 r_2 _ h) (va_cwS 2 hts gX0_wordAhead_X6_find rfl rfl rfl (by decide +kernel) ⟨Nat.le_of_ble_eq_true rfl, Nat.le_of_ble_eq_true rfl⟩) ⟨fun a U g mk q => by obtain ⟨q0, q1⟩ := q; exact ⟨q0, q1⟩, fun U hU hW => ⟨rfl, congrArg Array.size hU⟩⟩ rfl rfl hl.1 rfl (lv_room (Nat.le_of_ble_eq_true rfl)) dX0_wordAhead_60 ⟨Nat.zero_le _, Nat.zero_le _⟩) hS (fun q _ h => hFc q h) hFc (fun r_14 zz t H1 locs ht hvm hw hB hz1 hk1 hS => ?_)
        replace hP := fl_keep hP hk1
        replace h := hw
        generalize H1 = H at hP hS ⊢
        refine lv_goto (tgt := 72) hx hb dX0_wordAhead_63 (by decide) ?_
        exact ih_JJ_6 _ h _ _ _ hP hD hS (lv_sub hl [0, 4] rfl)
  · replace h := h.2 hs_4
    by_cases hs_15 : r_3 = 2
    · replace h := h.1 hs_15
      refine lv_lookup (off := 80) (tgt := 101) hx hb dX0_wordAhead_21 (by decide) (by rw [hs_15]; first | done | rfl) (by decide) ?_
      refine lv_aload_n hx hb dX0_wordAhead_101 rfl (lv_at hl 2 rfl) ?_
      refine va_get (D := (dC, dI)) (ci := 0) (v := .ref (a 3)) (C := RX0) (T := TX0) (N := 4) hx hb hts hin_X0 hown hK hP 0 rfl rfl 2 (by decide) lk_0 (fun _ h9 => h9) rfl dX0_wordAhead_102 ?_
      refine lv_iload_n hx hb dX0_wordAhead_105 rfl (lv_at hl 1 rfl) ?_
      obtain ⟨hi_16, h⟩ := h
      refine va_zald (D := (dC, dI)) (cl := vwCl) (i := r_1) hx hb hK hP 1 0 rfl rfl hi_16 dX0_wordAhead_106 ?_
      refine lv_if_eq (tgt := 121) hx hb dX0_wordAhead_107 (by decide) (fun hc_17 => ?_) (fun hc_17 => ?_)
      · replace h := h.1 hc_17
        refine lv_iload_n hx hb dX0_wordAhead_121 rfl (lv_at hl 4 rfl) ?_
        refine lv_iconst (v := 0) hx hb dX0_wordAhead_122 (by decide) ?_
        refine lv_iload hx hb dX0_wordAhead_123 (lv_at hl 0 rfl) ?_
        have hFc := fl_freeN hS hA
        refine va_calli (va_runS (As := [.int x2, .int 0, .int r_2]) (rest := []) ⟨hx, hb, hml, hown, hts⟩ (c_X6_with l H.size x2 0 r_2 _ h) (va_cwS 3 hts gX0_wordAhead_X6_with rfl rfl rfl (by decide +kernel) ⟨Nat.le_of_ble_eq_true rfl, Nat.le_of_ble_eq_true rfl⟩) ⟨fun a U g mk q => by obtain ⟨q0, q1⟩ := q; exact ⟨q0, q1⟩, fun U hU hW => ⟨rfl, congrArg Array.size hU⟩⟩ rfl rfl hl.1 rfl (lv_room (Nat.le_of_ble_eq_true rfl)) dX0_wordAhead_125 ⟨Nat.zero_le _, Nat.zero_le _⟩) hS (fun q _ h => hFc q h) hFc (fun r_18 zz t H1 locs ht hvm hw hB hz1 hk1 hS => ?_)
        replace hP := fl_keep hP hk1
        replace h := hw
        generalize H1 = H at hP hS ⊢
        subst hQ
        exact W.iret (v := r_18) hx hb hr (fun t ht hW => ⟨⟨_, (), rfl, h, by rw [ht]; exact hP, hD⟩, hS.F ht⟩) hS.2.2 dX0_wordAhead_128
      · replace h := h.2 hc_17
        refine lv_aload_n hx hb dX0_wordAhead_110 rfl (lv_at hl 2 rfl) ?_
        refine lv_iload_n hx hb dX0_wordAhead_111 rfl (lv_at hl 1 rfl) ?_
        refine lv_iload_n hx hb dX0_wordAhead_112 rfl (lv_at hl 4 rfl) ?_
        refine lv_iload hx hb dX0_wordAhead_113 (lv_at hl 0 rfl) ?_
        have hPc := hP
        have hDc := hD
        have hKc := hK
        have hFc := va_free (wc := (wd_X0 a ca u)) hD hS hA [0, 1, 2] rfl
        refine va_calli (va_runV (As := [.int r_1, .int x2, .int r_2]) (rest := []) ⟨hx, hb, hml, hown, hts⟩ (c_X0_wordWith l dC dI a ca H.size u r_1 x2 r_2 _ h) (cwV 3 hts gX0_wordAhead_X0_wordWith rfl rfl rfl (by decide +kernel) ⟨Nat.le_of_ble_eq_true rfl, Nat.le_of_ble_eq_true rfl⟩) ⟨fun a U g mk q => by obtain ⟨q0, q1, qP, qK, qD⟩ := q; exact ⟨q0, q1, qP, va_K.moved (u := U) (U := U.calling g mk a) (Vm.Alike.refl U.vm) qK, qD⟩, va_recv hKc hPc (ci := 0) (q0 := 0) rfl rfl, fun U hU hW => ⟨rfl, by rw [hU], by rw [hU]; exact hPc, va_K.moved hW.alike hKc, hDc.weaken (fun _ _ _ _ => trivial)⟩⟩ rfl rfl hl.1 rfl (lv_room (Nat.le_of_ble_eq_true rfl)) dX0_wordAhead_115 ⟨Nat.zero_le _, Nat.zero_le _⟩) hS (fun q _ h => hFc q h) hFc (fun r_19 zz t H1 locs ht hvm hw hB hz1 hk1 hS => ?_)
        replace h := hw
        obtain ⟨hP1, hD1⟩ := hB
        rw [ht] at hP1
        replace hD : va_D A (wd_X0 a ca u) := hD1.weaken (fun _ _ _ h9 => hFc _ h9)
        replace hP : va_P (dC, dI) vwCl (wd_X0 a ca u) H1 := hP1
        generalize H1 = H at hP hS ⊢
        refine lv_goto (tgt := 128) hx hb dX0_wordAhead_118 (by decide) ?_
        subst hQ
        exact W.iret (v := r_19) hx hb hr (fun t ht hW => ⟨⟨_, (), rfl, h, by rw [ht]; exact hP, hD⟩, hS.F ht⟩) hS.2.2 dX0_wordAhead_128
    · replace h := h.2 hs_15
      refine lv_lookup (off := 108) (tgt := 129) hx hb dX0_wordAhead_21 (by decide) (by show Op.lookupswitch.offset [(1, 27), (2, 80)] 108 (Int32.toInt r_3) = 108; rw [lv_osw (a := 1) hs_4 (by decide), lv_osw (a := 2) hs_15 (by decide)]; first | done | rfl) (by decide) ?_
      refine lv_iload_n hx hb dX0_wordAhead_129 rfl (lv_at hl 4 rfl) ?_
      subst hQ
      exact W.iret (v := x2) hx hb hr (fun t ht hW => ⟨⟨_, (), rfl, h, by rw [ht]; exact hP, hD⟩, hS.F ht⟩) hS.2.2 dX0_wordAhead_130
abbrev rm_X1_clear : Room := { frames := 0, cells := 0, slots := 0, locals := 0 }
set_option maxHeartbeats 4000000 in
set_option maxRecDepth 100000 in
theorem c_X1_clear (l : Launch) (dC : Nat → ClassId) (dI : Nat → Nat → Nat) (a : Nat → Nat) (ca : Nat → ClassId) (sz : Nat) (u : Ob) (x1 : Int32) (post : Ob → Prop) (h : wp_X1_clear u x1 post) : Met l yX1_clear wsX1_clear rm_X1_clear (va_Pc [.ref (a 0), .int x1] (fun U => U.heap.size = sz ∧ va_P (dC, dI) vwCl (wd_X1 a ca u) U.heap ∧ va_K (dC, dI) vwCl (ty_X1 ca) U ∧ va_D (fun _ => True) (wd_X1 a ca u))) (va_Qv post (fun (zz : Ob) (t : State) => va_P (dC, dI) vwCl (wd_X1 a ca zz) t.heap ∧ va_D (va_A (wd_X1 a ca u) sz) (wd_X1 a ca zz)) (va_A (wd_X1 a ca u) sz)) 0 0 (va_A (wd_X1 a ca u) sz) := by
  refine fl_ofW (cc := cX1_clear) (maxL := 2) (ret := none) (by decide) rfl ?_
  intro p e s m args below meth c s₁ Q B hml hv hQ
  obtain ⟨hargs, hsz, hP, hK, hD0⟩ := hv
  have hx := B.exec
  have hb := B.bytes
  have hr := B.returns
  have hts := atoms_spec (ws := wsX1_clear) B.pre
  have hown : s.vm.findClass RX1 = some m.cls := findClass_of_methodNamed B.named
  subst hsz
  have hD := hD0.self (sz := s.heap.size)
  generalize hAe : va_A (wd_X1 a ca u) s.heap.size = A at hD hQ
  have hA : ∀ q : Nat, s.heap.size ≤ q → A q := fun q h => by rw [← hAe]; exact Or.inr h
  have hS : va_S A s.heap s.heap [] := va_S.rf
  have hl := lv_entry ([.ref (a 0), .int x1]) (n := 2) (Nat.le_of_ble_eq_true rfl)
  refine W.eq (g2 := F0 m 0 ((lg_sl ([.ref (a 0), .int x1]) ++ List.replicate (2 - (lg_sl ([.ref (a 0), .int x1])).length) Slot.unset).toArray) []) (by rw [hargs]; exact lg_entry_eq m _ 2) ?_
  generalize (lg_sl ([.ref (a 0), .int x1]) ++ List.replicate (2 - (lg_sl ([.ref (a 0), .int x1])).length) Slot.unset).toArray = ls at hl ⊢
  have hl : lv_has ls 2 [(0, .ref (a 0)), (1, .int x1)] := hl
  suffices hstart : ∀ (H : Heap) (locs : List Loc) (ls : Array Slot), va_P (dC, dI) vwCl (wd_X1 a ca u) H → va_D A (wd_X1 a ca u) → va_S A s.heap H locs → lv_has ls 2 [(0, .ref (a 0)), (1, .int x1)] → W p l e (headSpec wsX1_clear rm_X1_clear).room s m args below meth c H locs 0 0 Q (F0 m 0 ls []) from hstart _ _ _ hP hD hS hl
  clear hS hP hD hD0
  intro H locs ls hP hD hS hl
  have hin_X1 : ∀ w ∈ wsX10, w ∈ wsX1_clear := by decide +kernel
  have lk_0 := hts (.fieldLink RX1 15 "ForgettingLines$Place" "state" "I") (by decide +kernel)
  have lk_1 := hts (.fieldLink RX1 9 "ForgettingLines$Place" "words" "[I") (by decide +kernel)
  unfold wp_X1_clear at h
  refine lv_aload_n hx hb dX1_clear_0 rfl (lv_at hl 0 rfl) ?_
  refine lv_iload_n hx hb dX1_clear_1 rfl (lv_at hl 1 rfl) ?_
  refine va_put (D := (dC, dI)) (ci := 1) (v := .int x1) (ty := .int) (C := RX1) (T := TX1) (N := 2) hx hb hts hin_X1 tyX1 tyX1_ok nmX1 hown hK hP hD hS 0 rfl rfl 0 (by decide) lk_0 (fun _ h9 => h9) rfl (by decide +kernel) rfl rfl (Nat.le_of_ble_eq_true rfl) dX1_clear_2 (fun H locs hP hD hS => ?_)
  obtain ⟨u_1, eu_1⟩ : ∃ z : Ob, z = fs_i u 0 x1 := ⟨_, rfl⟩
  replace h := h u_1 eu_1
  replace hP : va_P (dC, dI) vwCl (wd_X1 a ca u_1) H := by rw [eu_1]; exact hP
  replace hD : va_D A (wd_X1 a ca u_1) := by rw [eu_1]; exact hD
  refine lv_aload_n hx hb dX1_clear_5 rfl (lv_at hl 0 rfl) ?_
  refine va_get (D := (dC, dI)) (ci := 1) (v := .ref (a 2)) (C := RX1) (T := TX1) (N := 2) hx hb hts hin_X1 hown hK hP 0 rfl rfl 1 (by decide) lk_1 (fun _ h9 => h9) rfl dX1_clear_6 ?_
  refine lv_iconst (v := 0) hx hb dX1_clear_9 (by decide) ?_
  refine lv_iconst (v := 0) hx hb dX1_clear_10 (by decide) ?_
  obtain ⟨hi_2, h⟩ := h
  refine va_iast (D := (dC, dI)) (cl := vwCl) (i := 0) hx hb hK hP hD hS 1 0 rfl rfl hi_2 dX1_clear_11 (fun H locs hP hD hS => ?_)
  obtain ⟨u_3, eu_3⟩ : ∃ z : Ob, z = fs_a u_1 1 (upd (u_1.2.1 1) (0 : Int32).toNatClampNeg 0) := ⟨_, rfl⟩
  replace h := h u_3 eu_3
  replace hP : va_P (dC, dI) vwCl (wd_X1 a ca u_3) H := by rw [eu_3]; exact hP
  replace hD : va_D A (wd_X1 a ca u_3) := by rw [eu_3]; exact hD
  refine lv_aload_n hx hb dX1_clear_12 rfl (lv_at hl 0 rfl) ?_
  refine va_get (D := (dC, dI)) (ci := 1) (v := .ref (a 2)) (C := RX1) (T := TX1) (N := 2) hx hb hts hin_X1 hown hK hP 0 rfl rfl 1 (by decide) lk_1 (fun _ h9 => h9) rfl dX1_clear_13 ?_
  refine lv_iconst (v := 1) hx hb dX1_clear_16 (by decide) ?_
  refine lv_iconst (v := 0) hx hb dX1_clear_17 (by decide) ?_
  obtain ⟨hi_4, h⟩ := h
  refine va_iast (D := (dC, dI)) (cl := vwCl) (i := 1) hx hb hK hP hD hS 1 0 rfl rfl hi_4 dX1_clear_18 (fun H locs hP hD hS => ?_)
  obtain ⟨u_5, eu_5⟩ : ∃ z : Ob, z = fs_a u_3 1 (upd (u_3.2.1 1) (1 : Int32).toNatClampNeg 0) := ⟨_, rfl⟩
  replace h := h u_5 eu_5
  replace hP : va_P (dC, dI) vwCl (wd_X1 a ca u_5) H := by rw [eu_5]; exact hP
  replace hD : va_D A (wd_X1 a ca u_5) := by rw [eu_5]; exact hD
  subst hQ
  exact W.vret hx hb hr (fun t ht hW => ⟨⟨u_5, rfl, h, by rw [ht]; exact hP, hD⟩, hS.F ht⟩) hS.2.2 dX1_clear_19
