abbrev rm_X8_in : Room := { frames := 0, cells := 0, slots := 0, locals := 0 }
set_option maxHeartbeats 4000000 in
set_option maxRecDepth 100000 in
theorem c_X8_in (l : Launch) (sz : Nat) (x1 : Int32) (x2 : Int32) (x3 : Int32) (post : Int32 → Prop) (h : wp_X8_in x1 x2 x3 post) : Met l yX8_in wsX8_in rm_X8_in (va_Pc [.int x1, .int x2, .int x3] (fun U => U.heap.size = sz)) (va_Qi (fun (rr : Int32) (_ : Unit) => post rr) (fun (_ : Unit) (_ : State) => True) (va_A [] sz)) 0 0 (va_A [] sz) := by
  refine fl_ofW (cc := cX8_in) (maxL := 3) (ret := (some .boolean)) (by decide) rfl ?_
  intro p e s m args below meth c s₁ Q B hml hv hQ
  obtain ⟨hargs, hsz⟩ := hv
  have hx := B.exec
  have hb := B.bytes
  have hr := B.returns
  have hts := atoms_spec (ws := wsX8_in) B.pre
  have hown : s.vm.findClass RX8 = some m.cls := findClass_of_methodNamed B.named
  subst hsz
  generalize hAe : va_A [] s.heap.size = A at hQ
  have hA : ∀ q : Nat, s.heap.size ≤ q → A q := fun q h => by rw [← hAe]; exact Or.inr h
  have hS : va_S A s.heap s.heap [] := va_S.rf
  have hl := lv_entry ([.int x1, .int x2, .int x3]) (n := 3) (Nat.le_of_ble_eq_true rfl)
  refine W.eq (g2 := F0 m 0 ((lg_sl ([.int x1, .int x2, .int x3]) ++ List.replicate (3 - (lg_sl ([.int x1, .int x2, .int x3])).length) Slot.unset).toArray) []) (by rw [hargs]; exact lg_entry_eq m _ 3) ?_
  generalize (lg_sl ([.int x1, .int x2, .int x3]) ++ List.replicate (3 - (lg_sl ([.int x1, .int x2, .int x3])).length) Slot.unset).toArray = ls at hl ⊢
  have hl : lv_has ls 3 [(0, .int x1), (1, .int x2), (2, .int x3)] := hl
  suffices hstart : ∀ (H : Heap) (locs : List Loc) (ls : Array Slot), va_S A s.heap H locs → lv_has ls 3 [(0, .int x1), (1, .int x2), (2, .int x3)] → W p l e (headSpec wsX8_in rm_X8_in).room s m args below meth c H locs 0 0 Q (F0 m 0 ls []) from hstart _ _ _ hS hl
  clear hS
  intro H locs ls hS hl
  unfold wp_X8_in at h
  refine lv_iload_n hx hb dX8_in_0 rfl (lv_at hl 0 rfl) ?_
  refine lv_iload_n hx hb dX8_in_1 rfl (lv_at hl 1 rfl) ?_
  refine lv_icmp_lt (tgt := 14) hx hb dX8_in_2 (by decide) (fun hc_1 => ?_) (fun hc_1 => ?_)
  · replace h := h.1 hc_1
    refine lv_iconst (v := 0) hx hb dX8_in_14 (by decide) ?_
    subst hQ
    exact W.zret (v := 0) hx hb hr (by rfl) (fun t ht hW => ⟨⟨_, (), rfl, h, trivial⟩, hS.F ht⟩) hS.2.2 dX8_in_15
  · replace h := h.2 hc_1
    refine lv_iload_n hx hb dX8_in_5 rfl (lv_at hl 0 rfl) ?_
    refine lv_iload_n hx hb dX8_in_6 rfl (lv_at hl 2 rfl) ?_
    refine lv_icmp_gt (tgt := 14) hx hb dX8_in_7 (by decide) (fun hc_2 => ?_) (fun hc_2 => ?_)
    · replace h := h.1 hc_2
      refine lv_iconst (v := 0) hx hb dX8_in_14 (by decide) ?_
      subst hQ
      exact W.zret (v := 0) hx hb hr (by rfl) (fun t ht hW => ⟨⟨_, (), rfl, h, trivial⟩, hS.F ht⟩) hS.2.2 dX8_in_15
    · replace h := h.2 hc_2
      refine lv_iconst (v := 1) hx hb dX8_in_10 (by decide) ?_
      refine lv_goto (tgt := 15) hx hb dX8_in_11 (by decide) ?_
      subst hQ
      exact W.zret (v := 1) hx hb hr (by rfl) (fun t ht hW => ⟨⟨_, (), rfl, h, trivial⟩, hS.F ht⟩) hS.2.2 dX8_in_15
abbrev rm_X8_empty : Room := { frames := 0, cells := 0, slots := 0, locals := 0 }
set_option maxHeartbeats 4000000 in
set_option maxRecDepth 100000 in
theorem c_X8_empty (l : Launch) (dC : Nat → ClassId) (dI : Nat → Nat → Nat) (a : Nat → Nat) (ca : Nat → ClassId) (sz : Nat) (u : Ob) (x1 : Int32) (x2 : Int32) (post : Ob → Prop) (h : wp_X8_empty u x1 x2 post) : Met l yX8_empty wsX8_empty rm_X8_empty (va_Pc [.ref (a 0), .int x1, .int x2] (fun U => U.heap.size = sz ∧ va_P (dC, dI) vwCl (wd_X8 a ca u) U.heap ∧ va_K (dC, dI) vwCl (ty_X8 ca) U ∧ va_D (fun _ => True) (wd_X8 a ca u))) (va_Qv post (fun (zz : Ob) (t : State) => va_P (dC, dI) vwCl (wd_X8 a ca zz) t.heap ∧ va_D (va_A (wd_X8 a ca u) sz) (wd_X8 a ca zz)) (va_A (wd_X8 a ca u) sz)) 0 0 (va_A (wd_X8 a ca u) sz) := by
  refine fl_ofW (cc := cX8_empty) (maxL := 3) (ret := none) (by decide) rfl ?_
  intro p e s m args below meth c s₁ Q B hml hv hQ
  obtain ⟨hargs, hsz, hP, hK, hD0⟩ := hv
  have hx := B.exec
  have hb := B.bytes
  have hr := B.returns
  have hts := atoms_spec (ws := wsX8_empty) B.pre
  have hown : s.vm.findClass RX8 = some m.cls := findClass_of_methodNamed B.named
  subst hsz
  have hD := hD0.self (sz := s.heap.size)
  generalize hAe : va_A (wd_X8 a ca u) s.heap.size = A at hD hQ
  have hA : ∀ q : Nat, s.heap.size ≤ q → A q := fun q h => by rw [← hAe]; exact Or.inr h
  have hS : va_S A s.heap s.heap [] := va_S.rf
  have hl := lv_entry ([.ref (a 0), .int x1, .int x2]) (n := 3) (Nat.le_of_ble_eq_true rfl)
  refine W.eq (g2 := F0 m 0 ((lg_sl ([.ref (a 0), .int x1, .int x2]) ++ List.replicate (3 - (lg_sl ([.ref (a 0), .int x1, .int x2])).length) Slot.unset).toArray) []) (by rw [hargs]; exact lg_entry_eq m _ 3) ?_
  generalize (lg_sl ([.ref (a 0), .int x1, .int x2]) ++ List.replicate (3 - (lg_sl ([.ref (a 0), .int x1, .int x2])).length) Slot.unset).toArray = ls at hl ⊢
  have hl : lv_has ls 3 [(0, .ref (a 0)), (1, .int x1), (2, .int x2)] := hl
  suffices hstart : ∀ (H : Heap) (locs : List Loc) (ls : Array Slot), va_P (dC, dI) vwCl (wd_X8 a ca u) H → va_D A (wd_X8 a ca u) → va_S A s.heap H locs → lv_has ls 3 [(0, .ref (a 0)), (1, .int x1), (2, .int x2)] → W p l e (headSpec wsX8_empty rm_X8_empty).room s m args below meth c H locs 0 0 Q (F0 m 0 ls []) from hstart _ _ _ hP hD hS hl
  clear hS hP hD hD0
  intro H locs ls hP hD hS hl
  have hin_X8 : ∀ w ∈ wsX80, w ∈ wsX8_empty := by decide +kernel
  have lk_0 := hts (.fieldLink RX8 39 "ForgettingLinesModel" "stateOf" "[I") (by decide +kernel)
  have lk_1 := hts (.fieldLink RX8 42 "ForgettingLinesModel" "sizes" "[I") (by decide +kernel)
  unfold wp_X8_empty at h
  refine lv_aload_n hx hb dX8_empty_0 rfl (lv_at hl 0 rfl) ?_
  refine va_get (D := (dC, dI)) (ci := 7) (v := .ref (a 14)) (C := RX8) (T := TX8) (N := 25) hx hb hts hin_X8 hown hK hP 0 rfl rfl 13 (by decide) lk_0 (fun _ h9 => h9) rfl dX8_empty_1 ?_
  refine lv_iload_n hx hb dX8_empty_4 rfl (lv_at hl 1 rfl) ?_
  refine lv_iload_n hx hb dX8_empty_5 rfl (lv_at hl 2 rfl) ?_
  obtain ⟨hi_1, h⟩ := h
  refine va_iast (D := (dC, dI)) (cl := vwCl) (i := x1) hx hb hK hP hD hS 9 8 rfl rfl hi_1 dX8_empty_6 (fun H locs hP hD hS => ?_)
  obtain ⟨u_2, eu_2⟩ : ∃ z : Ob, z = fs_a u 13 (upd (u.2.1 13) x1.toNatClampNeg x2) := ⟨_, rfl⟩
  replace h := h u_2 eu_2
  replace hP : va_P (dC, dI) vwCl (wd_X8 a ca u_2) H := by rw [eu_2]; exact hP
  replace hD : va_D A (wd_X8 a ca u_2) := by rw [eu_2]; exact hD
  refine lv_aload_n hx hb dX8_empty_7 rfl (lv_at hl 0 rfl) ?_
  refine va_get (D := (dC, dI)) (ci := 7) (v := .ref (a 15)) (C := RX8) (T := TX8) (N := 25) hx hb hts hin_X8 hown hK hP 0 rfl rfl 14 (by decide) lk_1 (fun _ h9 => h9) rfl dX8_empty_8 ?_
  refine lv_iconst (v := 2) hx hb dX8_empty_11 (by decide) ?_
  refine lv_iload_n hx hb dX8_empty_12 rfl (lv_at hl 1 rfl) ?_
  refine lv_imul hx hb dX8_empty_13 ?_
  refine lv_iconst (v := 0) hx hb dX8_empty_14 (by decide) ?_
  obtain ⟨hi_3, h⟩ := h
  refine va_iast (D := (dC, dI)) (cl := vwCl) (i := (2 * x1)) hx hb hK hP hD hS 10 9 rfl rfl hi_3 dX8_empty_15 (fun H locs hP hD hS => ?_)
  obtain ⟨u_4, eu_4⟩ : ∃ z : Ob, z = fs_a u_2 14 (upd (u_2.2.1 14) (2 * x1).toNatClampNeg 0) := ⟨_, rfl⟩
  replace h := h u_4 eu_4
  replace hP : va_P (dC, dI) vwCl (wd_X8 a ca u_4) H := by rw [eu_4]; exact hP
  replace hD : va_D A (wd_X8 a ca u_4) := by rw [eu_4]; exact hD
  refine lv_aload_n hx hb dX8_empty_16 rfl (lv_at hl 0 rfl) ?_
  refine va_get (D := (dC, dI)) (ci := 7) (v := .ref (a 15)) (C := RX8) (T := TX8) (N := 25) hx hb hts hin_X8 hown hK hP 0 rfl rfl 14 (by decide) lk_1 (fun _ h9 => h9) rfl dX8_empty_17 ?_
  refine lv_iconst (v := 2) hx hb dX8_empty_20 (by decide) ?_
  refine lv_iload_n hx hb dX8_empty_21 rfl (lv_at hl 1 rfl) ?_
  refine lv_imul hx hb dX8_empty_22 ?_
  refine lv_iconst (v := 1) hx hb dX8_empty_23 (by decide) ?_
  refine lv_iadd hx hb dX8_empty_24 ?_
  refine lv_iconst (v := 0) hx hb dX8_empty_25 (by decide) ?_
  obtain ⟨hi_5, h⟩ := h
  refine va_iast (D := (dC, dI)) (cl := vwCl) (i := ((2 * x1) + 1)) hx hb hK hP hD hS 10 9 rfl rfl hi_5 dX8_empty_26 (fun H locs hP hD hS => ?_)
  obtain ⟨u_6, eu_6⟩ : ∃ z : Ob, z = fs_a u_4 14 (upd (u_4.2.1 14) ((2 * x1) + 1).toNatClampNeg 0) := ⟨_, rfl⟩
  replace h := h u_6 eu_6
  replace hP : va_P (dC, dI) vwCl (wd_X8 a ca u_6) H := by rw [eu_6]; exact hP
  replace hD : va_D A (wd_X8 a ca u_6) := by rw [eu_6]; exact hD
  subst hQ
  exact W.vret hx hb hr (fun t ht hW => ⟨⟨u_6, rfl, h, by rw [ht]; exact hP, hD⟩, hS.F ht⟩) hS.2.2 dX8_empty_27
abbrev rm_X8_states : Room := { frames := 1, cells := 0, slots := 0, locals := 22 }
set_option maxHeartbeats 4000000 in
set_option maxRecDepth 100000 in
theorem c_X8_states (l : Launch) (dC : Nat → ClassId) (dI : Nat → Nat → Nat) (a : Nat → Nat) (ca : Nat → ClassId) (sz : Nat) (u : Ob) (x1 : Int32) (post : Int32 → Ob → Prop) (h : wp_X8_states u x1 post) : Met l yX8_states wsX8_states rm_X8_states (va_Pc [.ref (a 0), .int x1] (fun U => U.heap.size = sz ∧ va_P (dC, dI) vwCl (wd_X8 a ca u) U.heap ∧ va_K (dC, dI) vwCl (ty_X8 ca) U ∧ va_D (fun _ => True) (wd_X8 a ca u))) (va_Qi post (fun (zz : Ob) (t : State) => va_P (dC, dI) vwCl (wd_X8 a ca zz) t.heap ∧ va_D (va_A (wd_X8 a ca u) sz) (wd_X8 a ca zz)) (va_A (wd_X8 a ca u) sz)) 0 0 (va_A (wd_X8 a ca u) sz) := by
  refine fl_ofW (cc := cX8_states) (maxL := 3) (ret := (some .int)) (by decide) rfl ?_
  intro p e s m args below meth c s₁ Q B hml hv hQ
  obtain ⟨hargs, hsz, hP, hK, hD0⟩ := hv
  have hx := B.exec
  have hb := B.bytes
  have hr := B.returns
  have hts := atoms_spec (ws := wsX8_states) B.pre
  have hown : s.vm.findClass RX8 = some m.cls := findClass_of_methodNamed B.named
  subst hsz
  have hD := hD0.self (sz := s.heap.size)
  generalize hAe : va_A (wd_X8 a ca u) s.heap.size = A at hD hQ
  have hA : ∀ q : Nat, s.heap.size ≤ q → A q := fun q h => by rw [← hAe]; exact Or.inr h
  have hS : va_S A s.heap s.heap [] := va_S.rf
  have hl := lv_entry ([.ref (a 0), .int x1]) (n := 3) (Nat.le_of_ble_eq_true rfl)
  refine W.eq (g2 := F0 m 0 ((lg_sl ([.ref (a 0), .int x1]) ++ List.replicate (3 - (lg_sl ([.ref (a 0), .int x1])).length) Slot.unset).toArray) []) (by rw [hargs]; exact lg_entry_eq m _ 3) ?_
  generalize (lg_sl ([.ref (a 0), .int x1]) ++ List.replicate (3 - (lg_sl ([.ref (a 0), .int x1])).length) Slot.unset).toArray = ls at hl ⊢
  have hl : lv_has ls 3 [(0, .ref (a 0)), (1, .int x1)] := hl
  suffices hstart : ∀ (H : Heap) (locs : List Loc) (ls : Array Slot), va_P (dC, dI) vwCl (wd_X8 a ca u) H → va_D A (wd_X8 a ca u) → va_S A s.heap H locs → lv_has ls 3 [(0, .ref (a 0)), (1, .int x1)] → W p l e (headSpec wsX8_states rm_X8_states).room s m args below meth c H locs 0 0 Q (F0 m 0 ls []) from hstart _ _ _ hP hD hS hl
  clear hS hP hD hD0
  intro H locs ls hP hD hS hl
  have hin_X8 : ∀ w ∈ wsX80, w ∈ wsX8_states := by decide +kernel
  have lk_0 := hts (.fieldLink RX8 7 "ForgettingLinesModel" "states" "I") (by decide +kernel)
  have lk_1 := hts (.fieldLink RX8 77 "ForgettingLinesModel" "arcs" "I") (by decide +kernel)
  unfold wp_X8_states at h
  refine lv_iload_n hx hb dX8_states_0 rfl (lv_at hl 1 rfl) ?_
  refine lv_iconst (v := 1) hx hb dX8_states_1 (by decide) ?_
  refine lv_bipush (v := 8) hx hb dX8_states_2 (by decide) ?_
  have hFc := fl_freeN hS hA
  refine va_calli (va_runS (As := [.int x1, .int 1, .int 8]) (rest := []) ⟨hx, hb, hml, hown, hts⟩ (c_X8_in l H.size x1 1 8 _ h) (va_cwS 3 hts gX8_states_X8_in rfl rfl rfl (by decide +kernel) ⟨Nat.le_of_ble_eq_true rfl, Nat.le_of_ble_eq_true rfl⟩) ⟨fun a U g mk q => by obtain ⟨q0, q1⟩ := q; exact ⟨q0, q1⟩, fun U hU hW => ⟨rfl, congrArg Array.size hU⟩⟩ rfl rfl hl.1 rfl (lv_room (Nat.le_of_ble_eq_true rfl)) dX8_states_4 ⟨Nat.zero_le _, Nat.zero_le _⟩) hS (fun q _ h => hFc q h) hFc (fun r_1 zz t H1 locs ht hvm hw hB hz1 hk1 hS => ?_)
  replace hP := fl_keep hP hk1
  replace h := hw
  generalize H1 = H at hP hS ⊢
  refine lv_if_ne (tgt := 12) hx hb dX8_states_7 (by decide) (fun hc_2 => ?_) (fun hc_2 => ?_)
  · replace h := h.1 hc_2
    refine lv_aload_n hx hb dX8_states_12 rfl (lv_at hl 0 rfl) ?_
    refine va_get (D := (dC, dI)) (ci := 7) (v := .int (u.1 0)) (C := RX8) (T := TX8) (N := 25) hx hb hts hin_X8 hown hK hP 0 rfl rfl 0 (by decide) lk_0 (fun _ h9 => h9) rfl dX8_states_13 ?_
    refine lv_istore_n (lv' := [(2, .int (u.1 0)), (0, .ref (a 0)), (1, .int x1)]) hx hb dX8_states_16 rfl hl (by decide) rfl (fun ls hl => ?_)
    refine lv_aload_n hx hb dX8_states_17 rfl (lv_at hl 1 rfl) ?_
    refine lv_iload_n hx hb dX8_states_18 rfl (lv_at hl 2 rfl) ?_
    refine va_put (D := (dC, dI)) (ci := 7) (v := .int x1) (ty := .int) (C := RX8) (T := TX8) (N := 25) hx hb hts hin_X8 tyX8 tyX8_ok nmX8 hown hK hP hD hS 0 rfl rfl 0 (by decide) lk_0 (fun _ h9 => h9) rfl (by decide +kernel) rfl rfl (Nat.le_of_ble_eq_true rfl) dX8_states_19 (fun H locs hP hD hS => ?_)
    obtain ⟨u_3, eu_3⟩ : ∃ z : Ob, z = fs_i u 0 x1 := ⟨_, rfl⟩
    replace h := h u_3 eu_3
    replace hP : va_P (dC, dI) vwCl (wd_X8 a ca u_3) H := by rw [eu_3]; exact hP
    replace hD : va_D A (wd_X8 a ca u_3) := by rw [eu_3]; exact hD
    refine lv_aload_n hx hb dX8_states_22 rfl (lv_at hl 1 rfl) ?_
    refine lv_iconst (v := 0) hx hb dX8_states_23 (by decide) ?_
    refine va_put (D := (dC, dI)) (ci := 7) (v := .int 0) (ty := .int) (C := RX8) (T := TX8) (N := 25) hx hb hts hin_X8 tyX8 tyX8_ok nmX8 hown hK hP hD hS 0 rfl rfl 2 (by decide) lk_1 (fun _ h9 => h9) rfl (by decide +kernel) rfl rfl (Nat.le_of_ble_eq_true rfl) dX8_states_24 (fun H locs hP hD hS => ?_)
    obtain ⟨u_4, eu_4⟩ : ∃ z : Ob, z = fs_i u_3 2 0 := ⟨_, rfl⟩
    replace h := h u_4 eu_4
    replace hP : va_P (dC, dI) vwCl (wd_X8 a ca u_4) H := by rw [eu_4]; exact hP
    replace hD : va_D A (wd_X8 a ca u_4) := by rw [eu_4]; exact hD
    refine lv_aload_n hx hb dX8_states_27 rfl (lv_at hl 1 rfl) ?_
    refine lv_bipush (v := 81) hx hb dX8_states_28 (by decide) ?_
    refine lv_iconst (v := 0) hx hb dX8_states_30 (by decide) ?_
    have hPc := hP
    have hDc := hD
    have hKc := hK
    have hFc := va_free (wc := (wd_X8 a ca u_4)) hD hS hA [0, 1, 2, 3, 4, 5, 6, 7, 8, 9, 10, 11, 12, 13, 14, 15, 16, 17, 18, 19] rfl
    refine va_callv (va_runV (As := [.int 81, .int 0]) (rest := []) ⟨hx, hb, hml, hown, hts⟩ (c_X8_empty l dC dI a ca H.size u_4 81 0 _ h) (cwV 2 hts gX8_states_X8_empty rfl rfl rfl (by decide +kernel) ⟨Nat.le_of_ble_eq_true rfl, Nat.le_of_ble_eq_true rfl⟩) ⟨fun a U g mk q => by obtain ⟨q0, q1, qP, qK, qD⟩ := q; exact ⟨q0, q1, qP, va_K.moved (u := U) (U := U.calling g mk a) (Vm.Alike.refl U.vm) qK, qD⟩, va_recv hKc hPc (ci := 7) (q0 := 0) rfl rfl, fun U hU hW => ⟨rfl, by rw [hU], by rw [hU]; exact hPc, va_K.moved hW.alike hKc, hDc.weaken (fun _ _ _ _ => trivial)⟩⟩ rfl rfl hl.1 rfl (lv_room (Nat.le_of_ble_eq_true rfl)) dX8_states_31 ⟨Nat.zero_le _, Nat.zero_le _⟩) hS (fun q _ h => hFc q h) hFc (fun zz t H1 locs ht hvm hw hB hz1 hk1 hS => ?_)
    obtain ⟨u_5, rfl⟩ : ∃ z, z = zz := ⟨_, rfl⟩
    replace h := hw
    obtain ⟨hP1, hD1⟩ := hB
    rw [ht] at hP1
    replace hD : va_D A (wd_X8 a ca u_5) := hD1.weaken (fun _ _ _ h9 => hFc _ h9)
    replace hP : va_P (dC, dI) vwCl (wd_X8 a ca u_5) H1 := hP1
    generalize H1 = H at hP hS ⊢
    refine lv_aload_n hx hb dX8_states_34 rfl (lv_at hl 1 rfl) ?_
    refine lv_bipush (v := 82) hx hb dX8_states_35 (by decide) ?_
    refine lv_iconst (v := 0) hx hb dX8_states_37 (by decide) ?_
    have hPc := hP
    have hDc := hD
    have hKc := hK
    have hFc := va_free (wc := (wd_X8 a ca u_5)) hD hS hA [0, 1, 2, 3, 4, 5, 6, 7, 8, 9, 10, 11, 12, 13, 14, 15, 16, 17, 18, 19] rfl
    refine va_callv (va_runV (As := [.int 82, .int 0]) (rest := []) ⟨hx, hb, hml, hown, hts⟩ (c_X8_empty l dC dI a ca H.size u_5 82 0 _ h) (cwV 2 hts gX8_states_X8_empty rfl rfl rfl (by decide +kernel) ⟨Nat.le_of_ble_eq_true rfl, Nat.le_of_ble_eq_true rfl⟩) ⟨fun a U g mk q => by obtain ⟨q0, q1, qP, qK, qD⟩ := q; exact ⟨q0, q1, qP, va_K.moved (u := U) (U := U.calling g mk a) (Vm.Alike.refl U.vm) qK, qD⟩, va_recv hKc hPc (ci := 7) (q0 := 0) rfl rfl, fun U hU hW => ⟨rfl, by rw [hU], by rw [hU]; exact hPc, va_K.moved hW.alike hKc, hDc.weaken (fun _ _ _ _ => trivial)⟩⟩ rfl rfl hl.1 rfl (lv_room (Nat.le_of_ble_eq_true rfl)) dX8_states_38 ⟨Nat.zero_le _, Nat.zero_le _⟩) hS (fun q _ h => hFc q h) hFc (fun zz t H1 locs ht hvm hw hB hz1 hk1 hS => ?_)
    obtain ⟨u_6, rfl⟩ : ∃ z, z = zz := ⟨_, rfl⟩
    replace h := hw
    obtain ⟨hP1, hD1⟩ := hB
    rw [ht] at hP1
    replace hD : va_D A (wd_X8 a ca u_6) := hD1.weaken (fun _ _ _ h9 => hFc _ h9)
    replace hP : va_P (dC, dI) vwCl (wd_X8 a ca u_6) H1 := hP1
    generalize H1 = H at hP hS ⊢
    refine lv_iload_n hx hb dX8_states_41 rfl (lv_at hl 0 rfl) ?_
    subst hQ
    exact W.iret (v := (u.1 0)) hx hb hr (fun t ht hW => ⟨⟨_, u_6, rfl, h, by rw [ht]; exact hP, hD⟩, hS.F ht⟩) hS.2.2 dX8_states_42
  · replace h := h.2 hc_2
    refine lv_iconst (v := (-1)) hx hb dX8_states_10 (by decide) ?_
    subst hQ
    exact W.iret (v := (-1)) hx hb hr (fun t ht hW => ⟨⟨_, u, rfl, h, by rw [ht]; exact hP, hD⟩, hS.F ht⟩) hS.2.2 dX8_states_11
abbrev rm_X8_bag : Room := { frames := 1, cells := 0, slots := 0, locals := 22 }
set_option maxHeartbeats 4000000 in
set_option maxRecDepth 100000 in
theorem c_X8_bag (l : Launch) (dC : Nat → ClassId) (dI : Nat → Nat → Nat) (a : Nat → Nat) (ca : Nat → ClassId) (sz : Nat) (u : Ob) (x1 : Int32) (x2 : Int32) (post : Int32 → Ob → Prop) (h : wp_X8_bag u x1 x2 post) : Met l yX8_bag wsX8_bag rm_X8_bag (va_Pc [.ref (a 0), .int x1, .int x2] (fun U => U.heap.size = sz ∧ va_P (dC, dI) vwCl (wd_X8 a ca u) U.heap ∧ va_K (dC, dI) vwCl (ty_X8 ca) U ∧ va_D (fun _ => True) (wd_X8 a ca u))) (va_Qi post (fun (zz : Ob) (t : State) => va_P (dC, dI) vwCl (wd_X8 a ca zz) t.heap ∧ va_D (va_A (wd_X8 a ca u) sz) (wd_X8 a ca zz)) (va_A (wd_X8 a ca u) sz)) 0 0 (va_A (wd_X8 a ca u) sz) := by
  refine fl_ofW (cc := cX8_bag) (maxL := 4) (ret := (some .int)) (by decide) rfl ?_
  intro p e s m args below meth c s₁ Q B hml hv hQ
  obtain ⟨hargs, hsz, hP, hK, hD0⟩ := hv
  have hx := B.exec
  have hb := B.bytes
  have hr := B.returns
  have hts := atoms_spec (ws := wsX8_bag) B.pre
  have hown : s.vm.findClass RX8 = some m.cls := findClass_of_methodNamed B.named
  subst hsz
  have hD := hD0.self (sz := s.heap.size)
  generalize hAe : va_A (wd_X8 a ca u) s.heap.size = A at hD hQ
  have hA : ∀ q : Nat, s.heap.size ≤ q → A q := fun q h => by rw [← hAe]; exact Or.inr h
  have hS : va_S A s.heap s.heap [] := va_S.rf
  have hl := lv_entry ([.ref (a 0), .int x1, .int x2]) (n := 4) (Nat.le_of_ble_eq_true rfl)
  refine W.eq (g2 := F0 m 0 ((lg_sl ([.ref (a 0), .int x1, .int x2]) ++ List.replicate (4 - (lg_sl ([.ref (a 0), .int x1, .int x2])).length) Slot.unset).toArray) []) (by rw [hargs]; exact lg_entry_eq m _ 4) ?_
  generalize (lg_sl ([.ref (a 0), .int x1, .int x2]) ++ List.replicate (4 - (lg_sl ([.ref (a 0), .int x1, .int x2])).length) Slot.unset).toArray = ls at hl ⊢
  have hl : lv_has ls 4 [(0, .ref (a 0)), (1, .int x1), (2, .int x2)] := hl
  suffices hstart : ∀ (H : Heap) (locs : List Loc) (ls : Array Slot), va_P (dC, dI) vwCl (wd_X8 a ca u) H → va_D A (wd_X8 a ca u) → va_S A s.heap H locs → lv_has ls 4 [(0, .ref (a 0)), (1, .int x1), (2, .int x2)] → W p l e (headSpec wsX8_bag rm_X8_bag).room s m args below meth c H locs 0 0 Q (F0 m 0 ls []) from hstart _ _ _ hP hD hS hl
  clear hS hP hD hD0
  intro H locs ls hP hD hS hl
  have hin_X8 : ∀ w ∈ wsX80, w ∈ wsX8_bag := by decide +kernel
  have lk_0 := hts (.fieldLink RX8 13 "ForgettingLinesModel" "bags" "[Z") (by decide +kernel)
  unfold wp_X8_bag at h
  refine lv_iload_n hx hb dX8_bag_0 rfl (lv_at hl 1 rfl) ?_
  refine lv_iconst (v := 0) hx hb dX8_bag_1 (by decide) ?_
  refine lv_iconst (v := 1) hx hb dX8_bag_2 (by decide) ?_
  have hFc := fl_freeN hS hA
  refine va_calli (va_runS (As := [.int x1, .int 0, .int 1]) (rest := []) ⟨hx, hb, hml, hown, hts⟩ (c_X8_in l H.size x1 0 1 _ h) (va_cwS 3 hts gX8_bag_X8_in rfl rfl rfl (by decide +kernel) ⟨Nat.le_of_ble_eq_true rfl, Nat.le_of_ble_eq_true rfl⟩) ⟨fun a U g mk q => by obtain ⟨q0, q1⟩ := q; exact ⟨q0, q1⟩, fun U hU hW => ⟨rfl, congrArg Array.size hU⟩⟩ rfl rfl hl.1 rfl (lv_room (Nat.le_of_ble_eq_true rfl)) dX8_bag_3 ⟨Nat.zero_le _, Nat.zero_le _⟩) hS (fun q _ h => hFc q h) hFc (fun r_1 zz t H1 locs ht hvm hw hB hz1 hk1 hS => ?_)
  replace hP := fl_keep hP hk1
  replace h := hw
  generalize H1 = H at hP hS ⊢
  refine lv_if_ne (tgt := 11) hx hb dX8_bag_6 (by decide) (fun hc_2 => ?_) (fun hc_2 => ?_)
  · replace h := h.1 hc_2
    refine lv_aload_n hx hb dX8_bag_11 rfl (lv_at hl 0 rfl) ?_
    refine va_get (D := (dC, dI)) (ci := 7) (v := .ref (a 2)) (C := RX8) (T := TX8) (N := 25) hx hb hts hin_X8 hown hK hP 0 rfl rfl 1 (by decide) lk_0 (fun _ h9 => h9) rfl dX8_bag_12 ?_
    refine lv_iload_n hx hb dX8_bag_15 rfl (lv_at hl 1 rfl) ?_
    obtain ⟨hi_3, h⟩ := h
    refine va_zald (D := (dC, dI)) (cl := vwCl) (i := x1) hx hb hK hP 1 0 rfl rfl hi_3 dX8_bag_16 ?_
    refine lv_istore_n (lv' := [(3, .int (u.2.1 1 x1.toNatClampNeg)), (0, .ref (a 0)), (1, .int x1), (2, .int x2)]) hx hb dX8_bag_17 rfl hl (by decide) rfl (fun ls hl => ?_)
    refine lv_aload_n hx hb dX8_bag_18 rfl (lv_at hl 1 rfl) ?_
    refine va_get (D := (dC, dI)) (ci := 7) (v := .ref (a 2)) (C := RX8) (T := TX8) (N := 25) hx hb hts hin_X8 hown hK hP 0 rfl rfl 1 (by decide) lk_0 (fun _ h9 => h9) rfl dX8_bag_19 ?_
    refine lv_iload_n hx hb dX8_bag_22 rfl (lv_at hl 2 rfl) ?_
    refine lv_iload_n hx hb dX8_bag_23 rfl (lv_at hl 3 rfl) ?_
    obtain ⟨hi_4, h⟩ := h
    refine va_zast (D := (dC, dI)) (cl := vwCl) (i := x1) hx hb hK hP hD hS 1 0 rfl rfl hi_4 dX8_bag_24 (fun H locs hP hD hS => ?_)
    obtain ⟨u_5, eu_5⟩ : ∃ z : Ob, z = fs_a u 1 (upd (u.2.1 1) x1.toNatClampNeg (vp_nar .boolean x2)) := ⟨_, rfl⟩
    replace h := h u_5 eu_5
    replace hP : va_P (dC, dI) vwCl (wd_X8 a ca u_5) H := by rw [eu_5]; exact hP
    replace hD : va_D A (wd_X8 a ca u_5) := by rw [eu_5]; exact hD
    refine lv_aload_n hx hb dX8_bag_25 rfl (lv_at hl 1 rfl) ?_
    refine lv_bipush (v := 81) hx hb dX8_bag_26 (by decide) ?_
    refine lv_iconst (v := 0) hx hb dX8_bag_28 (by decide) ?_
    have hPc := hP
    have hDc := hD
    have hKc := hK
    have hFc := va_free (wc := (wd_X8 a ca u_5)) hD hS hA [0, 1, 2, 3, 4, 5, 6, 7, 8, 9, 10, 11, 12, 13, 14, 15, 16, 17, 18, 19] rfl
    refine va_callv (va_runV (As := [.int 81, .int 0]) (rest := []) ⟨hx, hb, hml, hown, hts⟩ (c_X8_empty l dC dI a ca H.size u_5 81 0 _ h) (cwV 2 hts gX8_bag_X8_empty rfl rfl rfl (by decide +kernel) ⟨Nat.le_of_ble_eq_true rfl, Nat.le_of_ble_eq_true rfl⟩) ⟨fun a U g mk q => by obtain ⟨q0, q1, qP, qK, qD⟩ := q; exact ⟨q0, q1, qP, va_K.moved (u := U) (U := U.calling g mk a) (Vm.Alike.refl U.vm) qK, qD⟩, va_recv hKc hPc (ci := 7) (q0 := 0) rfl rfl, fun U hU hW => ⟨rfl, by rw [hU], by rw [hU]; exact hPc, va_K.moved hW.alike hKc, hDc.weaken (fun _ _ _ _ => trivial)⟩⟩ rfl rfl hl.1 rfl (lv_room (Nat.le_of_ble_eq_true rfl)) dX8_bag_29 ⟨Nat.zero_le _, Nat.zero_le _⟩) hS (fun q _ h => hFc q h) hFc (fun zz t H1 locs ht hvm hw hB hz1 hk1 hS => ?_)
    obtain ⟨u_6, rfl⟩ : ∃ z, z = zz := ⟨_, rfl⟩
    replace h := hw
    obtain ⟨hP1, hD1⟩ := hB
    rw [ht] at hP1
    replace hD : va_D A (wd_X8 a ca u_6) := hD1.weaken (fun _ _ _ h9 => hFc _ h9)
    replace hP : va_P (dC, dI) vwCl (wd_X8 a ca u_6) H1 := hP1
    generalize H1 = H at hP hS ⊢
    refine lv_aload_n hx hb dX8_bag_32 rfl (lv_at hl 1 rfl) ?_
    refine lv_bipush (v := 82) hx hb dX8_bag_33 (by decide) ?_
    refine lv_iconst (v := 0) hx hb dX8_bag_35 (by decide) ?_
    have hPc := hP
    have hDc := hD
    have hKc := hK
    have hFc := va_free (wc := (wd_X8 a ca u_6)) hD hS hA [0, 1, 2, 3, 4, 5, 6, 7, 8, 9, 10, 11, 12, 13, 14, 15, 16, 17, 18, 19] rfl
    refine va_callv (va_runV (As := [.int 82, .int 0]) (rest := []) ⟨hx, hb, hml, hown, hts⟩ (c_X8_empty l dC dI a ca H.size u_6 82 0 _ h) (cwV 2 hts gX8_bag_X8_empty rfl rfl rfl (by decide +kernel) ⟨Nat.le_of_ble_eq_true rfl, Nat.le_of_ble_eq_true rfl⟩) ⟨fun a U g mk q => by obtain ⟨q0, q1, qP, qK, qD⟩ := q; exact ⟨q0, q1, qP, va_K.moved (u := U) (U := U.calling g mk a) (Vm.Alike.refl U.vm) qK, qD⟩, va_recv hKc hPc (ci := 7) (q0 := 0) rfl rfl, fun U hU hW => ⟨rfl, by rw [hU], by rw [hU]; exact hPc, va_K.moved hW.alike hKc, hDc.weaken (fun _ _ _ _ => trivial)⟩⟩ rfl rfl hl.1 rfl (lv_room (Nat.le_of_ble_eq_true rfl)) dX8_bag_36 ⟨Nat.zero_le _, Nat.zero_le _⟩) hS (fun q _ h => hFc q h) hFc (fun zz t H1 locs ht hvm hw hB hz1 hk1 hS => ?_)
    obtain ⟨u_7, rfl⟩ : ∃ z, z = zz := ⟨_, rfl⟩
    replace h := hw
    obtain ⟨hP1, hD1⟩ := hB
    rw [ht] at hP1
    replace hD : va_D A (wd_X8 a ca u_7) := hD1.weaken (fun _ _ _ h9 => hFc _ h9)
    replace hP : va_P (dC, dI) vwCl (wd_X8 a ca u_7) H1 := hP1
    generalize H1 = H at hP hS ⊢
    refine lv_iload_n hx hb dX8_bag_39 rfl (lv_at hl 0 rfl) ?_
    refine lv_if_eq (tgt := 47) hx hb dX8_bag_40 (by decide) (fun hc_8 => ?_) (fun hc_8 => ?_)
    · replace h := h.1 hc_8
      refine lv_iconst (v := 0) hx hb dX8_bag_47 (by decide) ?_
      subst hQ
      exact W.iret (v := 0) hx hb hr (fun t ht hW => ⟨⟨_, u_7, rfl, h, by rw [ht]; exact hP, hD⟩, hS.F ht⟩) hS.2.2 dX8_bag_48
    · replace h := h.2 hc_8
      refine lv_iconst (v := 1) hx hb dX8_bag_43 (by decide) ?_
      refine lv_goto (tgt := 48) hx hb dX8_bag_44 (by decide) ?_
      subst hQ
      exact W.iret (v := 1) hx hb hr (fun t ht hW => ⟨⟨_, u_7, rfl, h, by rw [ht]; exact hP, hD⟩, hS.F ht⟩) hS.2.2 dX8_bag_48
  · replace h := h.2 hc_2
    refine lv_iconst (v := (-1)) hx hb dX8_bag_9 (by decide) ?_
    subst hQ
    exact W.iret (v := (-1)) hx hb hr (fun t ht hW => ⟨⟨_, u, rfl, h, by rw [ht]; exact hP, hD⟩, hS.F ht⟩) hS.2.2 dX8_bag_10
abbrev rm_X8_isState : Room := { frames := 1, cells := 0, slots := 0, locals := 22 }
set_option maxHeartbeats 4000000 in
set_option maxRecDepth 100000 in
theorem c_X8_isState (l : Launch) (dC : Nat → ClassId) (dI : Nat → Nat → Nat) (a : Nat → Nat) (ca : Nat → ClassId) (sz : Nat) (u : Ob) (x1 : Int32) (post : Int32 → Prop) (h : wp_X8_isState u x1 post) : Met l yX8_isState wsX8_isState rm_X8_isState (va_Pc [.ref (a 0), .int x1] (fun U => U.heap.size = sz ∧ va_P (dC, dI) vwCl (wd_X8 a ca u) U.heap ∧ va_K (dC, dI) vwCl (ty_X8 ca) U ∧ va_D (fun _ => True) (wd_X8 a ca u))) (va_Qi (fun (rr : Int32) (_ : Unit) => post rr) (fun (zz : Unit) (t : State) => va_P (dC, dI) vwCl (wd_X8 a ca u) t.heap ∧ va_D (va_A (wd_X8 a ca u) sz) (wd_X8 a ca u)) (va_A (wd_X8 a ca u) sz)) 0 0 (va_A (wd_X8 a ca u) sz) := by
  refine fl_ofW (cc := cX8_isState) (maxL := 2) (ret := (some .boolean)) (by decide) rfl ?_
  intro p e s m args below meth c s₁ Q B hml hv hQ
  obtain ⟨hargs, hsz, hP, hK, hD0⟩ := hv
  have hx := B.exec
  have hb := B.bytes
  have hr := B.returns
  have hts := atoms_spec (ws := wsX8_isState) B.pre
  have hown : s.vm.findClass RX8 = some m.cls := findClass_of_methodNamed B.named
  subst hsz
  have hD := hD0.self (sz := s.heap.size)
  generalize hAe : va_A (wd_X8 a ca u) s.heap.size = A at hD hQ
  have hA : ∀ q : Nat, s.heap.size ≤ q → A q := fun q h => by rw [← hAe]; exact Or.inr h
  have hS : va_S A s.heap s.heap [] := va_S.rf
  have hl := lv_entry ([.ref (a 0), .int x1]) (n := 2) (Nat.le_of_ble_eq_true rfl)
  refine W.eq (g2 := F0 m 0 ((lg_sl ([.ref (a 0), .int x1]) ++ List.replicate (2 - (lg_sl ([.ref (a 0), .int x1])).length) Slot.unset).toArray) []) (by rw [hargs]; exact lg_entry_eq m _ 2) ?_
  generalize (lg_sl ([.ref (a 0), .int x1]) ++ List.replicate (2 - (lg_sl ([.ref (a 0), .int x1])).length) Slot.unset).toArray = ls at hl ⊢
  have hl : lv_has ls 2 [(0, .ref (a 0)), (1, .int x1)] := hl
  suffices hstart : ∀ (H : Heap) (locs : List Loc) (ls : Array Slot), va_P (dC, dI) vwCl (wd_X8 a ca u) H → va_D A (wd_X8 a ca u) → va_S A s.heap H locs → lv_has ls 2 [(0, .ref (a 0)), (1, .int x1)] → W p l e (headSpec wsX8_isState rm_X8_isState).room s m args below meth c H locs 0 0 Q (F0 m 0 ls []) from hstart _ _ _ hP hD hS hl
  clear hS hP hD hD0
  intro H locs ls hP hD hS hl
  have hin_X8 : ∀ w ∈ wsX80, w ∈ wsX8_isState := by decide +kernel
  have lk_0 := hts (.fieldLink RX8 7 "ForgettingLinesModel" "states" "I") (by decide +kernel)
  unfold wp_X8_isState at h
  refine lv_iload_n hx hb dX8_isState_0 rfl (lv_at hl 1 rfl) ?_
  refine lv_iconst (v := 0) hx hb dX8_isState_1 (by decide) ?_
  refine lv_aload_n hx hb dX8_isState_2 rfl (lv_at hl 0 rfl) ?_
  refine va_get (D := (dC, dI)) (ci := 7) (v := .int (u.1 0)) (C := RX8) (T := TX8) (N := 25) hx hb hts hin_X8 hown hK hP 0 rfl rfl 0 (by decide) lk_0 (fun _ h9 => h9) rfl dX8_isState_3 ?_
  refine lv_iconst (v := 1) hx hb dX8_isState_6 (by decide) ?_
  refine lv_isub hx hb dX8_isState_7 ?_
  have hFc := fl_freeN hS hA
  refine va_calli (va_runS (As := [.int x1, .int 0, .int ((u.1 0) - 1)]) (rest := []) ⟨hx, hb, hml, hown, hts⟩ (c_X8_in l H.size x1 0 ((u.1 0) - 1) _ h) (va_cwS 3 hts gX8_isState_X8_in rfl rfl rfl (by decide +kernel) ⟨Nat.le_of_ble_eq_true rfl, Nat.le_of_ble_eq_true rfl⟩) ⟨fun a U g mk q => by obtain ⟨q0, q1⟩ := q; exact ⟨q0, q1⟩, fun U hU hW => ⟨rfl, congrArg Array.size hU⟩⟩ rfl rfl hl.1 rfl (lv_room (Nat.le_of_ble_eq_true rfl)) dX8_isState_8 ⟨Nat.zero_le _, Nat.zero_le _⟩) hS (fun q _ h => hFc q h) hFc (fun r_1 zz t H1 locs ht hvm hw hB hz1 hk1 hS => ?_)
  replace hP := fl_keep hP hk1
  replace h := hw
  generalize H1 = H at hP hS ⊢
  obtain ⟨hz, h⟩ := h
  subst hQ
  exact W.zret (v := r_1) hx hb hr hz (fun t ht hW => ⟨⟨_, (), rfl, h, by rw [ht]; exact hP, hD⟩, hS.F ht⟩) hS.2.2 dX8_isState_11
abbrev rm_X8_isGood : Room := { frames := 2, cells := 0, slots := 0, locals := 43 }
set_option maxHeartbeats 4000000 in
set_option maxRecDepth 100000 in
theorem c_X8_isGood (l : Launch) (dC : Nat → ClassId) (dI : Nat → Nat → Nat) (a : Nat → Nat) (ca : Nat → ClassId) (sz : Nat) (u : Ob) (x1 : Int32) (x2 : Int32) (x3 : Int32) (x4 : Int32) (x5 : Int32) (post : Int32 → Prop) (h : wp_X8_isGood u x1 x2 x3 x4 x5 post) : Met l yX8_isGood wsX8_isGood rm_X8_isGood (va_Pc [.ref (a 0), .int x1, .int x2, .int x3, .int x4, .int x5] (fun U => U.heap.size = sz ∧ va_P (dC, dI) vwCl (wd_X8 a ca u) U.heap ∧ va_K (dC, dI) vwCl (ty_X8 ca) U ∧ va_D (fun _ => True) (wd_X8 a ca u))) (va_Qi (fun (rr : Int32) (_ : Unit) => post rr) (fun (zz : Unit) (t : State) => va_P (dC, dI) vwCl (wd_X8 a ca u) t.heap ∧ va_D (va_A (wd_X8 a ca u) sz) (wd_X8 a ca u)) (va_A (wd_X8 a ca u) sz)) 0 0 (va_A (wd_X8 a ca u) sz) := by
  refine fl_ofW (cc := cX8_isGood) (maxL := 7) (ret := (some .boolean)) (by decide) rfl ?_
  intro p e s m args below meth c s₁ Q B hml hv hQ
  obtain ⟨hargs, hsz, hP, hK, hD0⟩ := hv
  have hx := B.exec
  have hb := B.bytes
  have hr := B.returns
  have hts := atoms_spec (ws := wsX8_isGood) B.pre
  have hown : s.vm.findClass RX8 = some m.cls := findClass_of_methodNamed B.named
  subst hsz
  have hD := hD0.self (sz := s.heap.size)
  generalize hAe : va_A (wd_X8 a ca u) s.heap.size = A at hD hQ
  have hA : ∀ q : Nat, s.heap.size ≤ q → A q := fun q h => by rw [← hAe]; exact Or.inr h
  have hS : va_S A s.heap s.heap [] := va_S.rf
  have hl := lv_entry ([.ref (a 0), .int x1, .int x2, .int x3, .int x4, .int x5]) (n := 7) (Nat.le_of_ble_eq_true rfl)
  refine W.eq (g2 := F0 m 0 ((lg_sl ([.ref (a 0), .int x1, .int x2, .int x3, .int x4, .int x5]) ++ List.replicate (7 - (lg_sl ([.ref (a 0), .int x1, .int x2, .int x3, .int x4, .int x5])).length) Slot.unset).toArray) []) (by rw [hargs]; exact lg_entry_eq m _ 7) ?_
  generalize (lg_sl ([.ref (a 0), .int x1, .int x2, .int x3, .int x4, .int x5]) ++ List.replicate (7 - (lg_sl ([.ref (a 0), .int x1, .int x2, .int x3, .int x4, .int x5])).length) Slot.unset).toArray = ls at hl ⊢
  have hl : lv_has ls 7 [(0, .ref (a 0)), (1, .int x1), (2, .int x2), (3, .int x3), (4, .int x4), (5, .int x5)] := hl
  suffices hstart : ∀ (H : Heap) (locs : List Loc) (ls : Array Slot), va_P (dC, dI) vwCl (wd_X8 a ca u) H → va_D A (wd_X8 a ca u) → va_S A s.heap H locs → lv_has ls 7 [(0, .ref (a 0)), (1, .int x1), (2, .int x2), (3, .int x3), (4, .int x4), (5, .int x5)] → W p l e (headSpec wsX8_isGood rm_X8_isGood).room s m args below meth c H locs 0 0 Q (F0 m 0 ls []) from hstart _ _ _ hP hD hS hl
  clear hS hP hD hD0
  intro H locs ls hP hD hS hl
  unfold wp_X8_isGood at h
  refine lv_aload_n hx hb dX8_isGood_0 rfl (lv_at hl 0 rfl) ?_
  refine lv_iload_n hx hb dX8_isGood_1 rfl (lv_at hl 1 rfl) ?_
  have hPc := hP
  have hDc := hD
  have hKc := hK
  have hFc := va_free (wc := (wd_X8 a ca u)) hD hS hA [0, 1, 2, 3, 4, 5, 6, 7, 8, 9, 10, 11, 12, 13, 14, 15, 16, 17, 18, 19] rfl
  refine va_calli (va_runV (As := [.int x1]) (rest := []) ⟨hx, hb, hml, hown, hts⟩ (c_X8_isState l dC dI a ca H.size u x1 _ h) (cwV 1 hts gX8_isGood_X8_isState rfl rfl rfl (by decide +kernel) ⟨Nat.le_of_ble_eq_true rfl, Nat.le_of_ble_eq_true rfl⟩) ⟨fun a U g mk q => by obtain ⟨q0, q1, qP, qK, qD⟩ := q; exact ⟨q0, q1, qP, va_K.moved (u := U) (U := U.calling g mk a) (Vm.Alike.refl U.vm) qK, qD⟩, va_recv hKc hPc (ci := 7) (q0 := 0) rfl rfl, fun U hU hW => ⟨rfl, by rw [hU], by rw [hU]; exact hPc, va_K.moved hW.alike hKc, hDc.weaken (fun _ _ _ _ => trivial)⟩⟩ rfl rfl hl.1 rfl (lv_room (Nat.le_of_ble_eq_true rfl)) dX8_isGood_2 ⟨Nat.zero_le _, Nat.zero_le _⟩) hS (fun q _ h => hFc q h) hFc (fun r_1 zz t H1 locs ht hvm hw hB hz1 hk1 hS => ?_)
  replace h := hw
  obtain ⟨hP1, hD1⟩ := hB
  rw [ht] at hP1
  replace hD : va_D A (wd_X8 a ca u) := hD1.weaken (fun _ _ _ h9 => hFc _ h9)
  replace hP : va_P (dC, dI) vwCl (wd_X8 a ca u) H1 := hP1
  generalize H1 = H at hP hS ⊢
  refine jn1_ind (GG := (fun (w_3 : Int32) => ∀ (H : Heap) (locs : List Loc) (ls : Array Slot), va_P (dC, dI) vwCl (wd_X8 a ca u) H → va_D A (wd_X8 a ca u) → va_S A s.heap H locs → lv_has ls 7 [(2, .int x2), (3, .int x3), (4, .int x4)] → W p l e (headSpec wsX8_isGood rm_X8_isGood).room s m args below meth c H locs 0 0 Q (F0 m 31 ls [.int w_3]))) h (fun w_3 h H locs ls hP hD hS hl => ?_) (fun JJ_2 ih_JJ_2 h => ?_)
  · refine lv_istore (lv' := [(6, .int w_3), (2, .int x2), (3, .int x3), (4, .int x4)]) hx hb dX8_isGood_31 hl (by decide) rfl (fun ls hl => ?_)
    refine lv_iload hx hb dX8_isGood_33 (lv_at hl 0 rfl) ?_
    refine lv_if_eq (tgt := 65) hx hb dX8_isGood_35 (by decide) (fun hc_4 => ?_) (fun hc_4 => ?_)
    · replace h := h.1 hc_4
      refine lv_iconst (v := 0) hx hb dX8_isGood_65 (by decide) ?_
      subst hQ
      exact W.zret (v := 0) hx hb hr (by rfl) (fun t ht hW => ⟨⟨_, (), rfl, h, by rw [ht]; exact hP, hD⟩, hS.F ht⟩) hS.2.2 dX8_isGood_66
    · replace h := h.2 hc_4
      refine lv_iload_n hx hb dX8_isGood_38 rfl (lv_at hl 1 rfl) ?_
      refine lv_if_eq (tgt := 61) hx hb dX8_isGood_39 (by decide) (fun hc_5 => ?_) (fun hc_5 => ?_)
      · replace h := h.1 hc_5
        refine lv_iconst (v := 1) hx hb dX8_isGood_61 (by decide) ?_
        refine lv_goto (tgt := 66) hx hb dX8_isGood_62 (by decide) ?_
        subst hQ
        exact W.zret (v := 1) hx hb hr (by rfl) (fun t ht hW => ⟨⟨_, (), rfl, h, by rw [ht]; exact hP, hD⟩, hS.F ht⟩) hS.2.2 dX8_isGood_66
      · replace h := h.2 hc_5
        refine lv_iload_n hx hb dX8_isGood_42 rfl (lv_at hl 2 rfl) ?_
        refine lv_iconst (v := 0) hx hb dX8_isGood_43 (by decide) ?_
        refine lv_iconst (v := 1) hx hb dX8_isGood_44 (by decide) ?_
        have hFc := fl_freeN hS hA
        refine va_calli (va_runS (As := [.int x3, .int 0, .int 1]) (rest := []) ⟨hx, hb, hml, hown, hts⟩ (c_X8_in l H.size x3 0 1 _ h) (va_cwS 3 hts gX8_isGood_X8_in rfl rfl rfl (by decide +kernel) ⟨Nat.le_of_ble_eq_true rfl, Nat.le_of_ble_eq_true rfl⟩) ⟨fun a U g mk q => by obtain ⟨q0, q1⟩ := q; exact ⟨q0, q1⟩, fun U hU hW => ⟨rfl, congrArg Array.size hU⟩⟩ rfl rfl hl.1 rfl (lv_room (Nat.le_of_ble_eq_true rfl)) dX8_isGood_45 ⟨Nat.zero_le _, Nat.zero_le _⟩) hS (fun q _ h => hFc q h) hFc (fun r_6 zz t H1 locs ht hvm hw hB hz1 hk1 hS => ?_)
        replace hP := fl_keep hP hk1
        replace h := hw
        generalize H1 = H at hP hS ⊢
        refine lv_if_eq (tgt := 65) hx hb dX8_isGood_48 (by decide) (fun hc_7 => ?_) (fun hc_7 => ?_)
        · replace h := h.1 hc_7
          refine lv_iconst (v := 0) hx hb dX8_isGood_65 (by decide) ?_
          subst hQ
          exact W.zret (v := 0) hx hb hr (by rfl) (fun t ht hW => ⟨⟨_, (), rfl, h, by rw [ht]; exact hP, hD⟩, hS.F ht⟩) hS.2.2 dX8_isGood_66
        · replace h := h.2 hc_7
          refine lv_iload hx hb dX8_isGood_51 (lv_at hl 3 rfl) ?_
          refine lv_iconst (v := 0) hx hb dX8_isGood_53 (by decide) ?_
          refine lv_iconst (v := 2) hx hb dX8_isGood_54 (by decide) ?_
          have hFc := fl_freeN hS hA
          refine va_calli (va_runS (As := [.int x4, .int 0, .int 2]) (rest := []) ⟨hx, hb, hml, hown, hts⟩ (c_X8_in l H.size x4 0 2 _ h) (va_cwS 3 hts gX8_isGood_X8_in rfl rfl rfl (by decide +kernel) ⟨Nat.le_of_ble_eq_true rfl, Nat.le_of_ble_eq_true rfl⟩) ⟨fun a U g mk q => by obtain ⟨q0, q1⟩ := q; exact ⟨q0, q1⟩, fun U hU hW => ⟨rfl, congrArg Array.size hU⟩⟩ rfl rfl hl.1 rfl (lv_room (Nat.le_of_ble_eq_true rfl)) dX8_isGood_55 ⟨Nat.zero_le _, Nat.zero_le _⟩) hS (fun q _ h => hFc q h) hFc (fun r_8 zz t H1 locs ht hvm hw hB hz1 hk1 hS => ?_)
          replace hP := fl_keep hP hk1
          replace h := hw
          generalize H1 = H at hP hS ⊢
          refine lv_if_eq (tgt := 65) hx hb dX8_isGood_58 (by decide) (fun hc_9 => ?_) (fun hc_9 => ?_)
          · replace h := h.1 hc_9
            refine lv_iconst (v := 0) hx hb dX8_isGood_65 (by decide) ?_
            subst hQ
            exact W.zret (v := 0) hx hb hr (by rfl) (fun t ht hW => ⟨⟨_, (), rfl, h, by rw [ht]; exact hP, hD⟩, hS.F ht⟩) hS.2.2 dX8_isGood_66
          · replace h := h.2 hc_9
            refine lv_iconst (v := 1) hx hb dX8_isGood_61 (by decide) ?_
            refine lv_goto (tgt := 66) hx hb dX8_isGood_62 (by decide) ?_
            subst hQ
            exact W.zret (v := 1) hx hb hr (by rfl) (fun t ht hW => ⟨⟨_, (), rfl, h, by rw [ht]; exact hP, hD⟩, hS.F ht⟩) hS.2.2 dX8_isGood_66
  · refine lv_if_eq (tgt := 30) hx hb dX8_isGood_5 (by decide) (fun hc_10 => ?_) (fun hc_10 => ?_)
    · replace h := h.1 hc_10
      refine lv_iconst (v := 0) hx hb dX8_isGood_30 (by decide) ?_
      exact ih_JJ_2 _ h _ _ _ hP hD hS (lv_sub hl [2, 3, 4] rfl)
    · replace h := h.2 hc_10
      refine lv_aload_n hx hb dX8_isGood_8 rfl (lv_at hl 0 rfl) ?_
      refine lv_iload hx hb dX8_isGood_9 (lv_at hl 5 rfl) ?_
      have hPc := hP
      have hDc := hD
      have hKc := hK
      have hFc := va_free (wc := (wd_X8 a ca u)) hD hS hA [0, 1, 2, 3, 4, 5, 6, 7, 8, 9, 10, 11, 12, 13, 14, 15, 16, 17, 18, 19] rfl
      refine va_calli (va_runV (As := [.int x5]) (rest := []) ⟨hx, hb, hml, hown, hts⟩ (c_X8_isState l dC dI a ca H.size u x5 _ h) (cwV 1 hts gX8_isGood_X8_isState rfl rfl rfl (by decide +kernel) ⟨Nat.le_of_ble_eq_true rfl, Nat.le_of_ble_eq_true rfl⟩) ⟨fun a U g mk q => by obtain ⟨q0, q1, qP, qK, qD⟩ := q; exact ⟨q0, q1, qP, va_K.moved (u := U) (U := U.calling g mk a) (Vm.Alike.refl U.vm) qK, qD⟩, va_recv hKc hPc (ci := 7) (q0 := 0) rfl rfl, fun U hU hW => ⟨rfl, by rw [hU], by rw [hU]; exact hPc, va_K.moved hW.alike hKc, hDc.weaken (fun _ _ _ _ => trivial)⟩⟩ rfl rfl hl.1 rfl (lv_room (Nat.le_of_ble_eq_true rfl)) dX8_isGood_11 ⟨Nat.zero_le _, Nat.zero_le _⟩) hS (fun q _ h => hFc q h) hFc (fun r_11 zz t H1 locs ht hvm hw hB hz1 hk1 hS => ?_)
      replace h := hw
      obtain ⟨hP1, hD1⟩ := hB
      rw [ht] at hP1
      replace hD : va_D A (wd_X8 a ca u) := hD1.weaken (fun _ _ _ h9 => hFc _ h9)
      replace hP : va_P (dC, dI) vwCl (wd_X8 a ca u) H1 := hP1
      generalize H1 = H at hP hS ⊢
      refine lv_if_eq (tgt := 30) hx hb dX8_isGood_14 (by decide) (fun hc_12 => ?_) (fun hc_12 => ?_)
      · replace h := h.1 hc_12
        refine lv_iconst (v := 0) hx hb dX8_isGood_30 (by decide) ?_
        exact ih_JJ_2 _ h _ _ _ hP hD hS (lv_sub hl [2, 3, 4] rfl)
      · replace h := h.2 hc_12
        refine lv_iload_n hx hb dX8_isGood_17 rfl (lv_at hl 2 rfl) ?_
        refine lv_iconst (v := 0) hx hb dX8_isGood_18 (by decide) ?_
        refine lv_iconst (v := 2) hx hb dX8_isGood_19 (by decide) ?_
        have hFc := fl_freeN hS hA
        refine va_calli (va_runS (As := [.int x2, .int 0, .int 2]) (rest := []) ⟨hx, hb, hml, hown, hts⟩ (c_X8_in l H.size x2 0 2 _ h) (va_cwS 3 hts gX8_isGood_X8_in rfl rfl rfl (by decide +kernel) ⟨Nat.le_of_ble_eq_true rfl, Nat.le_of_ble_eq_true rfl⟩) ⟨fun a U g mk q => by obtain ⟨q0, q1⟩ := q; exact ⟨q0, q1⟩, fun U hU hW => ⟨rfl, congrArg Array.size hU⟩⟩ rfl rfl hl.1 rfl (lv_room (Nat.le_of_ble_eq_true rfl)) dX8_isGood_20 ⟨Nat.zero_le _, Nat.zero_le _⟩) hS (fun q _ h => hFc q h) hFc (fun r_13 zz t H1 locs ht hvm hw hB hz1 hk1 hS => ?_)
        replace hP := fl_keep hP hk1
        replace h := hw
        generalize H1 = H at hP hS ⊢
        refine lv_if_eq (tgt := 30) hx hb dX8_isGood_23 (by decide) (fun hc_14 => ?_) (fun hc_14 => ?_)
        · replace h := h.1 hc_14
          refine lv_iconst (v := 0) hx hb dX8_isGood_30 (by decide) ?_
          exact ih_JJ_2 _ h _ _ _ hP hD hS (lv_sub hl [2, 3, 4] rfl)
        · replace h := h.2 hc_14
          refine lv_iconst (v := 1) hx hb dX8_isGood_26 (by decide) ?_
          refine lv_goto (tgt := 31) hx hb dX8_isGood_27 (by decide) ?_
          exact ih_JJ_2 _ h _ _ _ hP hD hS (lv_sub hl [2, 3, 4] rfl)
abbrev rm_X8_put : Room := { frames := 1, cells := 0, slots := 0, locals := 22 }
set_option maxHeartbeats 4000000 in
set_option maxRecDepth 100000 in
theorem c_X8_put (l : Launch) (dC : Nat → ClassId) (dI : Nat → Nat → Nat) (a : Nat → Nat) (ca : Nat → ClassId) (sz : Nat) (u : Ob) (x1 : Int32) (x2 : Int32) (x3 : Int32) (x4 : Int32) (x5 : Int32) (post : Ob → Prop) (h : wp_X8_put u x1 x2 x3 x4 x5 post) : Met l yX8_put wsX8_put rm_X8_put (va_Pc [.ref (a 0), .int x1, .int x2, .int x3, .int x4, .int x5] (fun U => U.heap.size = sz ∧ va_P (dC, dI) vwCl (wd_X8 a ca u) U.heap ∧ va_K (dC, dI) vwCl (ty_X8 ca) U ∧ va_D (fun _ => True) (wd_X8 a ca u))) (va_Qv post (fun (zz : Ob) (t : State) => va_P (dC, dI) vwCl (wd_X8 a ca zz) t.heap ∧ va_D (va_A (wd_X8 a ca u) sz) (wd_X8 a ca zz)) (va_A (wd_X8 a ca u) sz)) 0 0 (va_A (wd_X8 a ca u) sz) := by
  refine fl_ofW (cc := cX8_put) (maxL := 6) (ret := none) (by decide) rfl ?_
  intro p e s m args below meth c s₁ Q B hml hv hQ
  obtain ⟨hargs, hsz, hP, hK, hD0⟩ := hv
  have hx := B.exec
  have hb := B.bytes
  have hr := B.returns
  have hts := atoms_spec (ws := wsX8_put) B.pre
  have hown : s.vm.findClass RX8 = some m.cls := findClass_of_methodNamed B.named
  subst hsz
  have hD := hD0.self (sz := s.heap.size)
  generalize hAe : va_A (wd_X8 a ca u) s.heap.size = A at hD hQ
  have hA : ∀ q : Nat, s.heap.size ≤ q → A q := fun q h => by rw [← hAe]; exact Or.inr h
  have hS : va_S A s.heap s.heap [] := va_S.rf
  have hl := lv_entry ([.ref (a 0), .int x1, .int x2, .int x3, .int x4, .int x5]) (n := 6) (Nat.le_of_ble_eq_true rfl)
  refine W.eq (g2 := F0 m 0 ((lg_sl ([.ref (a 0), .int x1, .int x2, .int x3, .int x4, .int x5]) ++ List.replicate (6 - (lg_sl ([.ref (a 0), .int x1, .int x2, .int x3, .int x4, .int x5])).length) Slot.unset).toArray) []) (by rw [hargs]; exact lg_entry_eq m _ 6) ?_
  generalize (lg_sl ([.ref (a 0), .int x1, .int x2, .int x3, .int x4, .int x5]) ++ List.replicate (6 - (lg_sl ([.ref (a 0), .int x1, .int x2, .int x3, .int x4, .int x5])).length) Slot.unset).toArray = ls at hl ⊢
  have hl : lv_has ls 6 [(0, .ref (a 0)), (1, .int x1), (2, .int x2), (3, .int x3), (4, .int x4), (5, .int x5)] := hl
  suffices hstart : ∀ (H : Heap) (locs : List Loc) (ls : Array Slot), va_P (dC, dI) vwCl (wd_X8 a ca u) H → va_D A (wd_X8 a ca u) → va_S A s.heap H locs → lv_has ls 6 [(0, .ref (a 0)), (1, .int x1), (2, .int x2), (3, .int x3), (4, .int x4), (5, .int x5)] → W p l e (headSpec wsX8_put rm_X8_put).room s m args below meth c H locs 0 0 Q (F0 m 0 ls []) from hstart _ _ _ hP hD hS hl
  clear hS hP hD hD0
  intro H locs ls hP hD hS hl
  have hin_X8 : ∀ w ∈ wsX80, w ∈ wsX8_put := by decide +kernel
  have lk_0 := hts (.fieldLink RX8 17 "ForgettingLinesModel" "froms" "[I") (by decide +kernel)
  have lk_1 := hts (.fieldLink RX8 77 "ForgettingLinesModel" "arcs" "I") (by decide +kernel)
  have lk_2 := hts (.fieldLink RX8 21 "ForgettingLinesModel" "acts" "[I") (by decide +kernel)
  have lk_3 := hts (.fieldLink RX8 24 "ForgettingLinesModel" "lines" "[I") (by decide +kernel)
  have lk_4 := hts (.fieldLink RX8 27 "ForgettingLinesModel" "letters" "[I") (by decide +kernel)
  have lk_5 := hts (.fieldLink RX8 30 "ForgettingLinesModel" "tos" "[I") (by decide +kernel)
  unfold wp_X8_put at h
  refine lv_aload_n hx hb dX8_put_0 rfl (lv_at hl 0 rfl) ?_
  refine va_get (D := (dC, dI)) (ci := 7) (v := .ref (a 4)) (C := RX8) (T := TX8) (N := 25) hx hb hts hin_X8 hown hK hP 0 rfl rfl 3 (by decide) lk_0 (fun _ h9 => h9) rfl dX8_put_1 ?_
  refine lv_aload_n hx hb dX8_put_4 rfl (lv_at hl 0 rfl) ?_
  refine va_get (D := (dC, dI)) (ci := 7) (v := .int (u.1 2)) (C := RX8) (T := TX8) (N := 25) hx hb hts hin_X8 hown hK hP 0 rfl rfl 2 (by decide) lk_1 (fun _ h9 => h9) rfl dX8_put_5 ?_
  refine lv_iload_n hx hb dX8_put_8 rfl (lv_at hl 1 rfl) ?_
  obtain ⟨hi_1, h⟩ := h
  refine va_iast (D := (dC, dI)) (cl := vwCl) (i := (u.1 2)) hx hb hK hP hD hS 2 1 rfl rfl hi_1 dX8_put_9 (fun H locs hP hD hS => ?_)
  obtain ⟨u_2, eu_2⟩ : ∃ z : Ob, z = fs_a u 3 (upd (u.2.1 3) (u.1 2).toNatClampNeg x1) := ⟨_, rfl⟩
  replace h := h u_2 eu_2
  replace hP : va_P (dC, dI) vwCl (wd_X8 a ca u_2) H := by rw [eu_2]; exact hP
  replace hD : va_D A (wd_X8 a ca u_2) := by rw [eu_2]; exact hD
  refine lv_aload_n hx hb dX8_put_10 rfl (lv_at hl 0 rfl) ?_
  refine va_get (D := (dC, dI)) (ci := 7) (v := .ref (a 5)) (C := RX8) (T := TX8) (N := 25) hx hb hts hin_X8 hown hK hP 0 rfl rfl 4 (by decide) lk_2 (fun _ h9 => h9) rfl dX8_put_11 ?_
  refine lv_aload_n hx hb dX8_put_14 rfl (lv_at hl 0 rfl) ?_
  refine va_get (D := (dC, dI)) (ci := 7) (v := .int (u_2.1 2)) (C := RX8) (T := TX8) (N := 25) hx hb hts hin_X8 hown hK hP 0 rfl rfl 2 (by decide) lk_1 (fun _ h9 => h9) rfl dX8_put_15 ?_
  refine lv_iload_n hx hb dX8_put_18 rfl (lv_at hl 2 rfl) ?_
  obtain ⟨hi_3, h⟩ := h
  refine va_iast (D := (dC, dI)) (cl := vwCl) (i := (u_2.1 2)) hx hb hK hP hD hS 3 2 rfl rfl hi_3 dX8_put_19 (fun H locs hP hD hS => ?_)
  obtain ⟨u_4, eu_4⟩ : ∃ z : Ob, z = fs_a u_2 4 (upd (u_2.2.1 4) (u_2.1 2).toNatClampNeg x2) := ⟨_, rfl⟩
  replace h := h u_4 eu_4
  replace hP : va_P (dC, dI) vwCl (wd_X8 a ca u_4) H := by rw [eu_4]; exact hP
  replace hD : va_D A (wd_X8 a ca u_4) := by rw [eu_4]; exact hD
  refine lv_aload_n hx hb dX8_put_20 rfl (lv_at hl 0 rfl) ?_
  refine va_get (D := (dC, dI)) (ci := 7) (v := .ref (a 6)) (C := RX8) (T := TX8) (N := 25) hx hb hts hin_X8 hown hK hP 0 rfl rfl 5 (by decide) lk_3 (fun _ h9 => h9) rfl dX8_put_21 ?_
  refine lv_aload_n hx hb dX8_put_24 rfl (lv_at hl 0 rfl) ?_
  refine va_get (D := (dC, dI)) (ci := 7) (v := .int (u_4.1 2)) (C := RX8) (T := TX8) (N := 25) hx hb hts hin_X8 hown hK hP 0 rfl rfl 2 (by decide) lk_1 (fun _ h9 => h9) rfl dX8_put_25 ?_
  refine lv_iload_n hx hb dX8_put_28 rfl (lv_at hl 2 rfl) ?_
  refine jn1_ind (GG := (fun (w_6 : Int32) => ∀ (H : Heap) (locs : List Loc) (ls : Array Slot), va_P (dC, dI) vwCl (wd_X8 a ca u_4) H → va_D A (wd_X8 a ca u_4) → va_S A s.heap H locs → lv_has ls 6 [(0, .ref (a 0)), (2, .int x2), (4, .int x4), (5, .int x5)] → W p l e (headSpec wsX8_put rm_X8_put).room s m args below meth c H locs 0 0 Q (F0 m 37 ls [.int w_6, .int (u_4.1 2), .ref (a 6)]))) h (fun w_6 h H locs ls hP hD hS hl => ?_) (fun JJ_5 ih_JJ_5 h => ?_)
  · obtain ⟨hi_7, h⟩ := h
    refine va_iast (D := (dC, dI)) (cl := vwCl) (i := (u_4.1 2)) hx hb hK hP hD hS 4 3 rfl rfl hi_7 dX8_put_37 (fun H locs hP hD hS => ?_)
    obtain ⟨u_8, eu_8⟩ : ∃ z : Ob, z = fs_a u_4 5 (upd (u_4.2.1 5) (u_4.1 2).toNatClampNeg w_6) := ⟨_, rfl⟩
    replace h := h u_8 eu_8
    replace hP : va_P (dC, dI) vwCl (wd_X8 a ca u_8) H := by rw [eu_8]; exact hP
    replace hD : va_D A (wd_X8 a ca u_8) := by rw [eu_8]; exact hD
    refine lv_aload_n hx hb dX8_put_38 rfl (lv_at hl 0 rfl) ?_
    refine va_get (D := (dC, dI)) (ci := 7) (v := .ref (a 7)) (C := RX8) (T := TX8) (N := 25) hx hb hts hin_X8 hown hK hP 0 rfl rfl 6 (by decide) lk_4 (fun _ h9 => h9) rfl dX8_put_39 ?_
    refine lv_aload_n hx hb dX8_put_42 rfl (lv_at hl 0 rfl) ?_
    refine va_get (D := (dC, dI)) (ci := 7) (v := .int (u_8.1 2)) (C := RX8) (T := TX8) (N := 25) hx hb hts hin_X8 hown hK hP 0 rfl rfl 2 (by decide) lk_1 (fun _ h9 => h9) rfl dX8_put_43 ?_
    refine lv_iload_n hx hb dX8_put_46 rfl (lv_at hl 1 rfl) ?_
    refine jn1_ind (GG := (fun (w_10 : Int32) => ∀ (H : Heap) (locs : List Loc) (ls : Array Slot), va_P (dC, dI) vwCl (wd_X8 a ca u_8) H → va_D A (wd_X8 a ca u_8) → va_S A s.heap H locs → lv_has ls 6 [(0, .ref (a 0)), (5, .int x5)] → W p l e (headSpec wsX8_put rm_X8_put).room s m args below meth c H locs 0 0 Q (F0 m 56 ls [.int w_10, .int (u_8.1 2), .ref (a 7)]))) h (fun w_10 h H locs ls hP hD hS hl => ?_) (fun JJ_9 ih_JJ_9 h => ?_)
    · obtain ⟨hi_11, h⟩ := h
      refine va_iast (D := (dC, dI)) (cl := vwCl) (i := (u_8.1 2)) hx hb hK hP hD hS 5 4 rfl rfl hi_11 dX8_put_56 (fun H locs hP hD hS => ?_)
      obtain ⟨u_12, eu_12⟩ : ∃ z : Ob, z = fs_a u_8 6 (upd (u_8.2.1 6) (u_8.1 2).toNatClampNeg w_10) := ⟨_, rfl⟩
      replace h := h u_12 eu_12
      replace hP : va_P (dC, dI) vwCl (wd_X8 a ca u_12) H := by rw [eu_12]; exact hP
      replace hD : va_D A (wd_X8 a ca u_12) := by rw [eu_12]; exact hD
      refine lv_aload_n hx hb dX8_put_57 rfl (lv_at hl 0 rfl) ?_
      refine va_get (D := (dC, dI)) (ci := 7) (v := .ref (a 8)) (C := RX8) (T := TX8) (N := 25) hx hb hts hin_X8 hown hK hP 0 rfl rfl 7 (by decide) lk_5 (fun _ h9 => h9) rfl dX8_put_58 ?_
      refine lv_aload_n hx hb dX8_put_61 rfl (lv_at hl 0 rfl) ?_
      refine va_get (D := (dC, dI)) (ci := 7) (v := .int (u_12.1 2)) (C := RX8) (T := TX8) (N := 25) hx hb hts hin_X8 hown hK hP 0 rfl rfl 2 (by decide) lk_1 (fun _ h9 => h9) rfl dX8_put_62 ?_
      refine lv_iload hx hb dX8_put_65 (lv_at hl 1 rfl) ?_
      obtain ⟨hi_13, h⟩ := h
      refine va_iast (D := (dC, dI)) (cl := vwCl) (i := (u_12.1 2)) hx hb hK hP hD hS 6 5 rfl rfl hi_13 dX8_put_67 (fun H locs hP hD hS => ?_)
      obtain ⟨u_14, eu_14⟩ : ∃ z : Ob, z = fs_a u_12 7 (upd (u_12.2.1 7) (u_12.1 2).toNatClampNeg x5) := ⟨_, rfl⟩
      replace h := h u_14 eu_14
      replace hP : va_P (dC, dI) vwCl (wd_X8 a ca u_14) H := by rw [eu_14]; exact hP
      replace hD : va_D A (wd_X8 a ca u_14) := by rw [eu_14]; exact hD
      refine lv_aload_n hx hb dX8_put_68 rfl (lv_at hl 0 rfl) ?_
      refine lv_dup hx hb dX8_put_69 rfl ?_
      refine va_get (D := (dC, dI)) (ci := 7) (v := .int (u_14.1 2)) (C := RX8) (T := TX8) (N := 25) hx hb hts hin_X8 hown hK hP 0 rfl rfl 2 (by decide) lk_1 (fun _ h9 => h9) rfl dX8_put_70 ?_
      refine lv_iconst (v := 1) hx hb dX8_put_73 (by decide) ?_
      refine lv_iadd hx hb dX8_put_74 ?_
      refine va_put (D := (dC, dI)) (ci := 7) (v := .int ((u_14.1 2) + 1)) (ty := .int) (C := RX8) (T := TX8) (N := 25) hx hb hts hin_X8 tyX8 tyX8_ok nmX8 hown hK hP hD hS 0 rfl rfl 2 (by decide) lk_1 (fun _ h9 => h9) rfl (by decide +kernel) rfl rfl (Nat.le_of_ble_eq_true rfl) dX8_put_75 (fun H locs hP hD hS => ?_)
      obtain ⟨u_15, eu_15⟩ : ∃ z : Ob, z = fs_i u_14 2 ((u_14.1 2) + 1) := ⟨_, rfl⟩
      replace h := h u_15 eu_15
      replace hP : va_P (dC, dI) vwCl (wd_X8 a ca u_15) H := by rw [eu_15]; exact hP
      replace hD : va_D A (wd_X8 a ca u_15) := by rw [eu_15]; exact hD
      refine lv_aload_n hx hb dX8_put_78 rfl (lv_at hl 0 rfl) ?_
      refine lv_bipush (v := 82) hx hb dX8_put_79 (by decide) ?_
      refine lv_iconst (v := 0) hx hb dX8_put_81 (by decide) ?_
      have hPc := hP
      have hDc := hD
      have hKc := hK
      have hFc := va_free (wc := (wd_X8 a ca u_15)) hD hS hA [0, 1, 2, 3, 4, 5, 6, 7, 8, 9, 10, 11, 12, 13, 14, 15, 16, 17, 18, 19] rfl
      refine va_callv (va_runV (As := [.int 82, .int 0]) (rest := []) ⟨hx, hb, hml, hown, hts⟩ (c_X8_empty l dC dI a ca H.size u_15 82 0 _ h) (cwV 2 hts gX8_put_X8_empty rfl rfl rfl (by decide +kernel) ⟨Nat.le_of_ble_eq_true rfl, Nat.le_of_ble_eq_true rfl⟩) ⟨fun a U g mk q => by obtain ⟨q0, q1, qP, qK, qD⟩ := q; exact ⟨q0, q1, qP, va_K.moved (u := U) (U := U.calling g mk a) (Vm.Alike.refl U.vm) qK, qD⟩, va_recv hKc hPc (ci := 7) (q0 := 0) rfl rfl, fun U hU hW => ⟨rfl, by rw [hU], by rw [hU]; exact hPc, va_K.moved hW.alike hKc, hDc.weaken (fun _ _ _ _ => trivial)⟩⟩ rfl rfl hl.1 rfl (lv_room (Nat.le_of_ble_eq_true rfl)) dX8_put_82 ⟨Nat.zero_le _, Nat.zero_le _⟩) hS (fun q _ h => hFc q h) hFc (fun zz t H1 locs ht hvm hw hB hz1 hk1 hS => ?_)
      obtain ⟨u_16, rfl⟩ : ∃ z, z = zz := ⟨_, rfl⟩
      replace h := hw
      obtain ⟨hP1, hD1⟩ := hB
      rw [ht] at hP1
      replace hD : va_D A (wd_X8 a ca u_16) := hD1.weaken (fun _ _ _ h9 => hFc _ h9)
      replace hP : va_P (dC, dI) vwCl (wd_X8 a ca u_16) H1 := hP1
      generalize H1 = H at hP hS ⊢
      subst hQ
      exact W.vret hx hb hr (fun t ht hW => ⟨⟨u_16, rfl, h, by rw [ht]; exact hP, hD⟩, hS.F ht⟩) hS.2.2 dX8_put_85
    · refine lv_if_ne (tgt := 54) hx hb dX8_put_47 (by decide) (fun hc_17 => ?_) (fun hc_17 => ?_)
      · replace h := h.1 hc_17
        refine lv_iload hx hb dX8_put_54 (lv_at hl 2 rfl) ?_
        exact ih_JJ_9 _ h _ _ _ hP hD hS (lv_sub hl [0, 3] rfl)
      · replace h := h.2 hc_17
        refine lv_iconst (v := 0) hx hb dX8_put_50 (by decide) ?_
        refine lv_goto (tgt := 56) hx hb dX8_put_51 (by decide) ?_
        exact ih_JJ_9 _ h _ _ _ hP hD hS (lv_sub hl [0, 3] rfl)
  · refine lv_if_ne (tgt := 36) hx hb dX8_put_29 (by decide) (fun hc_18 => ?_) (fun hc_18 => ?_)
    · replace h := h.1 hc_18
      refine lv_iload_n hx hb dX8_put_36 rfl (lv_at hl 3 rfl) ?_
      exact ih_JJ_5 _ h _ _ _ hP hD hS (lv_sub hl [0, 2, 4, 5] rfl)
    · replace h := h.2 hc_18
      refine lv_iconst (v := 0) hx hb dX8_put_32 (by decide) ?_
      refine lv_goto (tgt := 37) hx hb dX8_put_33 (by decide) ?_
      exact ih_JJ_5 _ h _ _ _ hP hD hS (lv_sub hl [0, 2, 4, 5] rfl)
abbrev rm_X8_arc : Room := { frames := 3, cells := 0, slots := 0, locals := 69 }
set_option maxHeartbeats 4000000 in
set_option maxRecDepth 100000 in
theorem c_X8_arc (l : Launch) (dC : Nat → ClassId) (dI : Nat → Nat → Nat) (a : Nat → Nat) (ca : Nat → ClassId) (sz : Nat) (u : Ob) (x1 : Int32) (x2 : Int32) (x3 : Int32) (x4 : Int32) (x5 : Int32) (post : Int32 → Ob → Prop) (h : wp_X8_arc u x1 x2 x3 x4 x5 post) : Met l yX8_arc wsX8_arc rm_X8_arc (va_Pc [.ref (a 0), .int x1, .int x2, .int x3, .int x4, .int x5] (fun U => U.heap.size = sz ∧ va_P (dC, dI) vwCl (wd_X8 a ca u) U.heap ∧ va_K (dC, dI) vwCl (ty_X8 ca) U ∧ va_D (fun _ => True) (wd_X8 a ca u))) (va_Qi post (fun (zz : Ob) (t : State) => va_P (dC, dI) vwCl (wd_X8 a ca zz) t.heap ∧ va_D (va_A (wd_X8 a ca u) sz) (wd_X8 a ca zz)) (va_A (wd_X8 a ca u) sz)) 0 0 (va_A (wd_X8 a ca u) sz) := by
  refine fl_ofW (cc := cX8_arc) (maxL := 6) (ret := (some .int)) (by decide) rfl ?_
  intro p e s m args below meth c s₁ Q B hml hv hQ
  obtain ⟨hargs, hsz, hP, hK, hD0⟩ := hv
  have hx := B.exec
  have hb := B.bytes
  have hr := B.returns
  have hts := atoms_spec (ws := wsX8_arc) B.pre
  have hown : s.vm.findClass RX8 = some m.cls := findClass_of_methodNamed B.named
  subst hsz
  have hD := hD0.self (sz := s.heap.size)
  generalize hAe : va_A (wd_X8 a ca u) s.heap.size = A at hD hQ
  have hA : ∀ q : Nat, s.heap.size ≤ q → A q := fun q h => by rw [← hAe]; exact Or.inr h
  have hS : va_S A s.heap s.heap [] := va_S.rf
  have hl := lv_entry ([.ref (a 0), .int x1, .int x2, .int x3, .int x4, .int x5]) (n := 6) (Nat.le_of_ble_eq_true rfl)
  refine W.eq (g2 := F0 m 0 ((lg_sl ([.ref (a 0), .int x1, .int x2, .int x3, .int x4, .int x5]) ++ List.replicate (6 - (lg_sl ([.ref (a 0), .int x1, .int x2, .int x3, .int x4, .int x5])).length) Slot.unset).toArray) []) (by rw [hargs]; exact lg_entry_eq m _ 6) ?_
  generalize (lg_sl ([.ref (a 0), .int x1, .int x2, .int x3, .int x4, .int x5]) ++ List.replicate (6 - (lg_sl ([.ref (a 0), .int x1, .int x2, .int x3, .int x4, .int x5])).length) Slot.unset).toArray = ls at hl ⊢
  have hl : lv_has ls 6 [(0, .ref (a 0)), (1, .int x1), (2, .int x2), (3, .int x3), (4, .int x4), (5, .int x5)] := hl
  suffices hstart : ∀ (H : Heap) (locs : List Loc) (ls : Array Slot), va_P (dC, dI) vwCl (wd_X8 a ca u) H → va_D A (wd_X8 a ca u) → va_S A s.heap H locs → lv_has ls 6 [(0, .ref (a 0)), (1, .int x1), (2, .int x2), (3, .int x3), (4, .int x4), (5, .int x5)] → W p l e (headSpec wsX8_arc rm_X8_arc).room s m args below meth c H locs 0 0 Q (F0 m 0 ls []) from hstart _ _ _ hP hD hS hl
  clear hS hP hD hD0
  intro H locs ls hP hD hS hl
  have hin_X8 : ∀ w ∈ wsX80, w ∈ wsX8_arc := by decide +kernel
  have lk_0 := hts (.fieldLink RX8 77 "ForgettingLinesModel" "arcs" "I") (by decide +kernel)
  unfold wp_X8_arc at h
  refine lv_aload_n hx hb dX8_arc_0 rfl (lv_at hl 0 rfl) ?_
  refine lv_iload_n hx hb dX8_arc_1 rfl (lv_at hl 1 rfl) ?_
  refine lv_iload_n hx hb dX8_arc_2 rfl (lv_at hl 2 rfl) ?_
  refine lv_iload_n hx hb dX8_arc_3 rfl (lv_at hl 3 rfl) ?_
  refine lv_iload hx hb dX8_arc_4 (lv_at hl 4 rfl) ?_
  refine lv_iload hx hb dX8_arc_6 (lv_at hl 5 rfl) ?_
  have hPc := hP
  have hDc := hD
  have hKc := hK
  have hFc := va_free (wc := (wd_X8 a ca u)) hD hS hA [0, 1, 2, 3, 4, 5, 6, 7, 8, 9, 10, 11, 12, 13, 14, 15, 16, 17, 18, 19] rfl
  refine va_calli (va_runV (As := [.int x1, .int x2, .int x3, .int x4, .int x5]) (rest := []) ⟨hx, hb, hml, hown, hts⟩ (c_X8_isGood l dC dI a ca H.size u x1 x2 x3 x4 x5 _ h) (cwV 5 hts gX8_arc_X8_isGood rfl rfl rfl (by decide +kernel) ⟨Nat.le_of_ble_eq_true rfl, Nat.le_of_ble_eq_true rfl⟩) ⟨fun a U g mk q => by obtain ⟨q0, q1, qP, qK, qD⟩ := q; exact ⟨q0, q1, qP, va_K.moved (u := U) (U := U.calling g mk a) (Vm.Alike.refl U.vm) qK, qD⟩, va_recv hKc hPc (ci := 7) (q0 := 0) rfl rfl, fun U hU hW => ⟨rfl, by rw [hU], by rw [hU]; exact hPc, va_K.moved hW.alike hKc, hDc.weaken (fun _ _ _ _ => trivial)⟩⟩ rfl rfl hl.1 rfl (lv_room (Nat.le_of_ble_eq_true rfl)) dX8_arc_8 ⟨Nat.zero_le _, Nat.zero_le _⟩) hS (fun q _ h => hFc q h) hFc (fun r_1 zz t H1 locs ht hvm hw hB hz1 hk1 hS => ?_)
  replace h := hw
  obtain ⟨hP1, hD1⟩ := hB
  rw [ht] at hP1
  replace hD : va_D A (wd_X8 a ca u) := hD1.weaken (fun _ _ _ h9 => hFc _ h9)
  replace hP : va_P (dC, dI) vwCl (wd_X8 a ca u) H1 := hP1
  generalize H1 = H at hP hS ⊢
  refine lv_if_ne (tgt := 16) hx hb dX8_arc_11 (by decide) (fun hc_2 => ?_) (fun hc_2 => ?_)
  · replace h := h.1 hc_2
    refine lv_aload_n hx hb dX8_arc_16 rfl (lv_at hl 0 rfl) ?_
    refine va_get (D := (dC, dI)) (ci := 7) (v := .int (u.1 2)) (C := RX8) (T := TX8) (N := 25) hx hb hts hin_X8 hown hK hP 0 rfl rfl 2 (by decide) lk_0 (fun _ h9 => h9) rfl dX8_arc_17 ?_
    refine lv_bipush (v := 20) hx hb dX8_arc_20 (by decide) ?_
    refine lv_icmp_ne (tgt := 28) hx hb dX8_arc_22 (by decide) (fun hc_3 => ?_) (fun hc_3 => ?_)
    · replace h := h.1 hc_3
      refine lv_aload_n hx hb dX8_arc_28 rfl (lv_at hl 0 rfl) ?_
      refine lv_iload_n hx hb dX8_arc_29 rfl (lv_at hl 1 rfl) ?_
      refine lv_iload_n hx hb dX8_arc_30 rfl (lv_at hl 2 rfl) ?_
      refine lv_iload_n hx hb dX8_arc_31 rfl (lv_at hl 3 rfl) ?_
      refine lv_iload hx hb dX8_arc_32 (lv_at hl 4 rfl) ?_
      refine lv_iload hx hb dX8_arc_34 (lv_at hl 5 rfl) ?_
      have hPc := hP
      have hDc := hD
      have hKc := hK
      have hFc := va_free (wc := (wd_X8 a ca u)) hD hS hA [0, 1, 2, 3, 4, 5, 6, 7, 8, 9, 10, 11, 12, 13, 14, 15, 16, 17, 18, 19] rfl
      refine va_callv (va_runV (As := [.int x1, .int x2, .int x3, .int x4, .int x5]) (rest := []) ⟨hx, hb, hml, hown, hts⟩ (c_X8_put l dC dI a ca H.size u x1 x2 x3 x4 x5 _ h) (cwV 5 hts gX8_arc_X8_put rfl rfl rfl (by decide +kernel) ⟨Nat.le_of_ble_eq_true rfl, Nat.le_of_ble_eq_true rfl⟩) ⟨fun a U g mk q => by obtain ⟨q0, q1, qP, qK, qD⟩ := q; exact ⟨q0, q1, qP, va_K.moved (u := U) (U := U.calling g mk a) (Vm.Alike.refl U.vm) qK, qD⟩, va_recv hKc hPc (ci := 7) (q0 := 0) rfl rfl, fun U hU hW => ⟨rfl, by rw [hU], by rw [hU]; exact hPc, va_K.moved hW.alike hKc, hDc.weaken (fun _ _ _ _ => trivial)⟩⟩ rfl rfl hl.1 rfl (lv_room (Nat.le_of_ble_eq_true rfl)) dX8_arc_36 ⟨Nat.zero_le _, Nat.zero_le _⟩) hS (fun q _ h => hFc q h) hFc (fun zz t H1 locs ht hvm hw hB hz1 hk1 hS => ?_)
      obtain ⟨u_4, rfl⟩ : ∃ z, z = zz := ⟨_, rfl⟩
      replace h := hw
      obtain ⟨hP1, hD1⟩ := hB
      rw [ht] at hP1
      replace hD : va_D A (wd_X8 a ca u_4) := hD1.weaken (fun _ _ _ h9 => hFc _ h9)
      replace hP : va_P (dC, dI) vwCl (wd_X8 a ca u_4) H1 := hP1
      generalize H1 = H at hP hS ⊢
      refine lv_aload_n hx hb dX8_arc_39 rfl (lv_at hl 0 rfl) ?_
      refine va_get (D := (dC, dI)) (ci := 7) (v := .int (u_4.1 2)) (C := RX8) (T := TX8) (N := 25) hx hb hts hin_X8 hown hK hP 0 rfl rfl 2 (by decide) lk_0 (fun _ h9 => h9) rfl dX8_arc_40 ?_
      refine lv_iconst (v := 1) hx hb dX8_arc_43 (by decide) ?_
      refine lv_isub hx hb dX8_arc_44 ?_
      subst hQ
      exact W.iret (v := ((u_4.1 2) - 1)) hx hb hr (fun t ht hW => ⟨⟨_, u_4, rfl, h, by rw [ht]; exact hP, hD⟩, hS.F ht⟩) hS.2.2 dX8_arc_45
    · replace h := h.2 hc_3
      refine lv_bipush (v := (-3)) hx hb dX8_arc_25 (by decide) ?_
      subst hQ
      exact W.iret (v := (-3)) hx hb hr (fun t ht hW => ⟨⟨_, u, rfl, h, by rw [ht]; exact hP, hD⟩, hS.F ht⟩) hS.2.2 dX8_arc_27
  · replace h := h.2 hc_2
    refine lv_iconst (v := (-1)) hx hb dX8_arc_14 (by decide) ?_
    subst hQ
    exact W.iret (v := (-1)) hx hb hr (fun t ht hW => ⟨⟨_, u, rfl, h, by rw [ht]; exact hP, hD⟩, hS.F ht⟩) hS.2.2 dX8_arc_15
abbrev rm_X8_unarc : Room := { frames := 1, cells := 0, slots := 0, locals := 22 }
set_option maxHeartbeats 4000000 in
set_option maxRecDepth 100000 in
theorem c_X8_unarc (l : Launch) (dC : Nat → ClassId) (dI : Nat → Nat → Nat) (a : Nat → Nat) (ca : Nat → ClassId) (sz : Nat) (u : Ob) (post : Int32 → Ob → Prop) (h : wp_X8_unarc u post) : Met l yX8_unarc wsX8_unarc rm_X8_unarc (va_Pc [.ref (a 0)] (fun U => U.heap.size = sz ∧ va_P (dC, dI) vwCl (wd_X8 a ca u) U.heap ∧ va_K (dC, dI) vwCl (ty_X8 ca) U ∧ va_D (fun _ => True) (wd_X8 a ca u))) (va_Qi post (fun (zz : Ob) (t : State) => va_P (dC, dI) vwCl (wd_X8 a ca zz) t.heap ∧ va_D (va_A (wd_X8 a ca u) sz) (wd_X8 a ca zz)) (va_A (wd_X8 a ca u) sz)) 0 0 (va_A (wd_X8 a ca u) sz) := by
  refine fl_ofW (cc := cX8_unarc) (maxL := 1) (ret := (some .int)) (by decide) rfl ?_
  intro p e s m args below meth c s₁ Q B hml hv hQ
  obtain ⟨hargs, hsz, hP, hK, hD0⟩ := hv
  have hx := B.exec
  have hb := B.bytes
  have hr := B.returns
  have hts := atoms_spec (ws := wsX8_unarc) B.pre
  have hown : s.vm.findClass RX8 = some m.cls := findClass_of_methodNamed B.named
  subst hsz
  have hD := hD0.self (sz := s.heap.size)
  generalize hAe : va_A (wd_X8 a ca u) s.heap.size = A at hD hQ
  have hA : ∀ q : Nat, s.heap.size ≤ q → A q := fun q h => by rw [← hAe]; exact Or.inr h
  have hS : va_S A s.heap s.heap [] := va_S.rf
  have hl := lv_entry ([.ref (a 0)]) (n := 1) (Nat.le_of_ble_eq_true rfl)
  refine W.eq (g2 := F0 m 0 ((lg_sl ([.ref (a 0)]) ++ List.replicate (1 - (lg_sl ([.ref (a 0)])).length) Slot.unset).toArray) []) (by rw [hargs]; exact lg_entry_eq m _ 1) ?_
  generalize (lg_sl ([.ref (a 0)]) ++ List.replicate (1 - (lg_sl ([.ref (a 0)])).length) Slot.unset).toArray = ls at hl ⊢
  have hl : lv_has ls 1 [(0, .ref (a 0))] := hl
  suffices hstart : ∀ (H : Heap) (locs : List Loc) (ls : Array Slot), va_P (dC, dI) vwCl (wd_X8 a ca u) H → va_D A (wd_X8 a ca u) → va_S A s.heap H locs → lv_has ls 1 [(0, .ref (a 0))] → W p l e (headSpec wsX8_unarc rm_X8_unarc).room s m args below meth c H locs 0 0 Q (F0 m 0 ls []) from hstart _ _ _ hP hD hS hl
  clear hS hP hD hD0
  intro H locs ls hP hD hS hl
  have hin_X8 : ∀ w ∈ wsX80, w ∈ wsX8_unarc := by decide +kernel
  have lk_0 := hts (.fieldLink RX8 77 "ForgettingLinesModel" "arcs" "I") (by decide +kernel)
  unfold wp_X8_unarc at h
  refine lv_aload_n hx hb dX8_unarc_0 rfl (lv_at hl 0 rfl) ?_
  refine va_get (D := (dC, dI)) (ci := 7) (v := .int (u.1 2)) (C := RX8) (T := TX8) (N := 25) hx hb hts hin_X8 hown hK hP 0 rfl rfl 2 (by decide) lk_0 (fun _ h9 => h9) rfl dX8_unarc_1 ?_
  refine lv_if_ne (tgt := 10) hx hb dX8_unarc_4 (by decide) (fun hc_1 => ?_) (fun hc_1 => ?_)
  · replace h := h.1 hc_1
    refine lv_aload_n hx hb dX8_unarc_10 rfl (lv_at hl 0 rfl) ?_
    refine lv_dup hx hb dX8_unarc_11 rfl ?_
    refine va_get (D := (dC, dI)) (ci := 7) (v := .int (u.1 2)) (C := RX8) (T := TX8) (N := 25) hx hb hts hin_X8 hown hK hP 0 rfl rfl 2 (by decide) lk_0 (fun _ h9 => h9) rfl dX8_unarc_12 ?_
    refine lv_iconst (v := 1) hx hb dX8_unarc_15 (by decide) ?_
    refine lv_isub hx hb dX8_unarc_16 ?_
    refine va_put (D := (dC, dI)) (ci := 7) (v := .int ((u.1 2) - 1)) (ty := .int) (C := RX8) (T := TX8) (N := 25) hx hb hts hin_X8 tyX8 tyX8_ok nmX8 hown hK hP hD hS 0 rfl rfl 2 (by decide) lk_0 (fun _ h9 => h9) rfl (by decide +kernel) rfl rfl (Nat.le_of_ble_eq_true rfl) dX8_unarc_17 (fun H locs hP hD hS => ?_)
    obtain ⟨u_2, eu_2⟩ : ∃ z : Ob, z = fs_i u 2 ((u.1 2) - 1) := ⟨_, rfl⟩
    replace h := h u_2 eu_2
    replace hP : va_P (dC, dI) vwCl (wd_X8 a ca u_2) H := by rw [eu_2]; exact hP
    replace hD : va_D A (wd_X8 a ca u_2) := by rw [eu_2]; exact hD
    refine lv_aload_n hx hb dX8_unarc_20 rfl (lv_at hl 0 rfl) ?_
    refine lv_bipush (v := 82) hx hb dX8_unarc_21 (by decide) ?_
    refine lv_iconst (v := 0) hx hb dX8_unarc_23 (by decide) ?_
    have hPc := hP
    have hDc := hD
    have hKc := hK
    have hFc := va_free (wc := (wd_X8 a ca u_2)) hD hS hA [0, 1, 2, 3, 4, 5, 6, 7, 8, 9, 10, 11, 12, 13, 14, 15, 16, 17, 18, 19] rfl
    refine va_callv (va_runV (As := [.int 82, .int 0]) (rest := []) ⟨hx, hb, hml, hown, hts⟩ (c_X8_empty l dC dI a ca H.size u_2 82 0 _ h) (cwV 2 hts gX8_unarc_X8_empty rfl rfl rfl (by decide +kernel) ⟨Nat.le_of_ble_eq_true rfl, Nat.le_of_ble_eq_true rfl⟩) ⟨fun a U g mk q => by obtain ⟨q0, q1, qP, qK, qD⟩ := q; exact ⟨q0, q1, qP, va_K.moved (u := U) (U := U.calling g mk a) (Vm.Alike.refl U.vm) qK, qD⟩, va_recv hKc hPc (ci := 7) (q0 := 0) rfl rfl, fun U hU hW => ⟨rfl, by rw [hU], by rw [hU]; exact hPc, va_K.moved hW.alike hKc, hDc.weaken (fun _ _ _ _ => trivial)⟩⟩ rfl rfl hl.1 rfl (lv_room (Nat.le_of_ble_eq_true rfl)) dX8_unarc_24 ⟨Nat.zero_le _, Nat.zero_le _⟩) hS (fun q _ h => hFc q h) hFc (fun zz t H1 locs ht hvm hw hB hz1 hk1 hS => ?_)
    obtain ⟨u_3, rfl⟩ : ∃ z, z = zz := ⟨_, rfl⟩
    replace h := hw
    obtain ⟨hP1, hD1⟩ := hB
    rw [ht] at hP1
    replace hD : va_D A (wd_X8 a ca u_3) := hD1.weaken (fun _ _ _ h9 => hFc _ h9)
    replace hP : va_P (dC, dI) vwCl (wd_X8 a ca u_3) H1 := hP1
    generalize H1 = H at hP hS ⊢
    refine lv_aload_n hx hb dX8_unarc_27 rfl (lv_at hl 0 rfl) ?_
    refine va_get (D := (dC, dI)) (ci := 7) (v := .int (u_3.1 2)) (C := RX8) (T := TX8) (N := 25) hx hb hts hin_X8 hown hK hP 0 rfl rfl 2 (by decide) lk_0 (fun _ h9 => h9) rfl dX8_unarc_28 ?_
    subst hQ
    exact W.iret (v := (u_3.1 2)) hx hb hr (fun t ht hW => ⟨⟨_, u_3, rfl, h, by rw [ht]; exact hP, hD⟩, hS.F ht⟩) hS.2.2 dX8_unarc_31
  · replace h := h.2 hc_1
    refine lv_bipush (v := (-2)) hx hb dX8_unarc_7 (by decide) ?_
    subst hQ
    exact W.iret (v := (-2)) hx hb hr (fun t ht hW => ⟨⟨_, u, rfl, h, by rw [ht]; exact hP, hD⟩, hS.F ht⟩) hS.2.2 dX8_unarc_9
abbrev rm_X8_isArc : Room := { frames := 1, cells := 0, slots := 0, locals := 22 }
set_option maxHeartbeats 4000000 in
set_option maxRecDepth 100000 in
theorem c_X8_isArc (l : Launch) (dC : Nat → ClassId) (dI : Nat → Nat → Nat) (a : Nat → Nat) (ca : Nat → ClassId) (sz : Nat) (u : Ob) (x1 : Int32) (post : Int32 → Prop) (h : wp_X8_isArc u x1 post) : Met l yX8_isArc wsX8_isArc rm_X8_isArc (va_Pc [.ref (a 0), .int x1] (fun U => U.heap.size = sz ∧ va_P (dC, dI) vwCl (wd_X8 a ca u) U.heap ∧ va_K (dC, dI) vwCl (ty_X8 ca) U ∧ va_D (fun _ => True) (wd_X8 a ca u))) (va_Qi (fun (rr : Int32) (_ : Unit) => post rr) (fun (zz : Unit) (t : State) => va_P (dC, dI) vwCl (wd_X8 a ca u) t.heap ∧ va_D (va_A (wd_X8 a ca u) sz) (wd_X8 a ca u)) (va_A (wd_X8 a ca u) sz)) 0 0 (va_A (wd_X8 a ca u) sz) := by
  refine fl_ofW (cc := cX8_isArc) (maxL := 2) (ret := (some .boolean)) (by decide) rfl ?_
  intro p e s m args below meth c s₁ Q B hml hv hQ
  obtain ⟨hargs, hsz, hP, hK, hD0⟩ := hv
  have hx := B.exec
  have hb := B.bytes
  have hr := B.returns
  have hts := atoms_spec (ws := wsX8_isArc) B.pre
  have hown : s.vm.findClass RX8 = some m.cls := findClass_of_methodNamed B.named
  subst hsz
  have hD := hD0.self (sz := s.heap.size)
  generalize hAe : va_A (wd_X8 a ca u) s.heap.size = A at hD hQ
  have hA : ∀ q : Nat, s.heap.size ≤ q → A q := fun q h => by rw [← hAe]; exact Or.inr h
  have hS : va_S A s.heap s.heap [] := va_S.rf
  have hl := lv_entry ([.ref (a 0), .int x1]) (n := 2) (Nat.le_of_ble_eq_true rfl)
  refine W.eq (g2 := F0 m 0 ((lg_sl ([.ref (a 0), .int x1]) ++ List.replicate (2 - (lg_sl ([.ref (a 0), .int x1])).length) Slot.unset).toArray) []) (by rw [hargs]; exact lg_entry_eq m _ 2) ?_
  generalize (lg_sl ([.ref (a 0), .int x1]) ++ List.replicate (2 - (lg_sl ([.ref (a 0), .int x1])).length) Slot.unset).toArray = ls at hl ⊢
  have hl : lv_has ls 2 [(0, .ref (a 0)), (1, .int x1)] := hl
  suffices hstart : ∀ (H : Heap) (locs : List Loc) (ls : Array Slot), va_P (dC, dI) vwCl (wd_X8 a ca u) H → va_D A (wd_X8 a ca u) → va_S A s.heap H locs → lv_has ls 2 [(0, .ref (a 0)), (1, .int x1)] → W p l e (headSpec wsX8_isArc rm_X8_isArc).room s m args below meth c H locs 0 0 Q (F0 m 0 ls []) from hstart _ _ _ hP hD hS hl
  clear hS hP hD hD0
  intro H locs ls hP hD hS hl
  have hin_X8 : ∀ w ∈ wsX80, w ∈ wsX8_isArc := by decide +kernel
  have lk_0 := hts (.fieldLink RX8 77 "ForgettingLinesModel" "arcs" "I") (by decide +kernel)
  unfold wp_X8_isArc at h
  refine lv_iload_n hx hb dX8_isArc_0 rfl (lv_at hl 1 rfl) ?_
  refine lv_iconst (v := 0) hx hb dX8_isArc_1 (by decide) ?_
  refine lv_aload_n hx hb dX8_isArc_2 rfl (lv_at hl 0 rfl) ?_
  refine va_get (D := (dC, dI)) (ci := 7) (v := .int (u.1 2)) (C := RX8) (T := TX8) (N := 25) hx hb hts hin_X8 hown hK hP 0 rfl rfl 2 (by decide) lk_0 (fun _ h9 => h9) rfl dX8_isArc_3 ?_
  refine lv_iconst (v := 1) hx hb dX8_isArc_6 (by decide) ?_
  refine lv_isub hx hb dX8_isArc_7 ?_
  have hFc := fl_freeN hS hA
  refine va_calli (va_runS (As := [.int x1, .int 0, .int ((u.1 2) - 1)]) (rest := []) ⟨hx, hb, hml, hown, hts⟩ (c_X8_in l H.size x1 0 ((u.1 2) - 1) _ h) (va_cwS 3 hts gX8_isArc_X8_in rfl rfl rfl (by decide +kernel) ⟨Nat.le_of_ble_eq_true rfl, Nat.le_of_ble_eq_true rfl⟩) ⟨fun a U g mk q => by obtain ⟨q0, q1⟩ := q; exact ⟨q0, q1⟩, fun U hU hW => ⟨rfl, congrArg Array.size hU⟩⟩ rfl rfl hl.1 rfl (lv_room (Nat.le_of_ble_eq_true rfl)) dX8_isArc_8 ⟨Nat.zero_le _, Nat.zero_le _⟩) hS (fun q _ h => hFc q h) hFc (fun r_1 zz t H1 locs ht hvm hw hB hz1 hk1 hS => ?_)
  replace hP := fl_keep hP hk1
  replace h := hw
  generalize H1 = H at hP hS ⊢
  obtain ⟨hz, h⟩ := h
  subst hQ
  exact W.zret (v := r_1) hx hb hr hz (fun t ht hW => ⟨⟨_, (), rfl, h, by rw [ht]; exact hP, hD⟩, hS.F ht⟩) hS.2.2 dX8_isArc_11
abbrev rm_X8_told : Room := { frames := 2, cells := 0, slots := 0, locals := 43 }
set_option maxHeartbeats 4000000 in
set_option maxRecDepth 100000 in
theorem c_X8_told (l : Launch) (dC : Nat → ClassId) (dI : Nat → Nat → Nat) (a : Nat → Nat) (ca : Nat → ClassId) (sz : Nat) (u : Ob) (x1 : Int32) (x2 : Int32) (post : Int32 → Prop) (h : wp_X8_told u x1 x2 post) : Met l yX8_told wsX8_told rm_X8_told (va_Pc [.ref (a 0), .int x1, .int x2] (fun U => U.heap.size = sz ∧ va_P (dC, dI) vwCl (wd_X8 a ca u) U.heap ∧ va_K (dC, dI) vwCl (ty_X8 ca) U ∧ va_D (fun _ => True) (wd_X8 a ca u))) (va_Qi (fun (rr : Int32) (_ : Unit) => post rr) (fun (zz : Unit) (t : State) => va_P (dC, dI) vwCl (wd_X8 a ca u) t.heap ∧ va_D (va_A (wd_X8 a ca u) sz) (wd_X8 a ca u)) (va_A (wd_X8 a ca u) sz)) 0 0 (va_A (wd_X8 a ca u) sz) := by
  refine fl_ofW (cc := cX8_told) (maxL := 3) (ret := (some .int)) (by decide) rfl ?_
  intro p e s m args below meth c s₁ Q B hml hv hQ
  obtain ⟨hargs, hsz, hP, hK, hD0⟩ := hv
  have hx := B.exec
  have hb := B.bytes
  have hr := B.returns
  have hts := atoms_spec (ws := wsX8_told) B.pre
  have hown : s.vm.findClass RX8 = some m.cls := findClass_of_methodNamed B.named
  subst hsz
  have hD := hD0.self (sz := s.heap.size)
  generalize hAe : va_A (wd_X8 a ca u) s.heap.size = A at hD hQ
  have hA : ∀ q : Nat, s.heap.size ≤ q → A q := fun q h => by rw [← hAe]; exact Or.inr h
  have hS : va_S A s.heap s.heap [] := va_S.rf
  have hl := lv_entry ([.ref (a 0), .int x1, .int x2]) (n := 3) (Nat.le_of_ble_eq_true rfl)
  refine W.eq (g2 := F0 m 0 ((lg_sl ([.ref (a 0), .int x1, .int x2]) ++ List.replicate (3 - (lg_sl ([.ref (a 0), .int x1, .int x2])).length) Slot.unset).toArray) []) (by rw [hargs]; exact lg_entry_eq m _ 3) ?_
  generalize (lg_sl ([.ref (a 0), .int x1, .int x2]) ++ List.replicate (3 - (lg_sl ([.ref (a 0), .int x1, .int x2])).length) Slot.unset).toArray = ls at hl ⊢
  have hl : lv_has ls 3 [(0, .ref (a 0)), (1, .int x1), (2, .int x2)] := hl
  suffices hstart : ∀ (H : Heap) (locs : List Loc) (ls : Array Slot), va_P (dC, dI) vwCl (wd_X8 a ca u) H → va_D A (wd_X8 a ca u) → va_S A s.heap H locs → lv_has ls 3 [(0, .ref (a 0)), (1, .int x1), (2, .int x2)] → W p l e (headSpec wsX8_told rm_X8_told).room s m args below meth c H locs 0 0 Q (F0 m 0 ls []) from hstart _ _ _ hP hD hS hl
  clear hS hP hD hD0
  intro H locs ls hP hD hS hl
  have hin_X8 : ∀ w ∈ wsX80, w ∈ wsX8_told := by decide +kernel
  have lk_0 := hts (.fieldLink RX8 30 "ForgettingLinesModel" "tos" "[I") (by decide +kernel)
  have lk_1 := hts (.fieldLink RX8 27 "ForgettingLinesModel" "letters" "[I") (by decide +kernel)
  have lk_2 := hts (.fieldLink RX8 24 "ForgettingLinesModel" "lines" "[I") (by decide +kernel)
  have lk_3 := hts (.fieldLink RX8 21 "ForgettingLinesModel" "acts" "[I") (by decide +kernel)
  have lk_4 := hts (.fieldLink RX8 17 "ForgettingLinesModel" "froms" "[I") (by decide +kernel)
  unfold wp_X8_told at h
  refine lv_aload_n hx hb dX8_told_0 rfl (lv_at hl 0 rfl) ?_
  refine lv_iload_n hx hb dX8_told_1 rfl (lv_at hl 1 rfl) ?_
  have hPc := hP
  have hDc := hD
  have hKc := hK
  have hFc := va_free (wc := (wd_X8 a ca u)) hD hS hA [0, 1, 2, 3, 4, 5, 6, 7, 8, 9, 10, 11, 12, 13, 14, 15, 16, 17, 18, 19] rfl
  refine va_calli (va_runV (As := [.int x1]) (rest := []) ⟨hx, hb, hml, hown, hts⟩ (c_X8_isArc l dC dI a ca H.size u x1 _ h) (cwV 1 hts gX8_told_X8_isArc rfl rfl rfl (by decide +kernel) ⟨Nat.le_of_ble_eq_true rfl, Nat.le_of_ble_eq_true rfl⟩) ⟨fun a U g mk q => by obtain ⟨q0, q1, qP, qK, qD⟩ := q; exact ⟨q0, q1, qP, va_K.moved (u := U) (U := U.calling g mk a) (Vm.Alike.refl U.vm) qK, qD⟩, va_recv hKc hPc (ci := 7) (q0 := 0) rfl rfl, fun U hU hW => ⟨rfl, by rw [hU], by rw [hU]; exact hPc, va_K.moved hW.alike hKc, hDc.weaken (fun _ _ _ _ => trivial)⟩⟩ rfl rfl hl.1 rfl (lv_room (Nat.le_of_ble_eq_true rfl)) dX8_told_2 ⟨Nat.zero_le _, Nat.zero_le _⟩) hS (fun q _ h => hFc q h) hFc (fun r_1 zz t H1 locs ht hvm hw hB hz1 hk1 hS => ?_)
  replace h := hw
  obtain ⟨hP1, hD1⟩ := hB
  rw [ht] at hP1
  replace hD : va_D A (wd_X8 a ca u) := hD1.weaken (fun _ _ _ h9 => hFc _ h9)
  replace hP : va_P (dC, dI) vwCl (wd_X8 a ca u) H1 := hP1
  generalize H1 = H at hP hS ⊢
  refine lv_if_eq (tgt := 17) hx hb dX8_told_5 (by decide) (fun hc_2 => ?_) (fun hc_2 => ?_)
  · replace h := h.1 hc_2
    refine lv_iconst (v := (-1)) hx hb dX8_told_17 (by decide) ?_
    subst hQ
    exact W.iret (v := (-1)) hx hb hr (fun t ht hW => ⟨⟨_, (), rfl, h, by rw [ht]; exact hP, hD⟩, hS.F ht⟩) hS.2.2 dX8_told_18
  · replace h := h.2 hc_2
    refine lv_iload_n hx hb dX8_told_8 rfl (lv_at hl 2 rfl) ?_
    refine lv_iconst (v := 0) hx hb dX8_told_9 (by decide) ?_
    refine lv_iconst (v := 4) hx hb dX8_told_10 (by decide) ?_
    have hFc := fl_freeN hS hA
    refine va_calli (va_runS (As := [.int x2, .int 0, .int 4]) (rest := []) ⟨hx, hb, hml, hown, hts⟩ (c_X8_in l H.size x2 0 4 _ h) (va_cwS 3 hts gX8_told_X8_in rfl rfl rfl (by decide +kernel) ⟨Nat.le_of_ble_eq_true rfl, Nat.le_of_ble_eq_true rfl⟩) ⟨fun a U g mk q => by obtain ⟨q0, q1⟩ := q; exact ⟨q0, q1⟩, fun U hU hW => ⟨rfl, congrArg Array.size hU⟩⟩ rfl rfl hl.1 rfl (lv_room (Nat.le_of_ble_eq_true rfl)) dX8_told_11 ⟨Nat.zero_le _, Nat.zero_le _⟩) hS (fun q _ h => hFc q h) hFc (fun r_3 zz t H1 locs ht hvm hw hB hz1 hk1 hS => ?_)
    replace hP := fl_keep hP hk1
    replace h := hw
    generalize H1 = H at hP hS ⊢
    refine lv_if_ne (tgt := 19) hx hb dX8_told_14 (by decide) (fun hc_4 => ?_) (fun hc_4 => ?_)
    · replace h := h.1 hc_4
      refine lv_iload_n hx hb dX8_told_19 rfl (lv_at hl 2 rfl) ?_
      refine lv_if_ne (tgt := 32) hx hb dX8_told_20 (by decide) (fun hc_5 => ?_) (fun hc_5 => ?_)
      · replace h := h.1 hc_5
        refine lv_iload_n hx hb dX8_told_32 rfl (lv_at hl 2 rfl) ?_
        refine lv_iconst (v := 1) hx hb dX8_told_33 (by decide) ?_
        refine lv_icmp_ne (tgt := 46) hx hb dX8_told_34 (by decide) (fun hc_6 => ?_) (fun hc_6 => ?_)
        · replace h := h.1 hc_6
          refine lv_iload_n hx hb dX8_told_46 rfl (lv_at hl 2 rfl) ?_
          refine lv_iconst (v := 2) hx hb dX8_told_47 (by decide) ?_
          refine lv_icmp_ne (tgt := 60) hx hb dX8_told_48 (by decide) (fun hc_7 => ?_) (fun hc_7 => ?_)
          · replace h := h.1 hc_7
            refine lv_iload_n hx hb dX8_told_60 rfl (lv_at hl 2 rfl) ?_
            refine lv_iconst (v := 3) hx hb dX8_told_61 (by decide) ?_
            refine lv_icmp_ne (tgt := 74) hx hb dX8_told_62 (by decide) (fun hc_8 => ?_) (fun hc_8 => ?_)
            · replace h := h.1 hc_8
              refine lv_aload_n hx hb dX8_told_74 rfl (lv_at hl 0 rfl) ?_
              refine va_get (D := (dC, dI)) (ci := 7) (v := .ref (a 8)) (C := RX8) (T := TX8) (N := 25) hx hb hts hin_X8 hown hK hP 0 rfl rfl 7 (by decide) lk_0 (fun _ h9 => h9) rfl dX8_told_75 ?_
              refine lv_iload_n hx hb dX8_told_78 rfl (lv_at hl 1 rfl) ?_
              obtain ⟨hi_9, h⟩ := h
              refine va_iald (D := (dC, dI)) (cl := vwCl) (i := x1) hx hb hK hP 6 5 rfl rfl hi_9 dX8_told_79 ?_
              subst hQ
              exact W.iret (v := (u.2.1 7 x1.toNatClampNeg)) hx hb hr (fun t ht hW => ⟨⟨_, (), rfl, h, by rw [ht]; exact hP, hD⟩, hS.F ht⟩) hS.2.2 dX8_told_80
            · replace h := h.2 hc_8
              refine lv_aload_n hx hb dX8_told_65 rfl (lv_at hl 0 rfl) ?_
              refine va_get (D := (dC, dI)) (ci := 7) (v := .ref (a 7)) (C := RX8) (T := TX8) (N := 25) hx hb hts hin_X8 hown hK hP 0 rfl rfl 6 (by decide) lk_1 (fun _ h9 => h9) rfl dX8_told_66 ?_
              refine lv_iload_n hx hb dX8_told_69 rfl (lv_at hl 1 rfl) ?_
              obtain ⟨hi_10, h⟩ := h
              refine va_iald (D := (dC, dI)) (cl := vwCl) (i := x1) hx hb hK hP 5 4 rfl rfl hi_10 dX8_told_70 ?_
              refine lv_goto (tgt := 80) hx hb dX8_told_71 (by decide) ?_
              subst hQ
              exact W.iret (v := (u.2.1 6 x1.toNatClampNeg)) hx hb hr (fun t ht hW => ⟨⟨_, (), rfl, h, by rw [ht]; exact hP, hD⟩, hS.F ht⟩) hS.2.2 dX8_told_80
          · replace h := h.2 hc_7
            refine lv_aload_n hx hb dX8_told_51 rfl (lv_at hl 0 rfl) ?_
            refine va_get (D := (dC, dI)) (ci := 7) (v := .ref (a 6)) (C := RX8) (T := TX8) (N := 25) hx hb hts hin_X8 hown hK hP 0 rfl rfl 5 (by decide) lk_2 (fun _ h9 => h9) rfl dX8_told_52 ?_
            refine lv_iload_n hx hb dX8_told_55 rfl (lv_at hl 1 rfl) ?_
            obtain ⟨hi_11, h⟩ := h
            refine va_iald (D := (dC, dI)) (cl := vwCl) (i := x1) hx hb hK hP 4 3 rfl rfl hi_11 dX8_told_56 ?_
            refine lv_goto (tgt := 80) hx hb dX8_told_57 (by decide) ?_
            subst hQ
            exact W.iret (v := (u.2.1 5 x1.toNatClampNeg)) hx hb hr (fun t ht hW => ⟨⟨_, (), rfl, h, by rw [ht]; exact hP, hD⟩, hS.F ht⟩) hS.2.2 dX8_told_80
        · replace h := h.2 hc_6
          refine lv_aload_n hx hb dX8_told_37 rfl (lv_at hl 0 rfl) ?_
          refine va_get (D := (dC, dI)) (ci := 7) (v := .ref (a 5)) (C := RX8) (T := TX8) (N := 25) hx hb hts hin_X8 hown hK hP 0 rfl rfl 4 (by decide) lk_3 (fun _ h9 => h9) rfl dX8_told_38 ?_
          refine lv_iload_n hx hb dX8_told_41 rfl (lv_at hl 1 rfl) ?_
          obtain ⟨hi_12, h⟩ := h
          refine va_iald (D := (dC, dI)) (cl := vwCl) (i := x1) hx hb hK hP 3 2 rfl rfl hi_12 dX8_told_42 ?_
          refine lv_goto (tgt := 80) hx hb dX8_told_43 (by decide) ?_
          subst hQ
          exact W.iret (v := (u.2.1 4 x1.toNatClampNeg)) hx hb hr (fun t ht hW => ⟨⟨_, (), rfl, h, by rw [ht]; exact hP, hD⟩, hS.F ht⟩) hS.2.2 dX8_told_80
      · replace h := h.2 hc_5
        refine lv_aload_n hx hb dX8_told_23 rfl (lv_at hl 0 rfl) ?_
        refine va_get (D := (dC, dI)) (ci := 7) (v := .ref (a 4)) (C := RX8) (T := TX8) (N := 25) hx hb hts hin_X8 hown hK hP 0 rfl rfl 3 (by decide) lk_4 (fun _ h9 => h9) rfl dX8_told_24 ?_
        refine lv_iload_n hx hb dX8_told_27 rfl (lv_at hl 1 rfl) ?_
        obtain ⟨hi_13, h⟩ := h
        refine va_iald (D := (dC, dI)) (cl := vwCl) (i := x1) hx hb hK hP 2 1 rfl rfl hi_13 dX8_told_28 ?_
        refine lv_goto (tgt := 80) hx hb dX8_told_29 (by decide) ?_
        subst hQ
        exact W.iret (v := (u.2.1 3 x1.toNatClampNeg)) hx hb hr (fun t ht hW => ⟨⟨_, (), rfl, h, by rw [ht]; exact hP, hD⟩, hS.F ht⟩) hS.2.2 dX8_told_80
    · replace h := h.2 hc_4
      refine lv_iconst (v := (-1)) hx hb dX8_told_17 (by decide) ?_
      subst hQ
      exact W.iret (v := (-1)) hx hb hr (fun t ht hW => ⟨⟨_, (), rfl, h, by rw [ht]; exact hP, hD⟩, hS.F ht⟩) hS.2.2 dX8_told_18
abbrev rm_X8_type : Room := { frames := 1, cells := 0, slots := 0, locals := 22 }
set_option maxHeartbeats 4000000 in
set_option maxRecDepth 100000 in
theorem c_X8_type (l : Launch) (dC : Nat → ClassId) (dI : Nat → Nat → Nat) (a : Nat → Nat) (ca : Nat → ClassId) (sz : Nat) (u : Ob) (x1 : Int64) (x2 : Int32) (post : Int32 → Ob → Prop) (h : wp_X8_type u x1 x2 post) : Met l yX8_type wsX8_type rm_X8_type (va_Pc [.ref (a 0), .long x1, .int x2] (fun U => U.heap.size = sz ∧ va_P (dC, dI) vwCl (wd_X8 a ca u) U.heap ∧ va_K (dC, dI) vwCl (ty_X8 ca) U ∧ va_D (fun _ => True) (wd_X8 a ca u))) (va_Qi post (fun (zz : Ob) (t : State) => va_P (dC, dI) vwCl (wd_X8 a ca zz) t.heap ∧ va_D (va_A (wd_X8 a ca u) sz) (wd_X8 a ca zz)) (va_A (wd_X8 a ca u) sz)) 0 0 (va_A (wd_X8 a ca u) sz) := by
  refine fl_ofW (cc := cX8_type) (maxL := 5) (ret := (some .int)) (by decide) rfl ?_
  intro p e s m args below meth c s₁ Q B hml hv hQ
  obtain ⟨hargs, hsz, hP, hK, hD0⟩ := hv
  have hx := B.exec
  have hb := B.bytes
  have hr := B.returns
  have hts := atoms_spec (ws := wsX8_type) B.pre
  have hown : s.vm.findClass RX8 = some m.cls := findClass_of_methodNamed B.named
  subst hsz
  have hD := hD0.self (sz := s.heap.size)
  generalize hAe : va_A (wd_X8 a ca u) s.heap.size = A at hD hQ
  have hA : ∀ q : Nat, s.heap.size ≤ q → A q := fun q h => by rw [← hAe]; exact Or.inr h
  have hS : va_S A s.heap s.heap [] := va_S.rf
  have hl := lv_entry ([.ref (a 0), .long x1, .int x2]) (n := 5) (Nat.le_of_ble_eq_true rfl)
  refine W.eq (g2 := F0 m 0 ((lg_sl ([.ref (a 0), .long x1, .int x2]) ++ List.replicate (5 - (lg_sl ([.ref (a 0), .long x1, .int x2])).length) Slot.unset).toArray) []) (by rw [hargs]; exact lg_entry_eq m _ 5) ?_
  generalize (lg_sl ([.ref (a 0), .long x1, .int x2]) ++ List.replicate (5 - (lg_sl ([.ref (a 0), .long x1, .int x2])).length) Slot.unset).toArray = ls at hl ⊢
  have hl : lv_has ls 5 [(0, .ref (a 0)), (1, .long x1), (3, .int x2)] := hl
  suffices hstart : ∀ (H : Heap) (locs : List Loc) (ls : Array Slot), va_P (dC, dI) vwCl (wd_X8 a ca u) H → va_D A (wd_X8 a ca u) → va_S A s.heap H locs → lv_has ls 5 [(0, .ref (a 0)), (1, .long x1), (3, .int x2)] → W p l e (headSpec wsX8_type rm_X8_type).room s m args below meth c H locs 0 0 Q (F0 m 0 ls []) from hstart _ _ _ hP hD hS hl
  clear hS hP hD hD0
  intro H locs ls hP hD hS hl
  have hin_X8 : ∀ w ∈ wsX80, w ∈ wsX8_type := by decide +kernel
  have lk_0 := hts (.fieldLink RX8 101 "ForgettingLinesModel" "taped" "I") (by decide +kernel)
  have lk_1 := hts (.fieldLink RX8 33 "ForgettingLinesModel" "tape" "[I") (by decide +kernel)
  have lk_2 := hts (.constantLong RX8 99 255) (by decide +kernel)
  unfold wp_X8_type at h
  refine lv_iload_n hx hb dX8_type_0 rfl (lv_at hl 2 rfl) ?_
  refine lv_iconst (v := 1) hx hb dX8_type_1 (by decide) ?_
  refine lv_bipush (v := 8) hx hb dX8_type_2 (by decide) ?_
  have hFc := fl_freeN hS hA
  refine va_calli (va_runS (As := [.int x2, .int 1, .int 8]) (rest := []) ⟨hx, hb, hml, hown, hts⟩ (c_X8_in l H.size x2 1 8 _ h) (va_cwS 3 hts gX8_type_X8_in rfl rfl rfl (by decide +kernel) ⟨Nat.le_of_ble_eq_true rfl, Nat.le_of_ble_eq_true rfl⟩) ⟨fun a U g mk q => by obtain ⟨q0, q1⟩ := q; exact ⟨q0, q1⟩, fun U hU hW => ⟨rfl, congrArg Array.size hU⟩⟩ rfl rfl hl.1 rfl (lv_room (Nat.le_of_ble_eq_true rfl)) dX8_type_4 ⟨Nat.zero_le _, Nat.zero_le _⟩) hS (fun q _ h => hFc q h) hFc (fun r_1 zz t H1 locs ht hvm hw hB hz1 hk1 hS => ?_)
  replace hP := fl_keep hP hk1
  replace h := hw
  generalize H1 = H at hP hS ⊢
  refine lv_if_ne (tgt := 12) hx hb dX8_type_7 (by decide) (fun hc_2 => ?_) (fun hc_2 => ?_)
  · replace h := h.1 hc_2
    refine lv_iconst (v := 0) hx hb dX8_type_12 (by decide) ?_
    refine lv_istore (lv' := [(4, .int 0), (0, .ref (a 0)), (1, .long x1), (3, .int x2)]) hx hb dX8_type_13 hl (by decide) rfl (fun ls hl => ?_)
    obtain ⟨n_17, h⟩ := h
    refine lq1_ind (GG := (fun (v4_4 : Int32) => ∀ (H : Heap) (locs : List Loc) (ls : Array Slot), va_P (dC, dI) vwCl (wd_X8 a ca u) H → va_D A (wd_X8 a ca u) → va_S A s.heap H locs → lv_has ls 5 [(4, .int v4_4), (0, .ref (a 0)), (1, .long x1), (3, .int x2)] → W p l e (headSpec wsX8_type rm_X8_type).room s m args below meth c H locs 0 0 Q (F0 m 15 ls []))) (fun LL_3 ih_LL_3 v4_4 h H locs ls hP hD hS hl => ?_) n_17 _ h _ _ _ hP hD hS (lv_sub hl [0, 1, 2, 3] rfl)
    refine lv_iload hx hb dX8_type_15 (lv_at hl 0 rfl) ?_
    refine lv_iload_n hx hb dX8_type_17 rfl (lv_at hl 3 rfl) ?_
    refine lv_icmp_ge (tgt := 51) hx hb dX8_type_18 (by decide) (fun hc_5 => ?_) (fun hc_5 => ?_)
    · replace h := h.1 hc_5
      refine lv_aload_n hx hb dX8_type_51 rfl (lv_at hl 1 rfl) ?_
      refine va_get (D := (dC, dI)) (ci := 7) (v := .int (u.1 9)) (C := RX8) (T := TX8) (N := 25) hx hb hts hin_X8 hown hK hP 0 rfl rfl 9 (by decide) lk_0 (fun _ h9 => h9) rfl dX8_type_52 ?_
      refine lv_iload_n hx hb dX8_type_55 rfl (lv_at hl 3 rfl) ?_
      refine lv_iadd hx hb dX8_type_56 ?_
      refine lv_sipush (v := 130) hx hb dX8_type_57 (by decide) ?_
      refine lv_icmp_le (tgt := 66) hx hb dX8_type_60 (by decide) (fun hc_6 => ?_) (fun hc_6 => ?_)
      · replace h := h.1 hc_6
        refine lv_iload_n hx hb dX8_type_66 rfl (lv_at hl 3 rfl) ?_
        refine lv_iconst (v := 1) hx hb dX8_type_67 (by decide) ?_
        refine lv_isub hx hb dX8_type_68 ?_
        refine lv_istore (lv' := [(4, .int (x2 - 1)), (0, .ref (a 0)), (1, .long x1), (3, .int x2)]) hx hb dX8_type_69 hl (by decide) rfl (fun ls hl => ?_)
        obtain ⟨n_14, h⟩ := h
        refine lq2_ind (GG := (fun (v4_8 : Int32) (u_9 : Ob) => ∀ (H : Heap) (locs : List Loc) (ls : Array Slot), va_P (dC, dI) vwCl (wd_X8 a ca u_9) H → va_D A (wd_X8 a ca u_9) → va_S A s.heap H locs → lv_has ls 5 [(4, .int v4_8), (0, .ref (a 0)), (1, .long x1)] → W p l e (headSpec wsX8_type rm_X8_type).room s m args below meth c H locs 0 0 Q (F0 m 71 ls []))) (fun LL_7 ih_LL_7 v4_8 u_9 h H locs ls hP hD hS hl => ?_) n_14 _ _ h _ _ _ hP hD hS (lv_sub hl [0, 1, 2] rfl)
        refine lv_iload hx hb dX8_type_71 (lv_at hl 0 rfl) ?_
        refine lv_if_lt (tgt := 113) hx hb dX8_type_73 (by decide) (fun hc_10 => ?_) (fun hc_10 => ?_)
        · replace h := h.1 hc_10
          refine lv_aload_n hx hb dX8_type_113 rfl (lv_at hl 1 rfl) ?_
          refine va_get (D := (dC, dI)) (ci := 7) (v := .int (u_9.1 9)) (C := RX8) (T := TX8) (N := 25) hx hb hts hin_X8 hown hK hP 0 rfl rfl 9 (by decide) lk_0 (fun _ h9 => h9) rfl dX8_type_114 ?_
          subst hQ
          exact W.iret (v := (u_9.1 9)) hx hb hr (fun t ht hW => ⟨⟨_, u_9, rfl, h, by rw [ht]; exact hP, hD⟩, hS.F ht⟩) hS.2.2 dX8_type_117
        · replace h := h.2 hc_10
          refine lv_aload_n hx hb dX8_type_76 rfl (lv_at hl 1 rfl) ?_
          refine va_get (D := (dC, dI)) (ci := 7) (v := .ref (a 9)) (C := RX8) (T := TX8) (N := 25) hx hb hts hin_X8 hown hK hP 0 rfl rfl 8 (by decide) lk_1 (fun _ h9 => h9) rfl dX8_type_77 ?_
          refine lv_aload_n hx hb dX8_type_80 rfl (lv_at hl 1 rfl) ?_
          refine va_get (D := (dC, dI)) (ci := 7) (v := .int (u_9.1 9)) (C := RX8) (T := TX8) (N := 25) hx hb hts hin_X8 hown hK hP 0 rfl rfl 9 (by decide) lk_0 (fun _ h9 => h9) rfl dX8_type_81 ?_
          refine lv_lload_n hx hb dX8_type_84 rfl (lv_at hl 2 rfl) ?_
          refine lv_bipush (v := 8) hx hb dX8_type_85 (by decide) ?_
          refine lv_iload hx hb dX8_type_87 (lv_at hl 0 rfl) ?_
          refine lv_imul hx hb dX8_type_89 ?_
          refine lv_lshr (v := (j_lshr x1 (8 * v4_8))) hx hb dX8_type_90 rfl ?_
          refine lv_ldc2 hx hb hown lk_2 dX8_type_91 ?_
          refine lv_land hx hb dX8_type_94 ?_
          refine lv_l2i (v := (Int64.toInt32 ((j_lshr x1 (8 * v4_8)) &&& 255))) hx hb dX8_type_95 rfl ?_
          obtain ⟨hi_11, h⟩ := h
          refine va_iast (D := (dC, dI)) (cl := vwCl) (i := (u_9.1 9)) hx hb hK hP hD hS 7 6 rfl rfl hi_11 dX8_type_96 (fun H locs hP hD hS => ?_)
          obtain ⟨u_12, eu_12⟩ : ∃ z : Ob, z = fs_a u_9 8 (upd (u_9.2.1 8) (u_9.1 9).toNatClampNeg (Int64.toInt32 ((j_lshr x1 (8 * v4_8)) &&& 255))) := ⟨_, rfl⟩
          replace h := h u_12 eu_12
          replace hP : va_P (dC, dI) vwCl (wd_X8 a ca u_12) H := by rw [eu_12]; exact hP
          replace hD : va_D A (wd_X8 a ca u_12) := by rw [eu_12]; exact hD
          refine lv_aload_n hx hb dX8_type_97 rfl (lv_at hl 1 rfl) ?_
          refine lv_dup hx hb dX8_type_98 rfl ?_
          refine va_get (D := (dC, dI)) (ci := 7) (v := .int (u_12.1 9)) (C := RX8) (T := TX8) (N := 25) hx hb hts hin_X8 hown hK hP 0 rfl rfl 9 (by decide) lk_0 (fun _ h9 => h9) rfl dX8_type_99 ?_
          refine lv_iconst (v := 1) hx hb dX8_type_102 (by decide) ?_
          refine lv_iadd hx hb dX8_type_103 ?_
          refine va_put (D := (dC, dI)) (ci := 7) (v := .int ((u_12.1 9) + 1)) (ty := .int) (C := RX8) (T := TX8) (N := 25) hx hb hts hin_X8 tyX8 tyX8_ok nmX8 hown hK hP hD hS 0 rfl rfl 9 (by decide) lk_0 (fun _ h9 => h9) rfl (by decide +kernel) rfl rfl (Nat.le_of_ble_eq_true rfl) dX8_type_104 (fun H locs hP hD hS => ?_)
          obtain ⟨u_13, eu_13⟩ : ∃ z : Ob, z = fs_i u_12 9 ((u_12.1 9) + 1) := ⟨_, rfl⟩
          replace h := h u_13 eu_13
          replace hP : va_P (dC, dI) vwCl (wd_X8 a ca u_13) H := by rw [eu_13]; exact hP
          replace hD : va_D A (wd_X8 a ca u_13) := by rw [eu_13]; exact hD
          refine lv_iinc (v := (v4_8 + (-1))) (lv' := [(4, .int (v4_8 + (-1))), (0, .ref (a 0)), (1, .long x1)]) hx hb dX8_type_107 hl (k := 0) rfl rfl (by decide) rfl (fun ls hl => ?_)
          refine lv_goto (tgt := 71) hx hb dX8_type_110 (by decide) ?_
          exact ih_LL_7 _ _ h _ _ _ hP hD hS (lv_sub hl [0, 1, 2] rfl)
      · replace h := h.2 hc_6
        refine lv_bipush (v := (-3)) hx hb dX8_type_63 (by decide) ?_
        subst hQ
        exact W.iret (v := (-3)) hx hb hr (fun t ht hW => ⟨⟨_, u, rfl, h, by rw [ht]; exact hP, hD⟩, hS.F ht⟩) hS.2.2 dX8_type_65
    · replace h := h.2 hc_5
      refine lv_lload_n hx hb dX8_type_21 rfl (lv_at hl 2 rfl) ?_
      refine lv_bipush (v := 8) hx hb dX8_type_22 (by decide) ?_
      refine lv_iload hx hb dX8_type_24 (lv_at hl 0 rfl) ?_
      refine lv_imul hx hb dX8_type_26 ?_
      refine lv_lshr (v := (j_lshr x1 (8 * v4_4))) hx hb dX8_type_27 rfl ?_
      refine lv_ldc2 hx hb hown lk_2 dX8_type_28 ?_
      refine lv_land hx hb dX8_type_31 ?_
      refine lv_l2i (v := (Int64.toInt32 ((j_lshr x1 (8 * v4_4)) &&& 255))) hx hb dX8_type_32 rfl ?_
      refine lv_bipush (v := 32) hx hb dX8_type_33 (by decide) ?_
      refine lv_bipush (v := 126) hx hb dX8_type_35 (by decide) ?_
      have hFc := fl_freeN hS hA
      refine va_calli (va_runS (As := [.int (Int64.toInt32 ((j_lshr x1 (8 * v4_4)) &&& 255)), .int 32, .int 126]) (rest := []) ⟨hx, hb, hml, hown, hts⟩ (c_X8_in l H.size (Int64.toInt32 ((j_lshr x1 (8 * v4_4)) &&& 255)) 32 126 _ h) (va_cwS 3 hts gX8_type_X8_in rfl rfl rfl (by decide +kernel) ⟨Nat.le_of_ble_eq_true rfl, Nat.le_of_ble_eq_true rfl⟩) ⟨fun a U g mk q => by obtain ⟨q0, q1⟩ := q; exact ⟨q0, q1⟩, fun U hU hW => ⟨rfl, congrArg Array.size hU⟩⟩ rfl rfl hl.1 rfl (lv_room (Nat.le_of_ble_eq_true rfl)) dX8_type_37 ⟨Nat.zero_le _, Nat.zero_le _⟩) hS (fun q _ h => hFc q h) hFc (fun r_15 zz t H1 locs ht hvm hw hB hz1 hk1 hS => ?_)
      replace hP := fl_keep hP hk1
      replace h := hw
      generalize H1 = H at hP hS ⊢
      refine lv_if_ne (tgt := 45) hx hb dX8_type_40 (by decide) (fun hc_16 => ?_) (fun hc_16 => ?_)
      · replace h := h.1 hc_16
        refine lv_iinc (v := (v4_4 + 1)) (lv' := [(4, .int (v4_4 + 1)), (0, .ref (a 0)), (1, .long x1), (3, .int x2)]) hx hb dX8_type_45 hl (k := 0) rfl rfl (by decide) rfl (fun ls hl => ?_)
        refine lv_goto (tgt := 15) hx hb dX8_type_48 (by decide) ?_
        exact ih_LL_3 _ h _ _ _ hP hD hS (lv_sub hl [0, 1, 2, 3] rfl)
      · replace h := h.2 hc_16
        refine lv_iconst (v := (-1)) hx hb dX8_type_43 (by decide) ?_
        subst hQ
        exact W.iret (v := (-1)) hx hb hr (fun t ht hW => ⟨⟨_, u, rfl, h, by rw [ht]; exact hP, hD⟩, hS.F ht⟩) hS.2.2 dX8_type_44
  · replace h := h.2 hc_2
    refine lv_iconst (v := (-1)) hx hb dX8_type_10 (by decide) ?_
    subst hQ
    exact W.iret (v := (-1)) hx hb hr (fun t ht hW => ⟨⟨_, u, rfl, h, by rw [ht]; exact hP, hD⟩, hS.F ht⟩) hS.2.2 dX8_type_11
