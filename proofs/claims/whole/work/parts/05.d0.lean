abbrev rm_X7_startAgain : Room := { frames := 1, cells := 0, slots := 0, locals := 21 }
set_option maxHeartbeats 4000000 in
set_option maxRecDepth 100000 in
theorem c_X7_startAgain (l : Launch) (dC : Nat → ClassId) (dI : Nat → Nat → Nat) (AA : Nat → Nat → Nat) (CA : Nat → Nat → ClassId) (sz : Nat) (uf : Ob) (um : Ob) (ut : Ob) (uh : Ob) (ug : Ob) (ur : Ob) (uw : Ob) (ux : Ob) (uy : Ob) (post : Ob → Ob → Prop) (h : wp_X7_startAgain uf uh post) : Met l yX7_startAgain wsX7_startAgain rm_X7_startAgain (va_Pc [.ref (AA 0 0)] (fun U => U.heap.size = sz ∧ va_P (dC, dI) vwCl (wd_X7 AA CA uf um ut uh ug ur uw ux uy) U.heap ∧ va_K (dC, dI) vwCl (ty_X7 CA) U ∧ va_D (fun _ => True) (wd_X7 AA CA uf um ut uh ug ur uw ux uy))) (va_Qv (fun zz : Ob × Ob => post zz.1 zz.2) (fun (zz : Ob × Ob) (t : State) => va_P (dC, dI) vwCl (wd_X7 AA CA zz.1 um ut zz.2 ug ur uw ux uy) t.heap ∧ va_D (va_A (wd_X7 AA CA uf um ut uh ug ur uw ux uy) sz) (wd_X7 AA CA zz.1 um ut zz.2 ug ur uw ux uy)) (va_A (wd_X7 AA CA uf um ut uh ug ur uw ux uy) sz)) 0 0 (va_A (wd_X7 AA CA uf um ut uh ug ur uw ux uy) sz) := by
  refine fl_ofW (cc := cX7_startAgain) (maxL := 1) (ret := none) (by decide) rfl ?_
  intro p e s m args below meth c s₁ Q B hml hv hQ
  obtain ⟨hargs, hsz, hP, hK, hD0⟩ := hv
  have hx := B.exec
  have hb := B.bytes
  have hr := B.returns
  have hts := atoms_spec (ws := wsX7_startAgain) B.pre
  have hown : s.vm.findClass RX7 = some m.cls := findClass_of_methodNamed B.named
  subst hsz
  have hD := hD0.self (sz := s.heap.size)
  generalize hAe : va_A (wd_X7 AA CA uf um ut uh ug ur uw ux uy) s.heap.size = A at hD hQ
  have hA : ∀ q : Nat, s.heap.size ≤ q → A q := fun q h => by rw [← hAe]; exact Or.inr h
  have hS : va_S A s.heap s.heap [] := va_S.rf
  have hl := lv_entry ([.ref (AA 0 0)]) (n := 1) (Nat.le_of_ble_eq_true rfl)
  refine W.eq (g2 := F0 m 0 ((lg_sl ([.ref (AA 0 0)]) ++ List.replicate (1 - (lg_sl ([.ref (AA 0 0)])).length) Slot.unset).toArray) []) (by rw [hargs]; exact lg_entry_eq m _ 1) ?_
  generalize (lg_sl ([.ref (AA 0 0)]) ++ List.replicate (1 - (lg_sl ([.ref (AA 0 0)])).length) Slot.unset).toArray = ls at hl ⊢
  have hl : lv_has ls 1 [(0, .ref (AA 0 0))] := hl
  suffices hstart : ∀ (H : Heap) (locs : List Loc) (ls : Array Slot), va_P (dC, dI) vwCl (wd_X7 AA CA uf um ut uh ug ur uw ux uy) H → va_D A (wd_X7 AA CA uf um ut uh ug ur uw ux uy) → va_S A s.heap H locs → lv_has ls 1 [(0, .ref (AA 0 0))] → W p l e (headSpec wsX7_startAgain rm_X7_startAgain).room s m args below meth c H locs 0 0 Q (F0 m 0 ls []) from hstart _ _ _ hP hD hS hl
  clear hS hP hD hD0
  intro H locs ls hP hD hS hl
  have hin_X7 : ∀ w ∈ wsX70, w ∈ wsX7_startAgain := by decide +kernel
  have lk_0 := hts (.fieldLink RX7 26 "ForgettingLines" "here" "LForgettingLines$Place;") (by decide +kernel)
  have lk_1 := hts (.fieldLink RX7 146 "ForgettingLines" "searched" "Z") (by decide +kernel)
  unfold wp_X7_startAgain at h
  refine lv_aload_n hx hb dX7_startAgain_0 rfl (lv_at hl 0 rfl) ?_
  refine va_get (D := (dC, dI)) (ci := 6) (v := .ref (AA 3 0)) (C := RX7) (T := TX7) (N := 8) hx hb hts hin_X7 hown hK hP 0 rfl rfl 2 (by decide) lk_0 (fun _ h9 => h9) rfl dX7_startAgain_1 ?_
  refine lv_iconst (v := 0) hx hb dX7_startAgain_4 (by decide) ?_
  have hPc := hP.sub (ws' := (wd_X1 (AA 3) (CA 3) uh)) [8, 9] rfl
  have hDc := hD.sub (ws' := (wd_X1 (AA 3) (CA 3) uh)) [8, 9] (by decide) rfl
  have hKc := hK.sub (tys' := (ty_X1 (CA 3))) [5] rfl
  have hFc := va_free (wc := (wd_X1 (AA 3) (CA 3) uh)) hD hS hA [8, 9] rfl
  refine va_callv (va_runV (As := [.int 0]) (rest := []) ⟨hx, hb, hml, hown, hts⟩ (c_X1_clear l dC dI (AA 3) (CA 3) H.size uh 0 _ h) (cwV 1 hts gX7_startAgain_X1_clear rfl rfl rfl (by decide +kernel) ⟨Nat.le_of_ble_eq_true rfl, Nat.le_of_ble_eq_true rfl⟩) ⟨fun a U g mk q => by obtain ⟨q0, q1, qP, qK, qD⟩ := q; exact ⟨q0, q1, qP, va_K.moved (u := U) (U := U.calling g mk a) (Vm.Alike.refl U.vm) qK, qD⟩, va_recv hKc hPc (ci := 1) (q0 := 0) rfl rfl, fun U hU hW => ⟨rfl, by rw [hU], by rw [hU]; exact hPc, va_K.moved hW.alike hKc, hDc.weaken (fun _ _ _ _ => trivial)⟩⟩ rfl rfl hl.1 rfl (lv_room (Nat.le_of_ble_eq_true rfl)) dX7_startAgain_5 ⟨Nat.zero_le _, Nat.zero_le _⟩) hS (fun q _ h => hFc q h) hFc (fun zz t H1 locs ht hvm hw hB hz1 hk1 hS => ?_)
  obtain ⟨uh_1, rfl⟩ : ∃ z, z = zz := ⟨_, rfl⟩
  replace h := hw
  obtain ⟨hP1, hD1⟩ := hB
  rw [ht] at hP1
  obtain ⟨hP, hD⟩ := va_join (wr := [0, 1, 2, 3, 4, 5, 6, 7, 10, 11, 12, 13, 14, 15, 16, 17, 18, 19, 20, 21, 22, 23, 24, 25].filterMap (fun i => (wd_X7 AA CA uf um ut uh ug ur uw ux uy)[i]?)) (w1 := (wd_X1 (AA 3) (CA 3) uh_1)) hP hD [8, 9] [0, 1, 2, 3, 4, 5, 6, 7, 10, 11, 12, 13, 14, 15, 16, 17, 18, 19, 20, 21, 22, 23, 24, 25] rfl rfl (by decide) (by decide) hk1 hFc hP1 hD1
  replace hP : va_P (dC, dI) vwCl (wd_X7 AA CA uf um ut uh_1 ug ur uw ux uy) H1 := (hP.sub [0, 1, 2, 3, 4, 5, 6, 7, 24, 25, 8, 9, 10, 11, 12, 13, 14, 15, 16, 17, 18, 19, 20, 21, 22, 23] rfl)
  replace hD : va_D A (wd_X7 AA CA uf um ut uh_1 ug ur uw ux uy) := (hD.sub [0, 1, 2, 3, 4, 5, 6, 7, 24, 25, 8, 9, 10, 11, 12, 13, 14, 15, 16, 17, 18, 19, 20, 21, 22, 23] (by decide) rfl)
  generalize H1 = H at hP hS ⊢
  refine lv_aload_n hx hb dX7_startAgain_8 rfl (lv_at hl 0 rfl) ?_
  refine lv_iconst (v := 0) hx hb dX7_startAgain_9 (by decide) ?_
  refine va_put (D := (dC, dI)) (ci := 6) (v := .int 0) (ty := .boolean) (C := RX7) (T := TX7) (N := 8) hx hb hts hin_X7 tyX7 tyX7_ok nmX7 hown hK hP hD hS 0 rfl rfl 7 (by decide) lk_1 (fun _ h9 => h9) rfl (by decide +kernel) rfl rfl (Nat.le_of_ble_eq_true rfl) dX7_startAgain_10 (fun H locs hP hD hS => ?_)
  obtain ⟨uf_2, euf_2⟩ : ∃ z : Ob, z = fs_i uf 7 0 := ⟨_, rfl⟩
  replace h := h uf_2 euf_2
  replace hP : va_P (dC, dI) vwCl (wd_X7 AA CA uf_2 um ut uh_1 ug ur uw ux uy) H := by rw [euf_2]; exact hP
  replace hD : va_D A (wd_X7 AA CA uf_2 um ut uh_1 ug ur uw ux uy) := by rw [euf_2]; exact hD
  subst hQ
  exact W.vret hx hb hr (fun t ht hW => ⟨⟨(uf_2, uh_1), rfl, h, by rw [ht]; exact hP, hD⟩, hS.F ht⟩) hS.2.2 dX7_startAgain_13
abbrev rm_X7_states : Room := { frames := 2, cells := 0, slots := 0, locals := 41 }
set_option maxHeartbeats 4000000 in
set_option maxRecDepth 100000 in
theorem c_X7_states (l : Launch) (dC : Nat → ClassId) (dI : Nat → Nat → Nat) (AA : Nat → Nat → Nat) (CA : Nat → Nat → ClassId) (sz : Nat) (uf : Ob) (um : Ob) (ut : Ob) (uh : Ob) (ug : Ob) (ur : Ob) (uw : Ob) (ux : Ob) (uy : Ob) (x1 : Int32) (post : Int32 → Ob → Ob → Ob → Ob → Prop) (h : wp_X7_states uf um uh ug x1 post) : Met l yX7_states wsX7_states rm_X7_states (va_Pc [.ref (AA 0 0), .int x1] (fun U => U.heap.size = sz ∧ va_P (dC, dI) vwCl (wd_X7 AA CA uf um ut uh ug ur uw ux uy) U.heap ∧ va_K (dC, dI) vwCl (ty_X7 CA) U ∧ va_D (fun _ => True) (wd_X7 AA CA uf um ut uh ug ur uw ux uy))) (va_Qi (fun (rr : Int32) (zz : Ob × Ob × Ob × Ob) => post rr zz.1 zz.2.1 zz.2.2.1 zz.2.2.2) (fun (zz : Ob × Ob × Ob × Ob) (t : State) => va_P (dC, dI) vwCl (wd_X7 AA CA zz.1 zz.2.1 ut zz.2.2.1 zz.2.2.2 ur uw ux uy) t.heap ∧ va_D (va_A (wd_X7 AA CA uf um ut uh ug ur uw ux uy) sz) (wd_X7 AA CA zz.1 zz.2.1 ut zz.2.2.1 zz.2.2.2 ur uw ux uy)) (va_A (wd_X7 AA CA uf um ut uh ug ur uw ux uy) sz)) 0 0 (va_A (wd_X7 AA CA uf um ut uh ug ur uw ux uy) sz) := by
  refine fl_ofW (cc := cX7_states) (maxL := 3) (ret := (some .int)) (by decide) rfl ?_
  intro p e s m args below meth c s₁ Q B hml hv hQ
  obtain ⟨hargs, hsz, hP, hK, hD0⟩ := hv
  have hx := B.exec
  have hb := B.bytes
  have hr := B.returns
  have hts := atoms_spec (ws := wsX7_states) B.pre
  have hown : s.vm.findClass RX7 = some m.cls := findClass_of_methodNamed B.named
  subst hsz
  have hD := hD0.self (sz := s.heap.size)
  generalize hAe : va_A (wd_X7 AA CA uf um ut uh ug ur uw ux uy) s.heap.size = A at hD hQ
  have hA : ∀ q : Nat, s.heap.size ≤ q → A q := fun q h => by rw [← hAe]; exact Or.inr h
  have hS : va_S A s.heap s.heap [] := va_S.rf
  have hl := lv_entry ([.ref (AA 0 0), .int x1]) (n := 3) (Nat.le_of_ble_eq_true rfl)
  refine W.eq (g2 := F0 m 0 ((lg_sl ([.ref (AA 0 0), .int x1]) ++ List.replicate (3 - (lg_sl ([.ref (AA 0 0), .int x1])).length) Slot.unset).toArray) []) (by rw [hargs]; exact lg_entry_eq m _ 3) ?_
  generalize (lg_sl ([.ref (AA 0 0), .int x1]) ++ List.replicate (3 - (lg_sl ([.ref (AA 0 0), .int x1])).length) Slot.unset).toArray = ls at hl ⊢
  have hl : lv_has ls 3 [(0, .ref (AA 0 0)), (1, .int x1)] := hl
  suffices hstart : ∀ (H : Heap) (locs : List Loc) (ls : Array Slot), va_P (dC, dI) vwCl (wd_X7 AA CA uf um ut uh ug ur uw ux uy) H → va_D A (wd_X7 AA CA uf um ut uh ug ur uw ux uy) → va_S A s.heap H locs → lv_has ls 3 [(0, .ref (AA 0 0)), (1, .int x1)] → W p l e (headSpec wsX7_states rm_X7_states).room s m args below meth c H locs 0 0 Q (F0 m 0 ls []) from hstart _ _ _ hP hD hS hl
  clear hS hP hD hD0
  intro H locs ls hP hD hS hl
  have hin_X0 : ∀ w ∈ wsX00, w ∈ wsX7_states := by decide +kernel
  have hin_X7 : ∀ w ∈ wsX70, w ∈ wsX7_states := by decide +kernel
  have lk_0 := hts (.fieldLink RX7 10 "ForgettingLines" "machine" "LForgettingLines$Machine;") (by decide +kernel)
  have lk_1 := hts (.fieldLink RX7 54 "ForgettingLines$Machine" "states" "I") (by decide +kernel)
  have lk_2 := hts (.fieldLink RX7 58 "ForgettingLines$Machine" "count" "I") (by decide +kernel)
  have lk_3 := hts (.fieldLink RX7 30 "ForgettingLines" "target" "LForgettingLines$Place;") (by decide +kernel)
  unfold wp_X7_states at h
  refine lv_iload_n hx hb dX7_states_0 rfl (lv_at hl 1 rfl) ?_
  refine lv_iconst (v := 1) hx hb dX7_states_1 (by decide) ?_
  refine lv_icmp_lt (tgt := 11) hx hb dX7_states_2 (by decide) (fun hc_1 => ?_) (fun hc_1 => ?_)
  · replace h := h.1 hc_1
    refine lv_iconst (v := (-1)) hx hb dX7_states_11 (by decide) ?_
    subst hQ
    exact W.iret (v := (-1)) hx hb hr (fun t ht hW => ⟨⟨_, (uf, um, uh, ug), rfl, h, by rw [ht]; exact hP, hD⟩, hS.F ht⟩) hS.2.2 dX7_states_12
  · replace h := h.2 hc_1
    refine lv_iload_n hx hb dX7_states_5 rfl (lv_at hl 1 rfl) ?_
    refine lv_bipush (v := 8) hx hb dX7_states_6 (by decide) ?_
    refine lv_icmp_le (tgt := 13) hx hb dX7_states_8 (by decide) (fun hc_2 => ?_) (fun hc_2 => ?_)
    · replace h := h.1 hc_2
      refine lv_aload_n hx hb dX7_states_13 rfl (lv_at hl 0 rfl) ?_
      refine va_get (D := (dC, dI)) (ci := 6) (v := .ref (AA 1 0)) (C := RX7) (T := TX7) (N := 8) hx hb hts hin_X7 hown hK hP 0 rfl rfl 0 (by decide) lk_0 (fun _ h9 => h9) rfl dX7_states_14 ?_
      refine va_get (D := (dC, dI)) (ci := 0) (v := .int (um.1 0)) (C := RX0) (T := TX0) (N := 4) hx hb hts hin_X0 hown hK hP 2 rfl rfl 0 (by decide) lk_1 (fun _ h9 => h9) rfl dX7_states_17 ?_
      refine lv_istore_n (lv' := [(2, .int (um.1 0)), (0, .ref (AA 0 0)), (1, .int x1)]) hx hb dX7_states_20 rfl hl (by decide) rfl (fun ls hl => ?_)
      refine lv_aload_n hx hb dX7_states_21 rfl (lv_at hl 1 rfl) ?_
      refine va_get (D := (dC, dI)) (ci := 6) (v := .ref (AA 1 0)) (C := RX7) (T := TX7) (N := 8) hx hb hts hin_X7 hown hK hP 0 rfl rfl 0 (by decide) lk_0 (fun _ h9 => h9) rfl dX7_states_22 ?_
      refine lv_iload_n hx hb dX7_states_25 rfl (lv_at hl 2 rfl) ?_
      refine va_put (D := (dC, dI)) (ci := 0) (v := .int x1) (ty := .int) (C := RX0) (T := TX0) (N := 4) hx hb hts hin_X0 tyX0 tyX0_ok nmX0 hown hK hP hD hS 2 rfl rfl 0 (by decide) lk_1 (fun _ h9 => h9) rfl (by decide +kernel) rfl rfl (Nat.le_of_ble_eq_true rfl) dX7_states_26 (fun H locs hP hD hS => ?_)
      obtain ⟨um_3, eum_3⟩ : ∃ z : Ob, z = fs_i um 0 x1 := ⟨_, rfl⟩
      replace h := h um_3 eum_3
      replace hP : va_P (dC, dI) vwCl (wd_X7 AA CA uf um_3 ut uh ug ur uw ux uy) H := by rw [eum_3]; exact hP
      replace hD : va_D A (wd_X7 AA CA uf um_3 ut uh ug ur uw ux uy) := by rw [eum_3]; exact hD
      refine lv_aload_n hx hb dX7_states_29 rfl (lv_at hl 1 rfl) ?_
      refine va_get (D := (dC, dI)) (ci := 6) (v := .ref (AA 1 0)) (C := RX7) (T := TX7) (N := 8) hx hb hts hin_X7 hown hK hP 0 rfl rfl 0 (by decide) lk_0 (fun _ h9 => h9) rfl dX7_states_30 ?_
      refine lv_iconst (v := 0) hx hb dX7_states_33 (by decide) ?_
      refine va_put (D := (dC, dI)) (ci := 0) (v := .int 0) (ty := .int) (C := RX0) (T := TX0) (N := 4) hx hb hts hin_X0 tyX0 tyX0_ok nmX0 hown hK hP hD hS 2 rfl rfl 1 (by decide) lk_2 (fun _ h9 => h9) rfl (by decide +kernel) rfl rfl (Nat.le_of_ble_eq_true rfl) dX7_states_34 (fun H locs hP hD hS => ?_)
      obtain ⟨um_4, eum_4⟩ : ∃ z : Ob, z = fs_i um_3 1 0 := ⟨_, rfl⟩
      replace h := h um_4 eum_4
      replace hP : va_P (dC, dI) vwCl (wd_X7 AA CA uf um_4 ut uh ug ur uw ux uy) H := by rw [eum_4]; exact hP
      replace hD : va_D A (wd_X7 AA CA uf um_4 ut uh ug ur uw ux uy) := by rw [eum_4]; exact hD
      refine lv_aload_n hx hb dX7_states_37 rfl (lv_at hl 1 rfl) ?_
      refine va_get (D := (dC, dI)) (ci := 6) (v := .ref (AA 4 0)) (C := RX7) (T := TX7) (N := 8) hx hb hts hin_X7 hown hK hP 0 rfl rfl 3 (by decide) lk_3 (fun _ h9 => h9) rfl dX7_states_38 ?_
      refine lv_iconst (v := 0) hx hb dX7_states_41 (by decide) ?_
      have hPc := hP.sub (ws' := (wd_X1 (AA 4) (CA 4) ug)) [10, 11] rfl
      have hDc := hD.sub (ws' := (wd_X1 (AA 4) (CA 4) ug)) [10, 11] (by decide) rfl
      have hKc := hK.sub (tys' := (ty_X1 (CA 4))) [6] rfl
      have hFc := va_free (wc := (wd_X1 (AA 4) (CA 4) ug)) hD hS hA [10, 11] rfl
      refine va_callv (va_runV (As := [.int 0]) (rest := []) ⟨hx, hb, hml, hown, hts⟩ (c_X1_clear l dC dI (AA 4) (CA 4) H.size ug 0 _ h) (cwV 1 hts gX7_states_X1_clear rfl rfl rfl (by decide +kernel) ⟨Nat.le_of_ble_eq_true rfl, Nat.le_of_ble_eq_true rfl⟩) ⟨fun a U g mk q => by obtain ⟨q0, q1, qP, qK, qD⟩ := q; exact ⟨q0, q1, qP, va_K.moved (u := U) (U := U.calling g mk a) (Vm.Alike.refl U.vm) qK, qD⟩, va_recv hKc hPc (ci := 1) (q0 := 0) rfl rfl, fun U hU hW => ⟨rfl, by rw [hU], by rw [hU]; exact hPc, va_K.moved hW.alike hKc, hDc.weaken (fun _ _ _ _ => trivial)⟩⟩ rfl rfl hl.1 rfl (lv_room (Nat.le_of_ble_eq_true rfl)) dX7_states_42 ⟨Nat.zero_le _, Nat.zero_le _⟩) hS (fun q _ h => hFc q h) hFc (fun zz t H1 locs ht hvm hw hB hz1 hk1 hS => ?_)
      obtain ⟨ug_5, rfl⟩ : ∃ z, z = zz := ⟨_, rfl⟩
      replace h := hw
      obtain ⟨hP1, hD1⟩ := hB
      rw [ht] at hP1
      obtain ⟨hP, hD⟩ := va_join (wr := [0, 1, 2, 3, 4, 5, 6, 7, 8, 9, 12, 13, 14, 15, 16, 17, 18, 19, 20, 21, 22, 23, 24, 25].filterMap (fun i => (wd_X7 AA CA uf um_4 ut uh ug ur uw ux uy)[i]?)) (w1 := (wd_X1 (AA 4) (CA 4) ug_5)) hP hD [10, 11] [0, 1, 2, 3, 4, 5, 6, 7, 8, 9, 12, 13, 14, 15, 16, 17, 18, 19, 20, 21, 22, 23, 24, 25] rfl rfl (by decide) (by decide) hk1 hFc hP1 hD1
      replace hP : va_P (dC, dI) vwCl (wd_X7 AA CA uf um_4 ut uh ug_5 ur uw ux uy) H1 := (hP.sub [0, 1, 2, 3, 4, 5, 6, 7, 8, 9, 24, 25, 10, 11, 12, 13, 14, 15, 16, 17, 18, 19, 20, 21, 22, 23] rfl)
      replace hD : va_D A (wd_X7 AA CA uf um_4 ut uh ug_5 ur uw ux uy) := (hD.sub [0, 1, 2, 3, 4, 5, 6, 7, 8, 9, 24, 25, 10, 11, 12, 13, 14, 15, 16, 17, 18, 19, 20, 21, 22, 23] (by decide) rfl)
      generalize H1 = H at hP hS ⊢
      refine lv_aload_n hx hb dX7_states_45 rfl (lv_at hl 1 rfl) ?_
      have hPc := hP
      have hDc := hD
      have hKc := hK
      have hFc := va_free (wc := (wd_X7 AA CA uf um_4 ut uh ug_5 ur uw ux uy)) hD hS hA [0, 1, 2, 3, 4, 5, 6, 7, 8, 9, 10, 11, 12, 13, 14, 15, 16, 17, 18, 19, 20, 21, 22, 23, 24, 25] rfl
      refine va_callv (va_runV (As := []) (rest := []) ⟨hx, hb, hml, hown, hts⟩ (c_X7_startAgain l dC dI AA CA H.size uf um_4 ut uh ug_5 ur uw ux uy _ h) (cwV 0 hts gX7_states_X7_startAgain rfl rfl rfl (by decide +kernel) ⟨Nat.le_of_ble_eq_true rfl, Nat.le_of_ble_eq_true rfl⟩) ⟨fun a U g mk q => by obtain ⟨q0, q1, qP, qK, qD⟩ := q; exact ⟨q0, q1, qP, va_K.moved (u := U) (U := U.calling g mk a) (Vm.Alike.refl U.vm) qK, qD⟩, va_recv hKc hPc (ci := 6) (q0 := 0) rfl rfl, fun U hU hW => ⟨rfl, by rw [hU], by rw [hU]; exact hPc, va_K.moved hW.alike hKc, hDc.weaken (fun _ _ _ _ => trivial)⟩⟩ rfl rfl hl.1 rfl (lv_room (Nat.le_of_ble_eq_true rfl)) dX7_states_46 ⟨Nat.zero_le _, Nat.zero_le _⟩) hS (fun q _ h => hFc q h) hFc (fun zz t H1 locs ht hvm hw hB hz1 hk1 hS => ?_)
      obtain ⟨uf_6, uh_7⟩ := zz
      replace h := hw
      obtain ⟨hP1, hD1⟩ := hB
      rw [ht] at hP1
      replace hD : va_D A (wd_X7 AA CA uf_6 um_4 ut uh_7 ug_5 ur uw ux uy) := hD1.weaken (fun _ _ _ h9 => hFc _ h9)
      replace hP : va_P (dC, dI) vwCl (wd_X7 AA CA uf_6 um_4 ut uh_7 ug_5 ur uw ux uy) H1 := hP1
      generalize H1 = H at hP hS ⊢
      refine lv_iload_n hx hb dX7_states_49 rfl (lv_at hl 0 rfl) ?_
      subst hQ
      exact W.iret (v := (um.1 0)) hx hb hr (fun t ht hW => ⟨⟨_, (uf_6, um_4, uh_7, ug_5), rfl, h, by rw [ht]; exact hP, hD⟩, hS.F ht⟩) hS.2.2 dX7_states_50
    · replace h := h.2 hc_2
      refine lv_iconst (v := (-1)) hx hb dX7_states_11 (by decide) ?_
      subst hQ
      exact W.iret (v := (-1)) hx hb hr (fun t ht hW => ⟨⟨_, (uf, um, uh, ug), rfl, h, by rw [ht]; exact hP, hD⟩, hS.F ht⟩) hS.2.2 dX7_states_12
abbrev rm_X7_bag : Room := { frames := 2, cells := 0, slots := 0, locals := 41 }
set_option maxHeartbeats 4000000 in
set_option maxRecDepth 100000 in
theorem c_X7_bag (l : Launch) (dC : Nat → ClassId) (dI : Nat → Nat → Nat) (AA : Nat → Nat → Nat) (CA : Nat → Nat → ClassId) (sz : Nat) (uf : Ob) (um : Ob) (ut : Ob) (uh : Ob) (ug : Ob) (ur : Ob) (uw : Ob) (ux : Ob) (uy : Ob) (x1 : Int32) (x2 : Int32) (post : Int32 → Ob → Ob → Ob → Ob → Prop) (h : wp_X7_bag uf um uh ug x1 x2 post) : Met l yX7_bag wsX7_bag rm_X7_bag (va_Pc [.ref (AA 0 0), .int x1, .int x2] (fun U => U.heap.size = sz ∧ va_P (dC, dI) vwCl (wd_X7 AA CA uf um ut uh ug ur uw ux uy) U.heap ∧ va_K (dC, dI) vwCl (ty_X7 CA) U ∧ va_D (fun _ => True) (wd_X7 AA CA uf um ut uh ug ur uw ux uy))) (va_Qi (fun (rr : Int32) (zz : Ob × Ob × Ob × Ob) => post rr zz.1 zz.2.1 zz.2.2.1 zz.2.2.2) (fun (zz : Ob × Ob × Ob × Ob) (t : State) => va_P (dC, dI) vwCl (wd_X7 AA CA zz.1 zz.2.1 ut zz.2.2.1 zz.2.2.2 ur uw ux uy) t.heap ∧ va_D (va_A (wd_X7 AA CA uf um ut uh ug ur uw ux uy) sz) (wd_X7 AA CA zz.1 zz.2.1 ut zz.2.2.1 zz.2.2.2 ur uw ux uy)) (va_A (wd_X7 AA CA uf um ut uh ug ur uw ux uy) sz)) 0 0 (va_A (wd_X7 AA CA uf um ut uh ug ur uw ux uy) sz) := by
  refine fl_ofW (cc := cX7_bag) (maxL := 4) (ret := (some .int)) (by decide) rfl ?_
  intro p e s m args below meth c s₁ Q B hml hv hQ
  obtain ⟨hargs, hsz, hP, hK, hD0⟩ := hv
  have hx := B.exec
  have hb := B.bytes
  have hr := B.returns
  have hts := atoms_spec (ws := wsX7_bag) B.pre
  have hown : s.vm.findClass RX7 = some m.cls := findClass_of_methodNamed B.named
  subst hsz
  have hD := hD0.self (sz := s.heap.size)
  generalize hAe : va_A (wd_X7 AA CA uf um ut uh ug ur uw ux uy) s.heap.size = A at hD hQ
  have hA : ∀ q : Nat, s.heap.size ≤ q → A q := fun q h => by rw [← hAe]; exact Or.inr h
  have hS : va_S A s.heap s.heap [] := va_S.rf
  have hl := lv_entry ([.ref (AA 0 0), .int x1, .int x2]) (n := 4) (Nat.le_of_ble_eq_true rfl)
  refine W.eq (g2 := F0 m 0 ((lg_sl ([.ref (AA 0 0), .int x1, .int x2]) ++ List.replicate (4 - (lg_sl ([.ref (AA 0 0), .int x1, .int x2])).length) Slot.unset).toArray) []) (by rw [hargs]; exact lg_entry_eq m _ 4) ?_
  generalize (lg_sl ([.ref (AA 0 0), .int x1, .int x2]) ++ List.replicate (4 - (lg_sl ([.ref (AA 0 0), .int x1, .int x2])).length) Slot.unset).toArray = ls at hl ⊢
  have hl : lv_has ls 4 [(0, .ref (AA 0 0)), (1, .int x1), (2, .int x2)] := hl
  suffices hstart : ∀ (H : Heap) (locs : List Loc) (ls : Array Slot), va_P (dC, dI) vwCl (wd_X7 AA CA uf um ut uh ug ur uw ux uy) H → va_D A (wd_X7 AA CA uf um ut uh ug ur uw ux uy) → va_S A s.heap H locs → lv_has ls 4 [(0, .ref (AA 0 0)), (1, .int x1), (2, .int x2)] → W p l e (headSpec wsX7_bag rm_X7_bag).room s m args below meth c H locs 0 0 Q (F0 m 0 ls []) from hstart _ _ _ hP hD hS hl
  clear hS hP hD hD0
  intro H locs ls hP hD hS hl
  have hin_X0 : ∀ w ∈ wsX00, w ∈ wsX7_bag := by decide +kernel
  have hin_X7 : ∀ w ∈ wsX70, w ∈ wsX7_bag := by decide +kernel
  have lk_0 := hts (.fieldLink RX7 10 "ForgettingLines" "machine" "LForgettingLines$Machine;") (by decide +kernel)
  have lk_1 := hts (.fieldLink RX7 72 "ForgettingLines$Machine" "isBag" "[Z") (by decide +kernel)
  have lk_2 := hts (.fieldLink RX7 30 "ForgettingLines" "target" "LForgettingLines$Place;") (by decide +kernel)
  unfold wp_X7_bag at h
  refine lv_iload_n hx hb dX7_bag_0 rfl (lv_at hl 1 rfl) ?_
  refine lv_iconst (v := 2) hx hb dX7_bag_1 (by decide) ?_
  have hFc := fl_freeN hS hA
  refine va_calli (va_runS (As := [.int x1, .int 2]) (rest := []) ⟨hx, hb, hml, hown, hts⟩ (c_X7_isAmong l H.size x1 2 _ h) (va_cwS 2 hts gX7_bag_X7_isAmong rfl rfl rfl (by decide +kernel) ⟨Nat.le_of_ble_eq_true rfl, Nat.le_of_ble_eq_true rfl⟩) ⟨fun a U g mk q => by obtain ⟨q0, q1⟩ := q; exact ⟨q0, q1⟩, fun U hU hW => ⟨rfl, congrArg Array.size hU⟩⟩ rfl rfl hl.1 rfl (lv_room (Nat.le_of_ble_eq_true rfl)) dX7_bag_2 ⟨Nat.zero_le _, Nat.zero_le _⟩) hS (fun q _ h => hFc q h) hFc (fun r_1 zz t H1 locs ht hvm hw hB hz1 hk1 hS => ?_)
  replace hP := fl_keep hP hk1
  replace h := hw
  generalize H1 = H at hP hS ⊢
  refine lv_if_ne (tgt := 10) hx hb dX7_bag_5 (by decide) (fun hc_2 => ?_) (fun hc_2 => ?_)
  · replace h := h.1 hc_2
    refine lv_aload_n hx hb dX7_bag_10 rfl (lv_at hl 0 rfl) ?_
    refine va_get (D := (dC, dI)) (ci := 6) (v := .ref (AA 1 0)) (C := RX7) (T := TX7) (N := 8) hx hb hts hin_X7 hown hK hP 0 rfl rfl 0 (by decide) lk_0 (fun _ h9 => h9) rfl dX7_bag_11 ?_
    refine va_get (D := (dC, dI)) (ci := 0) (v := .ref (AA 1 3)) (C := RX0) (T := TX0) (N := 4) hx hb hts hin_X0 hown hK hP 2 rfl rfl 2 (by decide) lk_1 (fun _ h9 => h9) rfl dX7_bag_14 ?_
    refine lv_iload_n hx hb dX7_bag_17 rfl (lv_at hl 1 rfl) ?_
    obtain ⟨hi_3, h⟩ := h
    refine va_zald (D := (dC, dI)) (cl := vwCl) (i := x1) hx hb hK hP 3 1 rfl rfl hi_3 dX7_bag_18 ?_
    refine jn1_ind (GG := (fun (w_5 : Int32) => ∀ (H : Heap) (locs : List Loc) (ls : Array Slot), va_P (dC, dI) vwCl (wd_X7 AA CA uf um ut uh ug ur uw ux uy) H → va_D A (wd_X7 AA CA uf um ut uh ug ur uw ux uy) → va_S A s.heap H locs → lv_has ls 4 [(0, .ref (AA 0 0)), (1, .int x1), (2, .int x2)] → W p l e (headSpec wsX7_bag rm_X7_bag).room s m args below meth c H locs 0 0 Q (F0 m 27 ls [.int w_5]))) h (fun w_5 h H locs ls hP hD hS hl => ?_) (fun JJ_4 ih_JJ_4 h => ?_)
    · refine lv_istore_n (lv' := [(3, .int w_5), (0, .ref (AA 0 0)), (1, .int x1), (2, .int x2)]) hx hb dX7_bag_27 rfl hl (by decide) rfl (fun ls hl => ?_)
      refine lv_aload_n hx hb dX7_bag_28 rfl (lv_at hl 1 rfl) ?_
      refine va_get (D := (dC, dI)) (ci := 6) (v := .ref (AA 1 0)) (C := RX7) (T := TX7) (N := 8) hx hb hts hin_X7 hown hK hP 0 rfl rfl 0 (by decide) lk_0 (fun _ h9 => h9) rfl dX7_bag_29 ?_
      refine va_get (D := (dC, dI)) (ci := 0) (v := .ref (AA 1 3)) (C := RX0) (T := TX0) (N := 4) hx hb hts hin_X0 hown hK hP 2 rfl rfl 2 (by decide) lk_1 (fun _ h9 => h9) rfl dX7_bag_32 ?_
      refine lv_iload_n hx hb dX7_bag_35 rfl (lv_at hl 2 rfl) ?_
      refine lv_iload_n hx hb dX7_bag_36 rfl (lv_at hl 3 rfl) ?_
      obtain ⟨hi_6, h⟩ := h
      refine va_zast (D := (dC, dI)) (cl := vwCl) (i := x1) hx hb hK hP hD hS 3 1 rfl rfl hi_6 dX7_bag_37 (fun H locs hP hD hS => ?_)
      obtain ⟨um_7, eum_7⟩ : ∃ z : Ob, z = fs_a um 2 (upd (um.2.1 2) x1.toNatClampNeg (vp_nar .boolean x2)) := ⟨_, rfl⟩
      replace h := h um_7 eum_7
      replace hP : va_P (dC, dI) vwCl (wd_X7 AA CA uf um_7 ut uh ug ur uw ux uy) H := by rw [eum_7]; exact hP
      replace hD : va_D A (wd_X7 AA CA uf um_7 ut uh ug ur uw ux uy) := by rw [eum_7]; exact hD
      refine lv_aload_n hx hb dX7_bag_38 rfl (lv_at hl 1 rfl) ?_
      refine va_get (D := (dC, dI)) (ci := 6) (v := .ref (AA 4 0)) (C := RX7) (T := TX7) (N := 8) hx hb hts hin_X7 hown hK hP 0 rfl rfl 3 (by decide) lk_2 (fun _ h9 => h9) rfl dX7_bag_39 ?_
      refine lv_iconst (v := 0) hx hb dX7_bag_42 (by decide) ?_
      have hPc := hP.sub (ws' := (wd_X1 (AA 4) (CA 4) ug)) [10, 11] rfl
      have hDc := hD.sub (ws' := (wd_X1 (AA 4) (CA 4) ug)) [10, 11] (by decide) rfl
      have hKc := hK.sub (tys' := (ty_X1 (CA 4))) [6] rfl
      have hFc := va_free (wc := (wd_X1 (AA 4) (CA 4) ug)) hD hS hA [10, 11] rfl
      refine va_callv (va_runV (As := [.int 0]) (rest := []) ⟨hx, hb, hml, hown, hts⟩ (c_X1_clear l dC dI (AA 4) (CA 4) H.size ug 0 _ h) (cwV 1 hts gX7_bag_X1_clear rfl rfl rfl (by decide +kernel) ⟨Nat.le_of_ble_eq_true rfl, Nat.le_of_ble_eq_true rfl⟩) ⟨fun a U g mk q => by obtain ⟨q0, q1, qP, qK, qD⟩ := q; exact ⟨q0, q1, qP, va_K.moved (u := U) (U := U.calling g mk a) (Vm.Alike.refl U.vm) qK, qD⟩, va_recv hKc hPc (ci := 1) (q0 := 0) rfl rfl, fun U hU hW => ⟨rfl, by rw [hU], by rw [hU]; exact hPc, va_K.moved hW.alike hKc, hDc.weaken (fun _ _ _ _ => trivial)⟩⟩ rfl rfl hl.1 rfl (lv_room (Nat.le_of_ble_eq_true rfl)) dX7_bag_43 ⟨Nat.zero_le _, Nat.zero_le _⟩) hS (fun q _ h => hFc q h) hFc (fun zz t H1 locs ht hvm hw hB hz1 hk1 hS => ?_)
      obtain ⟨ug_8, rfl⟩ : ∃ z, z = zz := ⟨_, rfl⟩
      replace h := hw
      obtain ⟨hP1, hD1⟩ := hB
      rw [ht] at hP1
      obtain ⟨hP, hD⟩ := va_join (wr := [0, 1, 2, 3, 4, 5, 6, 7, 8, 9, 12, 13, 14, 15, 16, 17, 18, 19, 20, 21, 22, 23, 24, 25].filterMap (fun i => (wd_X7 AA CA uf um_7 ut uh ug ur uw ux uy)[i]?)) (w1 := (wd_X1 (AA 4) (CA 4) ug_8)) hP hD [10, 11] [0, 1, 2, 3, 4, 5, 6, 7, 8, 9, 12, 13, 14, 15, 16, 17, 18, 19, 20, 21, 22, 23, 24, 25] rfl rfl (by decide) (by decide) hk1 hFc hP1 hD1
      replace hP : va_P (dC, dI) vwCl (wd_X7 AA CA uf um_7 ut uh ug_8 ur uw ux uy) H1 := (hP.sub [0, 1, 2, 3, 4, 5, 6, 7, 8, 9, 24, 25, 10, 11, 12, 13, 14, 15, 16, 17, 18, 19, 20, 21, 22, 23] rfl)
      replace hD : va_D A (wd_X7 AA CA uf um_7 ut uh ug_8 ur uw ux uy) := (hD.sub [0, 1, 2, 3, 4, 5, 6, 7, 8, 9, 24, 25, 10, 11, 12, 13, 14, 15, 16, 17, 18, 19, 20, 21, 22, 23] (by decide) rfl)
      generalize H1 = H at hP hS ⊢
      refine lv_aload_n hx hb dX7_bag_46 rfl (lv_at hl 1 rfl) ?_
      have hPc := hP
      have hDc := hD
      have hKc := hK
      have hFc := va_free (wc := (wd_X7 AA CA uf um_7 ut uh ug_8 ur uw ux uy)) hD hS hA [0, 1, 2, 3, 4, 5, 6, 7, 8, 9, 10, 11, 12, 13, 14, 15, 16, 17, 18, 19, 20, 21, 22, 23, 24, 25] rfl
      refine va_callv (va_runV (As := []) (rest := []) ⟨hx, hb, hml, hown, hts⟩ (c_X7_startAgain l dC dI AA CA H.size uf um_7 ut uh ug_8 ur uw ux uy _ h) (cwV 0 hts gX7_bag_X7_startAgain rfl rfl rfl (by decide +kernel) ⟨Nat.le_of_ble_eq_true rfl, Nat.le_of_ble_eq_true rfl⟩) ⟨fun a U g mk q => by obtain ⟨q0, q1, qP, qK, qD⟩ := q; exact ⟨q0, q1, qP, va_K.moved (u := U) (U := U.calling g mk a) (Vm.Alike.refl U.vm) qK, qD⟩, va_recv hKc hPc (ci := 6) (q0 := 0) rfl rfl, fun U hU hW => ⟨rfl, by rw [hU], by rw [hU]; exact hPc, va_K.moved hW.alike hKc, hDc.weaken (fun _ _ _ _ => trivial)⟩⟩ rfl rfl hl.1 rfl (lv_room (Nat.le_of_ble_eq_true rfl)) dX7_bag_47 ⟨Nat.zero_le _, Nat.zero_le _⟩) hS (fun q _ h => hFc q h) hFc (fun zz t H1 locs ht hvm hw hB hz1 hk1 hS => ?_)
      obtain ⟨uf_9, uh_10⟩ := zz
      replace h := hw
      obtain ⟨hP1, hD1⟩ := hB
      rw [ht] at hP1
      replace hD : va_D A (wd_X7 AA CA uf_9 um_7 ut uh_10 ug_8 ur uw ux uy) := hD1.weaken (fun _ _ _ h9 => hFc _ h9)
      replace hP : va_P (dC, dI) vwCl (wd_X7 AA CA uf_9 um_7 ut uh_10 ug_8 ur uw ux uy) H1 := hP1
      generalize H1 = H at hP hS ⊢
      refine lv_iload_n hx hb dX7_bag_50 rfl (lv_at hl 0 rfl) ?_
      subst hQ
      exact W.iret (v := w_5) hx hb hr (fun t ht hW => ⟨⟨_, (uf_9, um_7, uh_10, ug_8), rfl, h, by rw [ht]; exact hP, hD⟩, hS.F ht⟩) hS.2.2 dX7_bag_51
    · refine lv_if_eq (tgt := 26) hx hb dX7_bag_19 (by decide) (fun hc_11 => ?_) (fun hc_11 => ?_)
      · replace h := h.1 hc_11
        refine lv_iconst (v := 0) hx hb dX7_bag_26 (by decide) ?_
        exact ih_JJ_4 _ h _ _ _ hP hD hS (lv_sub hl [0, 1, 2] rfl)
      · replace h := h.2 hc_11
        refine lv_iconst (v := 1) hx hb dX7_bag_22 (by decide) ?_
        refine lv_goto (tgt := 27) hx hb dX7_bag_23 (by decide) ?_
        exact ih_JJ_4 _ h _ _ _ hP hD hS (lv_sub hl [0, 1, 2] rfl)
  · replace h := h.2 hc_2
    refine lv_iconst (v := (-1)) hx hb dX7_bag_8 (by decide) ?_
    subst hQ
    exact W.iret (v := (-1)) hx hb hr (fun t ht hW => ⟨⟨_, (uf, um, uh, ug), rfl, h, by rw [ht]; exact hP, hD⟩, hS.F ht⟩) hS.2.2 dX7_bag_9
abbrev rm_X7_arc : Room := { frames := 2, cells := 0, slots := 0, locals := 46 }
set_option maxHeartbeats 4000000 in
set_option maxRecDepth 100000 in
theorem c_X7_arc (l : Launch) (dC : Nat → ClassId) (dI : Nat → Nat → Nat) (AA : Nat → Nat → Nat) (CA : Nat → Nat → ClassId) (sz : Nat) (uf : Ob) (um : Ob) (ut : Ob) (uh : Ob) (ug : Ob) (ur : Ob) (uw : Ob) (ux : Ob) (uy : Ob) (x1 : Int32) (x2 : Int32) (x3 : Int32) (x4 : Int32) (x5 : Int32) (post : Int32 → Ob → Ob → Ob → Prop) (h : wp_X7_arc uf um uh x1 x2 x3 x4 x5 post) : Met l yX7_arc wsX7_arc rm_X7_arc (va_Pc [.ref (AA 0 0), .int x1, .int x2, .int x3, .int x4, .int x5] (fun U => U.heap.size = sz ∧ va_P (dC, dI) vwCl (wd_X7 AA CA uf um ut uh ug ur uw ux uy) U.heap ∧ va_K (dC, dI) vwCl (ty_X7 CA) U ∧ va_D (fun _ => True) (wd_X7 AA CA uf um ut uh ug ur uw ux uy) ∧ nw_ok U)) (va_Qi (fun (rr : Int32) (zz : Ob × Ob × Ob) => post rr zz.1 zz.2.1 zz.2.2) (fun (zz : Ob × Ob × Ob) (t : State) => va_P (dC, dI) vwCl (wd_X7 AA CA zz.1 zz.2.1 ut zz.2.2 ug ur uw ux uy) t.heap ∧ va_D (va_A (wd_X7 AA CA uf um ut uh ug ur uw ux uy) sz) (wd_X7 AA CA zz.1 zz.2.1 ut zz.2.2 ug ur uw ux uy)) (va_A (wd_X7 AA CA uf um ut uh ug ur uw ux uy) sz)) 0 0 (va_A (wd_X7 AA CA uf um ut uh ug ur uw ux uy) sz) := by
  refine fl_ofW (cc := cX7_arc) (maxL := 6) (ret := (some .int)) (by decide) rfl ?_
  intro p e s m args below meth c s₁ Q B hml hv hQ
  obtain ⟨hargs, hsz, hP, hK, hD0, hN⟩ := hv
  have hx := B.exec
  have hb := B.bytes
  have hr := B.returns
  have hts := atoms_spec (ws := wsX7_arc) B.pre
  have hown : s.vm.findClass RX7 = some m.cls := findClass_of_methodNamed B.named
  subst hsz
  have hD := hD0.self (sz := s.heap.size)
  generalize hAe : va_A (wd_X7 AA CA uf um ut uh ug ur uw ux uy) s.heap.size = A at hD hQ
  have hA : ∀ q : Nat, s.heap.size ≤ q → A q := fun q h => by rw [← hAe]; exact Or.inr h
  have hS : va_S A s.heap s.heap [] := va_S.rf
  have hl := lv_entry ([.ref (AA 0 0), .int x1, .int x2, .int x3, .int x4, .int x5]) (n := 6) (Nat.le_of_ble_eq_true rfl)
  refine W.eq (g2 := F0 m 0 ((lg_sl ([.ref (AA 0 0), .int x1, .int x2, .int x3, .int x4, .int x5]) ++ List.replicate (6 - (lg_sl ([.ref (AA 0 0), .int x1, .int x2, .int x3, .int x4, .int x5])).length) Slot.unset).toArray) []) (by rw [hargs]; exact lg_entry_eq m _ 6) ?_
  generalize (lg_sl ([.ref (AA 0 0), .int x1, .int x2, .int x3, .int x4, .int x5]) ++ List.replicate (6 - (lg_sl ([.ref (AA 0 0), .int x1, .int x2, .int x3, .int x4, .int x5])).length) Slot.unset).toArray = ls at hl ⊢
  have hl : lv_has ls 6 [(0, .ref (AA 0 0)), (1, .int x1), (2, .int x2), (3, .int x3), (4, .int x4), (5, .int x5)] := hl
  suffices hstart : ∀ (H : Heap) (locs : List Loc) (ls : Array Slot), va_P (dC, dI) vwCl (wd_X7 AA CA uf um ut uh ug ur uw ux uy) H → va_D A (wd_X7 AA CA uf um ut uh ug ur uw ux uy) → va_S A s.heap H locs → lv_has ls 6 [(0, .ref (AA 0 0)), (1, .int x1), (2, .int x2), (3, .int x3), (4, .int x4), (5, .int x5)] → W p l e (headSpec wsX7_arc rm_X7_arc).room s m args below meth c H locs 0 0 Q (F0 m 0 ls []) from hstart _ _ _ hP hD hS hl
  clear hS hP hD hD0
  intro H locs ls hP hD hS hl
  have hin_X0 : ∀ w ∈ wsX00, w ∈ wsX7_arc := by decide +kernel
  have hin_X7 : ∀ w ∈ wsX70, w ∈ wsX7_arc := by decide +kernel
  have lk_0 := hts (.fieldLink RX7 10 "ForgettingLines" "machine" "LForgettingLines$Machine;") (by decide +kernel)
  have lk_1 := hts (.fieldLink RX7 58 "ForgettingLines$Machine" "count" "I") (by decide +kernel)
  unfold wp_X7_arc at h
  refine lv_aload_n hx hb dX7_arc_0 rfl (lv_at hl 0 rfl) ?_
  refine va_get (D := (dC, dI)) (ci := 6) (v := .ref (AA 1 0)) (C := RX7) (T := TX7) (N := 8) hx hb hts hin_X7 hown hK hP 0 rfl rfl 0 (by decide) lk_0 (fun _ h9 => h9) rfl dX7_arc_1 ?_
  refine lv_iload_n hx hb dX7_arc_4 rfl (lv_at hl 1 rfl) ?_
  refine lv_iload_n hx hb dX7_arc_5 rfl (lv_at hl 2 rfl) ?_
  refine lv_iload_n hx hb dX7_arc_6 rfl (lv_at hl 3 rfl) ?_
  refine lv_iload hx hb dX7_arc_7 (lv_at hl 4 rfl) ?_
  refine lv_iload hx hb dX7_arc_9 (lv_at hl 5 rfl) ?_
  have hPc := hP.sub (ws' := (wd_X0 (AA 1) (CA 1) um)) [2, 3, 4] rfl
  have hDc := hD.sub (ws' := (wd_X0 (AA 1) (CA 1) um)) [2, 3, 4] (by decide) rfl
  have hKc := hK.sub (tys' := (ty_X0 (CA 1))) [1, 2] rfl
  have hFc := va_free (wc := (wd_X0 (AA 1) (CA 1) um)) hD hS hA [2, 3, 4] rfl
  refine va_calli (va_runV (As := [.int x1, .int x2, .int x3, .int x4, .int x5]) (rest := []) ⟨hx, hb, hml, hown, hts⟩ (c_X0_canHave l dC dI (AA 1) (CA 1) H.size um x1 x2 x3 x4 x5 _ h) (cwV 5 hts gX7_arc_X0_canHave rfl rfl rfl (by decide +kernel) ⟨Nat.le_of_ble_eq_true rfl, Nat.le_of_ble_eq_true rfl⟩) ⟨fun a U g mk q => by obtain ⟨q0, q1, qP, qK, qD, qN⟩ := q; exact ⟨q0, q1, qP, va_K.moved (u := U) (U := U.calling g mk a) (Vm.Alike.refl U.vm) qK, qD, qN.call⟩, va_recv hKc hPc (ci := 0) (q0 := 0) rfl rfl, fun U hU hW => ⟨rfl, by rw [hU], by rw [hU]; exact hPc, va_K.moved hW.alike hKc, hDc.weaken (fun _ _ _ _ => trivial), hN.warm hW⟩⟩ rfl rfl hl.1 rfl (lv_room (Nat.le_of_ble_eq_true rfl)) dX7_arc_11 ⟨Nat.zero_le _, Nat.zero_le _⟩) hS (fun q _ h => hFc q h) hFc (fun r_1 zz t H1 locs ht hvm hw hB hz1 hk1 hS => ?_)
  replace h := hw
  obtain ⟨hP1, hD1⟩ := hB
  rw [ht] at hP1
  obtain ⟨hP, hD⟩ := va_join (wr := [0, 1, 5, 6, 7, 8, 9, 10, 11, 12, 13, 14, 15, 16, 17, 18, 19, 20, 21, 22, 23, 24, 25].filterMap (fun i => (wd_X7 AA CA uf um ut uh ug ur uw ux uy)[i]?)) (w1 := (wd_X0 (AA 1) (CA 1) um)) hP hD [2, 3, 4] [0, 1, 5, 6, 7, 8, 9, 10, 11, 12, 13, 14, 15, 16, 17, 18, 19, 20, 21, 22, 23, 24, 25] rfl rfl (by decide) (by decide) hk1 hFc hP1 hD1
  replace hP : va_P (dC, dI) vwCl (wd_X7 AA CA uf um ut uh ug ur uw ux uy) H1 := (hP.sub [0, 1, 23, 24, 25, 2, 3, 4, 5, 6, 7, 8, 9, 10, 11, 12, 13, 14, 15, 16, 17, 18, 19, 20, 21, 22] rfl)
  replace hD : va_D A (wd_X7 AA CA uf um ut uh ug ur uw ux uy) := (hD.sub [0, 1, 23, 24, 25, 2, 3, 4, 5, 6, 7, 8, 9, 10, 11, 12, 13, 14, 15, 16, 17, 18, 19, 20, 21, 22] (by decide) rfl)
  generalize H1 = H at hP hS ⊢
  refine lv_if_ne (tgt := 19) hx hb dX7_arc_14 (by decide) (fun hc_2 => ?_) (fun hc_2 => ?_)
  · replace h := h.1 hc_2
    refine lv_aload_n hx hb dX7_arc_19 rfl (lv_at hl 0 rfl) ?_
    refine va_get (D := (dC, dI)) (ci := 6) (v := .ref (AA 1 0)) (C := RX7) (T := TX7) (N := 8) hx hb hts hin_X7 hown hK hP 0 rfl rfl 0 (by decide) lk_0 (fun _ h9 => h9) rfl dX7_arc_20 ?_
    refine va_get (D := (dC, dI)) (ci := 0) (v := .int (um.1 1)) (C := RX0) (T := TX0) (N := 4) hx hb hts hin_X0 hown hK hP 2 rfl rfl 1 (by decide) lk_1 (fun _ h9 => h9) rfl dX7_arc_23 ?_
    refine lv_bipush (v := 20) hx hb dX7_arc_26 (by decide) ?_
    refine lv_icmp_lt (tgt := 34) hx hb dX7_arc_28 (by decide) (fun hc_3 => ?_) (fun hc_3 => ?_)
    · replace h := h.1 hc_3
      refine lv_aload_n hx hb dX7_arc_34 rfl (lv_at hl 0 rfl) ?_
      refine va_get (D := (dC, dI)) (ci := 6) (v := .ref (AA 1 0)) (C := RX7) (T := TX7) (N := 8) hx hb hts hin_X7 hown hK hP 0 rfl rfl 0 (by decide) lk_0 (fun _ h9 => h9) rfl dX7_arc_35 ?_
      refine lv_iload_n hx hb dX7_arc_38 rfl (lv_at hl 1 rfl) ?_
      refine lv_iload_n hx hb dX7_arc_39 rfl (lv_at hl 2 rfl) ?_
      refine lv_iload_n hx hb dX7_arc_40 rfl (lv_at hl 3 rfl) ?_
      refine lv_iload hx hb dX7_arc_41 (lv_at hl 4 rfl) ?_
      refine lv_iload hx hb dX7_arc_43 (lv_at hl 5 rfl) ?_
      have hPc := hP.sub (ws' := (wd_X0 (AA 1) (CA 1) um)) [2, 3, 4] rfl
      have hDc := hD.sub (ws' := (wd_X0 (AA 1) (CA 1) um)) [2, 3, 4] (by decide) rfl
      have hKc := hK.sub (tys' := (ty_X0 (CA 1))) [1, 2] rfl
      have hFc := va_free (wc := (wd_X0 (AA 1) (CA 1) um)) hD hS hA [2, 3, 4] rfl
      refine va_callv (va_runV (As := [.int x1, .int x2, .int x3, .int x4, .int x5]) (rest := []) ⟨hx, hb, hml, hown, hts⟩ (c_X0_add l dC dI (AA 1) (CA 1) H.size um x1 x2 x3 x4 x5 _ h) (cwV 5 hts gX7_arc_X0_add rfl rfl rfl (by decide +kernel) ⟨Nat.le_of_ble_eq_true rfl, Nat.le_of_ble_eq_true rfl⟩) ⟨fun a U g mk q => by obtain ⟨q0, q1, qP, qK, qD⟩ := q; exact ⟨q0, q1, qP, va_K.moved (u := U) (U := U.calling g mk a) (Vm.Alike.refl U.vm) qK, qD⟩, va_recv hKc hPc (ci := 0) (q0 := 0) rfl rfl, fun U hU hW => ⟨rfl, by rw [hU], by rw [hU]; exact hPc, va_K.moved hW.alike hKc, hDc.weaken (fun _ _ _ _ => trivial)⟩⟩ rfl rfl hl.1 rfl (lv_room (Nat.le_of_ble_eq_true rfl)) dX7_arc_45 ⟨Nat.zero_le _, Nat.zero_le _⟩) hS (fun q _ h => hFc q h) hFc (fun zz t H1 locs ht hvm hw hB hz1 hk1 hS => ?_)
      obtain ⟨um_4, rfl⟩ : ∃ z, z = zz := ⟨_, rfl⟩
      replace h := hw
      obtain ⟨hP1, hD1⟩ := hB
      rw [ht] at hP1
      obtain ⟨hP, hD⟩ := va_join (wr := [0, 1, 5, 6, 7, 8, 9, 10, 11, 12, 13, 14, 15, 16, 17, 18, 19, 20, 21, 22, 23, 24, 25].filterMap (fun i => (wd_X7 AA CA uf um ut uh ug ur uw ux uy)[i]?)) (w1 := (wd_X0 (AA 1) (CA 1) um_4)) hP hD [2, 3, 4] [0, 1, 5, 6, 7, 8, 9, 10, 11, 12, 13, 14, 15, 16, 17, 18, 19, 20, 21, 22, 23, 24, 25] rfl rfl (by decide) (by decide) hk1 hFc hP1 hD1
      replace hP : va_P (dC, dI) vwCl (wd_X7 AA CA uf um_4 ut uh ug ur uw ux uy) H1 := (hP.sub [0, 1, 23, 24, 25, 2, 3, 4, 5, 6, 7, 8, 9, 10, 11, 12, 13, 14, 15, 16, 17, 18, 19, 20, 21, 22] rfl)
      replace hD : va_D A (wd_X7 AA CA uf um_4 ut uh ug ur uw ux uy) := (hD.sub [0, 1, 23, 24, 25, 2, 3, 4, 5, 6, 7, 8, 9, 10, 11, 12, 13, 14, 15, 16, 17, 18, 19, 20, 21, 22] (by decide) rfl)
      generalize H1 = H at hP hS ⊢
      refine lv_aload_n hx hb dX7_arc_48 rfl (lv_at hl 0 rfl) ?_
      have hPc := hP
      have hDc := hD
      have hKc := hK
      have hFc := va_free (wc := (wd_X7 AA CA uf um_4 ut uh ug ur uw ux uy)) hD hS hA [0, 1, 2, 3, 4, 5, 6, 7, 8, 9, 10, 11, 12, 13, 14, 15, 16, 17, 18, 19, 20, 21, 22, 23, 24, 25] rfl
      refine va_callv (va_runV (As := []) (rest := []) ⟨hx, hb, hml, hown, hts⟩ (c_X7_startAgain l dC dI AA CA H.size uf um_4 ut uh ug ur uw ux uy _ h) (cwV 0 hts gX7_arc_X7_startAgain rfl rfl rfl (by decide +kernel) ⟨Nat.le_of_ble_eq_true rfl, Nat.le_of_ble_eq_true rfl⟩) ⟨fun a U g mk q => by obtain ⟨q0, q1, qP, qK, qD⟩ := q; exact ⟨q0, q1, qP, va_K.moved (u := U) (U := U.calling g mk a) (Vm.Alike.refl U.vm) qK, qD⟩, va_recv hKc hPc (ci := 6) (q0 := 0) rfl rfl, fun U hU hW => ⟨rfl, by rw [hU], by rw [hU]; exact hPc, va_K.moved hW.alike hKc, hDc.weaken (fun _ _ _ _ => trivial)⟩⟩ rfl rfl hl.1 rfl (lv_room (Nat.le_of_ble_eq_true rfl)) dX7_arc_49 ⟨Nat.zero_le _, Nat.zero_le _⟩) hS (fun q _ h => hFc q h) hFc (fun zz t H1 locs ht hvm hw hB hz1 hk1 hS => ?_)
      obtain ⟨uf_5, uh_6⟩ := zz
      replace h := hw
      obtain ⟨hP1, hD1⟩ := hB
      rw [ht] at hP1
      replace hD : va_D A (wd_X7 AA CA uf_5 um_4 ut uh_6 ug ur uw ux uy) := hD1.weaken (fun _ _ _ h9 => hFc _ h9)
      replace hP : va_P (dC, dI) vwCl (wd_X7 AA CA uf_5 um_4 ut uh_6 ug ur uw ux uy) H1 := hP1
      generalize H1 = H at hP hS ⊢
      refine lv_aload_n hx hb dX7_arc_52 rfl (lv_at hl 0 rfl) ?_
      refine va_get (D := (dC, dI)) (ci := 6) (v := .ref (AA 1 0)) (C := RX7) (T := TX7) (N := 8) hx hb hts hin_X7 hown hK hP 0 rfl rfl 0 (by decide) lk_0 (fun _ h9 => h9) rfl dX7_arc_53 ?_
      refine va_get (D := (dC, dI)) (ci := 0) (v := .int (um_4.1 1)) (C := RX0) (T := TX0) (N := 4) hx hb hts hin_X0 hown hK hP 2 rfl rfl 1 (by decide) lk_1 (fun _ h9 => h9) rfl dX7_arc_56 ?_
      refine lv_iconst (v := 1) hx hb dX7_arc_59 (by decide) ?_
      refine lv_isub hx hb dX7_arc_60 ?_
      subst hQ
      exact W.iret (v := ((um_4.1 1) - 1)) hx hb hr (fun t ht hW => ⟨⟨_, (uf_5, um_4, uh_6), rfl, h, by rw [ht]; exact hP, hD⟩, hS.F ht⟩) hS.2.2 dX7_arc_61
    · replace h := h.2 hc_3
      refine lv_bipush (v := (-3)) hx hb dX7_arc_31 (by decide) ?_
      subst hQ
      exact W.iret (v := (-3)) hx hb hr (fun t ht hW => ⟨⟨_, (uf, um, uh), rfl, h, by rw [ht]; exact hP, hD⟩, hS.F ht⟩) hS.2.2 dX7_arc_33
  · replace h := h.2 hc_2
    refine lv_iconst (v := (-1)) hx hb dX7_arc_17 (by decide) ?_
    subst hQ
    exact W.iret (v := (-1)) hx hb hr (fun t ht hW => ⟨⟨_, (uf, um, uh), rfl, h, by rw [ht]; exact hP, hD⟩, hS.F ht⟩) hS.2.2 dX7_arc_18
abbrev rm_X7_unarc : Room := { frames := 2, cells := 0, slots := 0, locals := 41 }
set_option maxHeartbeats 4000000 in
set_option maxRecDepth 100000 in
theorem c_X7_unarc (l : Launch) (dC : Nat → ClassId) (dI : Nat → Nat → Nat) (AA : Nat → Nat → Nat) (CA : Nat → Nat → ClassId) (sz : Nat) (uf : Ob) (um : Ob) (ut : Ob) (uh : Ob) (ug : Ob) (ur : Ob) (uw : Ob) (ux : Ob) (uy : Ob) (post : Int32 → Ob → Ob → Ob → Prop) (h : wp_X7_unarc uf um uh post) : Met l yX7_unarc wsX7_unarc rm_X7_unarc (va_Pc [.ref (AA 0 0)] (fun U => U.heap.size = sz ∧ va_P (dC, dI) vwCl (wd_X7 AA CA uf um ut uh ug ur uw ux uy) U.heap ∧ va_K (dC, dI) vwCl (ty_X7 CA) U ∧ va_D (fun _ => True) (wd_X7 AA CA uf um ut uh ug ur uw ux uy))) (va_Qi (fun (rr : Int32) (zz : Ob × Ob × Ob) => post rr zz.1 zz.2.1 zz.2.2) (fun (zz : Ob × Ob × Ob) (t : State) => va_P (dC, dI) vwCl (wd_X7 AA CA zz.1 zz.2.1 ut zz.2.2 ug ur uw ux uy) t.heap ∧ va_D (va_A (wd_X7 AA CA uf um ut uh ug ur uw ux uy) sz) (wd_X7 AA CA zz.1 zz.2.1 ut zz.2.2 ug ur uw ux uy)) (va_A (wd_X7 AA CA uf um ut uh ug ur uw ux uy) sz)) 0 0 (va_A (wd_X7 AA CA uf um ut uh ug ur uw ux uy) sz) := by
  refine fl_ofW (cc := cX7_unarc) (maxL := 1) (ret := (some .int)) (by decide) rfl ?_
  intro p e s m args below meth c s₁ Q B hml hv hQ
  obtain ⟨hargs, hsz, hP, hK, hD0⟩ := hv
  have hx := B.exec
  have hb := B.bytes
  have hr := B.returns
  have hts := atoms_spec (ws := wsX7_unarc) B.pre
  have hown : s.vm.findClass RX7 = some m.cls := findClass_of_methodNamed B.named
  subst hsz
  have hD := hD0.self (sz := s.heap.size)
  generalize hAe : va_A (wd_X7 AA CA uf um ut uh ug ur uw ux uy) s.heap.size = A at hD hQ
  have hA : ∀ q : Nat, s.heap.size ≤ q → A q := fun q h => by rw [← hAe]; exact Or.inr h
  have hS : va_S A s.heap s.heap [] := va_S.rf
  have hl := lv_entry ([.ref (AA 0 0)]) (n := 1) (Nat.le_of_ble_eq_true rfl)
  refine W.eq (g2 := F0 m 0 ((lg_sl ([.ref (AA 0 0)]) ++ List.replicate (1 - (lg_sl ([.ref (AA 0 0)])).length) Slot.unset).toArray) []) (by rw [hargs]; exact lg_entry_eq m _ 1) ?_
  generalize (lg_sl ([.ref (AA 0 0)]) ++ List.replicate (1 - (lg_sl ([.ref (AA 0 0)])).length) Slot.unset).toArray = ls at hl ⊢
  have hl : lv_has ls 1 [(0, .ref (AA 0 0))] := hl
  suffices hstart : ∀ (H : Heap) (locs : List Loc) (ls : Array Slot), va_P (dC, dI) vwCl (wd_X7 AA CA uf um ut uh ug ur uw ux uy) H → va_D A (wd_X7 AA CA uf um ut uh ug ur uw ux uy) → va_S A s.heap H locs → lv_has ls 1 [(0, .ref (AA 0 0))] → W p l e (headSpec wsX7_unarc rm_X7_unarc).room s m args below meth c H locs 0 0 Q (F0 m 0 ls []) from hstart _ _ _ hP hD hS hl
  clear hS hP hD hD0
  intro H locs ls hP hD hS hl
  have hin_X0 : ∀ w ∈ wsX00, w ∈ wsX7_unarc := by decide +kernel
  have hin_X7 : ∀ w ∈ wsX70, w ∈ wsX7_unarc := by decide +kernel
  have lk_0 := hts (.fieldLink RX7 10 "ForgettingLines" "machine" "LForgettingLines$Machine;") (by decide +kernel)
  have lk_1 := hts (.fieldLink RX7 58 "ForgettingLines$Machine" "count" "I") (by decide +kernel)
  unfold wp_X7_unarc at h
  refine lv_aload_n hx hb dX7_unarc_0 rfl (lv_at hl 0 rfl) ?_
  refine va_get (D := (dC, dI)) (ci := 6) (v := .ref (AA 1 0)) (C := RX7) (T := TX7) (N := 8) hx hb hts hin_X7 hown hK hP 0 rfl rfl 0 (by decide) lk_0 (fun _ h9 => h9) rfl dX7_unarc_1 ?_
  refine va_get (D := (dC, dI)) (ci := 0) (v := .int (um.1 1)) (C := RX0) (T := TX0) (N := 4) hx hb hts hin_X0 hown hK hP 2 rfl rfl 1 (by decide) lk_1 (fun _ h9 => h9) rfl dX7_unarc_4 ?_
  refine lv_if_ne (tgt := 13) hx hb dX7_unarc_7 (by decide) (fun hc_1 => ?_) (fun hc_1 => ?_)
  · replace h := h.1 hc_1
    refine lv_aload_n hx hb dX7_unarc_13 rfl (lv_at hl 0 rfl) ?_
    refine va_get (D := (dC, dI)) (ci := 6) (v := .ref (AA 1 0)) (C := RX7) (T := TX7) (N := 8) hx hb hts hin_X7 hown hK hP 0 rfl rfl 0 (by decide) lk_0 (fun _ h9 => h9) rfl dX7_unarc_14 ?_
    refine lv_dup hx hb dX7_unarc_17 rfl ?_
    refine va_get (D := (dC, dI)) (ci := 0) (v := .int (um.1 1)) (C := RX0) (T := TX0) (N := 4) hx hb hts hin_X0 hown hK hP 2 rfl rfl 1 (by decide) lk_1 (fun _ h9 => h9) rfl dX7_unarc_18 ?_
    refine lv_iconst (v := 1) hx hb dX7_unarc_21 (by decide) ?_
    refine lv_isub hx hb dX7_unarc_22 ?_
    refine va_put (D := (dC, dI)) (ci := 0) (v := .int ((um.1 1) - 1)) (ty := .int) (C := RX0) (T := TX0) (N := 4) hx hb hts hin_X0 tyX0 tyX0_ok nmX0 hown hK hP hD hS 2 rfl rfl 1 (by decide) lk_1 (fun _ h9 => h9) rfl (by decide +kernel) rfl rfl (Nat.le_of_ble_eq_true rfl) dX7_unarc_23 (fun H locs hP hD hS => ?_)
    obtain ⟨um_2, eum_2⟩ : ∃ z : Ob, z = fs_i um 1 ((um.1 1) - 1) := ⟨_, rfl⟩
    replace h := h um_2 eum_2
    replace hP : va_P (dC, dI) vwCl (wd_X7 AA CA uf um_2 ut uh ug ur uw ux uy) H := by rw [eum_2]; exact hP
    replace hD : va_D A (wd_X7 AA CA uf um_2 ut uh ug ur uw ux uy) := by rw [eum_2]; exact hD
    refine lv_aload_n hx hb dX7_unarc_26 rfl (lv_at hl 0 rfl) ?_
    have hPc := hP
    have hDc := hD
    have hKc := hK
    have hFc := va_free (wc := (wd_X7 AA CA uf um_2 ut uh ug ur uw ux uy)) hD hS hA [0, 1, 2, 3, 4, 5, 6, 7, 8, 9, 10, 11, 12, 13, 14, 15, 16, 17, 18, 19, 20, 21, 22, 23, 24, 25] rfl
    refine va_callv (va_runV (As := []) (rest := []) ⟨hx, hb, hml, hown, hts⟩ (c_X7_startAgain l dC dI AA CA H.size uf um_2 ut uh ug ur uw ux uy _ h) (cwV 0 hts gX7_unarc_X7_startAgain rfl rfl rfl (by decide +kernel) ⟨Nat.le_of_ble_eq_true rfl, Nat.le_of_ble_eq_true rfl⟩) ⟨fun a U g mk q => by obtain ⟨q0, q1, qP, qK, qD⟩ := q; exact ⟨q0, q1, qP, va_K.moved (u := U) (U := U.calling g mk a) (Vm.Alike.refl U.vm) qK, qD⟩, va_recv hKc hPc (ci := 6) (q0 := 0) rfl rfl, fun U hU hW => ⟨rfl, by rw [hU], by rw [hU]; exact hPc, va_K.moved hW.alike hKc, hDc.weaken (fun _ _ _ _ => trivial)⟩⟩ rfl rfl hl.1 rfl (lv_room (Nat.le_of_ble_eq_true rfl)) dX7_unarc_27 ⟨Nat.zero_le _, Nat.zero_le _⟩) hS (fun q _ h => hFc q h) hFc (fun zz t H1 locs ht hvm hw hB hz1 hk1 hS => ?_)
    obtain ⟨uf_3, uh_4⟩ := zz
    replace h := hw
    obtain ⟨hP1, hD1⟩ := hB
    rw [ht] at hP1
    replace hD : va_D A (wd_X7 AA CA uf_3 um_2 ut uh_4 ug ur uw ux uy) := hD1.weaken (fun _ _ _ h9 => hFc _ h9)
    replace hP : va_P (dC, dI) vwCl (wd_X7 AA CA uf_3 um_2 ut uh_4 ug ur uw ux uy) H1 := hP1
    generalize H1 = H at hP hS ⊢
    refine lv_aload_n hx hb dX7_unarc_30 rfl (lv_at hl 0 rfl) ?_
    refine va_get (D := (dC, dI)) (ci := 6) (v := .ref (AA 1 0)) (C := RX7) (T := TX7) (N := 8) hx hb hts hin_X7 hown hK hP 0 rfl rfl 0 (by decide) lk_0 (fun _ h9 => h9) rfl dX7_unarc_31 ?_
    refine va_get (D := (dC, dI)) (ci := 0) (v := .int (um_2.1 1)) (C := RX0) (T := TX0) (N := 4) hx hb hts hin_X0 hown hK hP 2 rfl rfl 1 (by decide) lk_1 (fun _ h9 => h9) rfl dX7_unarc_34 ?_
    subst hQ
    exact W.iret (v := (um_2.1 1)) hx hb hr (fun t ht hW => ⟨⟨_, (uf_3, um_2, uh_4), rfl, h, by rw [ht]; exact hP, hD⟩, hS.F ht⟩) hS.2.2 dX7_unarc_37
  · replace h := h.2 hc_1
    refine lv_bipush (v := (-2)) hx hb dX7_unarc_10 (by decide) ?_
    subst hQ
    exact W.iret (v := (-2)) hx hb hr (fun t ht hW => ⟨⟨_, (uf, um, uh), rfl, h, by rw [ht]; exact hP, hD⟩, hS.F ht⟩) hS.2.2 dX7_unarc_12
abbrev rm_X7_told : Room := { frames := 1, cells := 0, slots := 0, locals := 22 }
set_option maxHeartbeats 4000000 in
set_option maxRecDepth 100000 in
theorem c_X7_told (l : Launch) (dC : Nat → ClassId) (dI : Nat → Nat → Nat) (AA : Nat → Nat → Nat) (CA : Nat → Nat → ClassId) (sz : Nat) (uf : Ob) (um : Ob) (ut : Ob) (uh : Ob) (ug : Ob) (ur : Ob) (uw : Ob) (ux : Ob) (uy : Ob) (x1 : Int32) (x2 : Int32) (post : Int32 → Prop) (h : wp_X7_told uf um x1 x2 post) : Met l yX7_told wsX7_told rm_X7_told (va_Pc [.ref (AA 0 0), .int x1, .int x2] (fun U => U.heap.size = sz ∧ va_P (dC, dI) vwCl (wd_X7 AA CA uf um ut uh ug ur uw ux uy) U.heap ∧ va_K (dC, dI) vwCl (ty_X7 CA) U ∧ va_D (fun _ => True) (wd_X7 AA CA uf um ut uh ug ur uw ux uy))) (va_Qi (fun (rr : Int32) (_ : Unit) => post rr) (fun (zz : Unit) (t : State) => va_P (dC, dI) vwCl (wd_X7 AA CA uf um ut uh ug ur uw ux uy) t.heap ∧ va_D (va_A (wd_X7 AA CA uf um ut uh ug ur uw ux uy) sz) (wd_X7 AA CA uf um ut uh ug ur uw ux uy)) (va_A (wd_X7 AA CA uf um ut uh ug ur uw ux uy) sz)) 0 0 (va_A (wd_X7 AA CA uf um ut uh ug ur uw ux uy) sz) := by
  refine fl_ofW (cc := cX7_told) (maxL := 3) (ret := (some .int)) (by decide) rfl ?_
  intro p e s m args below meth c s₁ Q B hml hv hQ
  obtain ⟨hargs, hsz, hP, hK, hD0⟩ := hv
  have hx := B.exec
  have hb := B.bytes
  have hr := B.returns
  have hts := atoms_spec (ws := wsX7_told) B.pre
  have hown : s.vm.findClass RX7 = some m.cls := findClass_of_methodNamed B.named
  subst hsz
  have hD := hD0.self (sz := s.heap.size)
  generalize hAe : va_A (wd_X7 AA CA uf um ut uh ug ur uw ux uy) s.heap.size = A at hD hQ
  have hA : ∀ q : Nat, s.heap.size ≤ q → A q := fun q h => by rw [← hAe]; exact Or.inr h
  have hS : va_S A s.heap s.heap [] := va_S.rf
  have hl := lv_entry ([.ref (AA 0 0), .int x1, .int x2]) (n := 3) (Nat.le_of_ble_eq_true rfl)
  refine W.eq (g2 := F0 m 0 ((lg_sl ([.ref (AA 0 0), .int x1, .int x2]) ++ List.replicate (3 - (lg_sl ([.ref (AA 0 0), .int x1, .int x2])).length) Slot.unset).toArray) []) (by rw [hargs]; exact lg_entry_eq m _ 3) ?_
  generalize (lg_sl ([.ref (AA 0 0), .int x1, .int x2]) ++ List.replicate (3 - (lg_sl ([.ref (AA 0 0), .int x1, .int x2])).length) Slot.unset).toArray = ls at hl ⊢
  have hl : lv_has ls 3 [(0, .ref (AA 0 0)), (1, .int x1), (2, .int x2)] := hl
  suffices hstart : ∀ (H : Heap) (locs : List Loc) (ls : Array Slot), va_P (dC, dI) vwCl (wd_X7 AA CA uf um ut uh ug ur uw ux uy) H → va_D A (wd_X7 AA CA uf um ut uh ug ur uw ux uy) → va_S A s.heap H locs → lv_has ls 3 [(0, .ref (AA 0 0)), (1, .int x1), (2, .int x2)] → W p l e (headSpec wsX7_told rm_X7_told).room s m args below meth c H locs 0 0 Q (F0 m 0 ls []) from hstart _ _ _ hP hD hS hl
  clear hS hP hD hD0
  intro H locs ls hP hD hS hl
  have hin_X0 : ∀ w ∈ wsX00, w ∈ wsX7_told := by decide +kernel
  have hin_X7 : ∀ w ∈ wsX70, w ∈ wsX7_told := by decide +kernel
  have lk_0 := hts (.fieldLink RX7 10 "ForgettingLines" "machine" "LForgettingLines$Machine;") (by decide +kernel)
  have lk_1 := hts (.fieldLink RX7 58 "ForgettingLines$Machine" "count" "I") (by decide +kernel)
  unfold wp_X7_told at h
  refine lv_iload_n hx hb dX7_told_0 rfl (lv_at hl 1 rfl) ?_
  refine lv_aload_n hx hb dX7_told_1 rfl (lv_at hl 0 rfl) ?_
  refine va_get (D := (dC, dI)) (ci := 6) (v := .ref (AA 1 0)) (C := RX7) (T := TX7) (N := 8) hx hb hts hin_X7 hown hK hP 0 rfl rfl 0 (by decide) lk_0 (fun _ h9 => h9) rfl dX7_told_2 ?_
  refine va_get (D := (dC, dI)) (ci := 0) (v := .int (um.1 1)) (C := RX0) (T := TX0) (N := 4) hx hb hts hin_X0 hown hK hP 2 rfl rfl 1 (by decide) lk_1 (fun _ h9 => h9) rfl dX7_told_5 ?_
  have hFc := fl_freeN hS hA
  refine va_calli (va_runS (As := [.int x1, .int (um.1 1)]) (rest := []) ⟨hx, hb, hml, hown, hts⟩ (c_X7_isAmong l H.size x1 (um.1 1) _ h) (va_cwS 2 hts gX7_told_X7_isAmong rfl rfl rfl (by decide +kernel) ⟨Nat.le_of_ble_eq_true rfl, Nat.le_of_ble_eq_true rfl⟩) ⟨fun a U g mk q => by obtain ⟨q0, q1⟩ := q; exact ⟨q0, q1⟩, fun U hU hW => ⟨rfl, congrArg Array.size hU⟩⟩ rfl rfl hl.1 rfl (lv_room (Nat.le_of_ble_eq_true rfl)) dX7_told_8 ⟨Nat.zero_le _, Nat.zero_le _⟩) hS (fun q _ h => hFc q h) hFc (fun r_1 zz t H1 locs ht hvm hw hB hz1 hk1 hS => ?_)
  replace hP := fl_keep hP hk1
  replace h := hw
  generalize H1 = H at hP hS ⊢
  refine lv_if_eq (tgt := 22) hx hb dX7_told_11 (by decide) (fun hc_2 => ?_) (fun hc_2 => ?_)
  · replace h := h.1 hc_2
    refine lv_iconst (v := (-1)) hx hb dX7_told_22 (by decide) ?_
    subst hQ
    exact W.iret (v := (-1)) hx hb hr (fun t ht hW => ⟨⟨_, (), rfl, h, by rw [ht]; exact hP, hD⟩, hS.F ht⟩) hS.2.2 dX7_told_23
  · replace h := h.2 hc_2
    refine lv_iload_n hx hb dX7_told_14 rfl (lv_at hl 2 rfl) ?_
    refine lv_iconst (v := 5) hx hb dX7_told_15 (by decide) ?_
    have hFc := fl_freeN hS hA
    refine va_calli (va_runS (As := [.int x2, .int 5]) (rest := []) ⟨hx, hb, hml, hown, hts⟩ (c_X7_isAmong l H.size x2 5 _ h) (va_cwS 2 hts gX7_told_X7_isAmong rfl rfl rfl (by decide +kernel) ⟨Nat.le_of_ble_eq_true rfl, Nat.le_of_ble_eq_true rfl⟩) ⟨fun a U g mk q => by obtain ⟨q0, q1⟩ := q; exact ⟨q0, q1⟩, fun U hU hW => ⟨rfl, congrArg Array.size hU⟩⟩ rfl rfl hl.1 rfl (lv_room (Nat.le_of_ble_eq_true rfl)) dX7_told_16 ⟨Nat.zero_le _, Nat.zero_le _⟩) hS (fun q _ h => hFc q h) hFc (fun r_3 zz t H1 locs ht hvm hw hB hz1 hk1 hS => ?_)
    replace hP := fl_keep hP hk1
    replace h := hw
    generalize H1 = H at hP hS ⊢
    refine lv_if_ne (tgt := 24) hx hb dX7_told_19 (by decide) (fun hc_4 => ?_) (fun hc_4 => ?_)
    · replace h := h.1 hc_4
      refine lv_aload_n hx hb dX7_told_24 rfl (lv_at hl 0 rfl) ?_
      refine va_get (D := (dC, dI)) (ci := 6) (v := .ref (AA 1 0)) (C := RX7) (T := TX7) (N := 8) hx hb hts hin_X7 hown hK hP 0 rfl rfl 0 (by decide) lk_0 (fun _ h9 => h9) rfl dX7_told_25 ?_
      refine lv_iload_n hx hb dX7_told_28 rfl (lv_at hl 1 rfl) ?_
      refine lv_iload_n hx hb dX7_told_29 rfl (lv_at hl 2 rfl) ?_
      have hPc := hP.sub (ws' := (wd_X0 (AA 1) (CA 1) um)) [2, 3, 4] rfl
      have hDc := hD.sub (ws' := (wd_X0 (AA 1) (CA 1) um)) [2, 3, 4] (by decide) rfl
      have hKc := hK.sub (tys' := (ty_X0 (CA 1))) [1, 2] rfl
      have hFc := va_free (wc := (wd_X0 (AA 1) (CA 1) um)) hD hS hA [2, 3, 4] rfl
      refine va_calli (va_runV (As := [.int x1, .int x2]) (rest := []) ⟨hx, hb, hml, hown, hts⟩ (c_X0_part l dC dI (AA 1) (CA 1) H.size um x1 x2 _ h) (cwV 2 hts gX7_told_X0_part rfl rfl rfl (by decide +kernel) ⟨Nat.le_of_ble_eq_true rfl, Nat.le_of_ble_eq_true rfl⟩) ⟨fun a U g mk q => by obtain ⟨q0, q1, qP, qK, qD⟩ := q; exact ⟨q0, q1, qP, va_K.moved (u := U) (U := U.calling g mk a) (Vm.Alike.refl U.vm) qK, qD⟩, va_recv hKc hPc (ci := 0) (q0 := 0) rfl rfl, fun U hU hW => ⟨rfl, by rw [hU], by rw [hU]; exact hPc, va_K.moved hW.alike hKc, hDc.weaken (fun _ _ _ _ => trivial)⟩⟩ rfl rfl hl.1 rfl (lv_room (Nat.le_of_ble_eq_true rfl)) dX7_told_30 ⟨Nat.zero_le _, Nat.zero_le _⟩) hS (fun q _ h => hFc q h) hFc (fun r_5 zz t H1 locs ht hvm hw hB hz1 hk1 hS => ?_)
      replace h := hw
      obtain ⟨hP1, hD1⟩ := hB
      rw [ht] at hP1
      obtain ⟨hP, hD⟩ := va_join (wr := [0, 1, 5, 6, 7, 8, 9, 10, 11, 12, 13, 14, 15, 16, 17, 18, 19, 20, 21, 22, 23, 24, 25].filterMap (fun i => (wd_X7 AA CA uf um ut uh ug ur uw ux uy)[i]?)) (w1 := (wd_X0 (AA 1) (CA 1) um)) hP hD [2, 3, 4] [0, 1, 5, 6, 7, 8, 9, 10, 11, 12, 13, 14, 15, 16, 17, 18, 19, 20, 21, 22, 23, 24, 25] rfl rfl (by decide) (by decide) hk1 hFc hP1 hD1
      replace hP : va_P (dC, dI) vwCl (wd_X7 AA CA uf um ut uh ug ur uw ux uy) H1 := (hP.sub [0, 1, 23, 24, 25, 2, 3, 4, 5, 6, 7, 8, 9, 10, 11, 12, 13, 14, 15, 16, 17, 18, 19, 20, 21, 22] rfl)
      replace hD : va_D A (wd_X7 AA CA uf um ut uh ug ur uw ux uy) := (hD.sub [0, 1, 23, 24, 25, 2, 3, 4, 5, 6, 7, 8, 9, 10, 11, 12, 13, 14, 15, 16, 17, 18, 19, 20, 21, 22] (by decide) rfl)
      generalize H1 = H at hP hS ⊢
      subst hQ
      exact W.iret (v := r_5) hx hb hr (fun t ht hW => ⟨⟨_, (), rfl, h, by rw [ht]; exact hP, hD⟩, hS.F ht⟩) hS.2.2 dX7_told_33
    · replace h := h.2 hc_4
      refine lv_iconst (v := (-1)) hx hb dX7_told_22 (by decide) ?_
      subst hQ
      exact W.iret (v := (-1)) hx hb hr (fun t ht hW => ⟨⟨_, (), rfl, h, by rw [ht]; exact hP, hD⟩, hS.F ht⟩) hS.2.2 dX7_told_23
abbrev rm_X7_type : Room := { frames := 2, cells := 0, slots := 0, locals := 46 }
set_option maxHeartbeats 4000000 in
set_option maxRecDepth 100000 in
theorem c_X7_type (l : Launch) (dC : Nat → ClassId) (dI : Nat → Nat → Nat) (AA : Nat → Nat → Nat) (CA : Nat → Nat → ClassId) (sz : Nat) (uf : Ob) (um : Ob) (ut : Ob) (uh : Ob) (ug : Ob) (ur : Ob) (uw : Ob) (ux : Ob) (uy : Ob) (x1 : Int64) (x2 : Int32) (post : Int32 → Ob → Prop) (h : wp_X7_type uf ut x1 x2 post) : Met l yX7_type wsX7_type rm_X7_type (va_Pc [.ref (AA 0 0), .long x1, .int x2] (fun U => U.heap.size = sz ∧ va_P (dC, dI) vwCl (wd_X7 AA CA uf um ut uh ug ur uw ux uy) U.heap ∧ va_K (dC, dI) vwCl (ty_X7 CA) U ∧ va_D (fun _ => True) (wd_X7 AA CA uf um ut uh ug ur uw ux uy))) (va_Qi post (fun (zz : Ob) (t : State) => va_P (dC, dI) vwCl (wd_X7 AA CA uf um zz uh ug ur uw ux uy) t.heap ∧ va_D (va_A (wd_X7 AA CA uf um ut uh ug ur uw ux uy) sz) (wd_X7 AA CA uf um zz uh ug ur uw ux uy)) (va_A (wd_X7 AA CA uf um ut uh ug ur uw ux uy) sz)) 0 0 (va_A (wd_X7 AA CA uf um ut uh ug ur uw ux uy) sz) := by
  refine fl_ofW (cc := cX7_type) (maxL := 4) (ret := (some .int)) (by decide) rfl ?_
  intro p e s m args below meth c s₁ Q B hml hv hQ
  obtain ⟨hargs, hsz, hP, hK, hD0⟩ := hv
  have hx := B.exec
  have hb := B.bytes
  have hr := B.returns
  have hts := atoms_spec (ws := wsX7_type) B.pre
  have hown : s.vm.findClass RX7 = some m.cls := findClass_of_methodNamed B.named
  subst hsz
  have hD := hD0.self (sz := s.heap.size)
  generalize hAe : va_A (wd_X7 AA CA uf um ut uh ug ur uw ux uy) s.heap.size = A at hD hQ
  have hA : ∀ q : Nat, s.heap.size ≤ q → A q := fun q h => by rw [← hAe]; exact Or.inr h
  have hS : va_S A s.heap s.heap [] := va_S.rf
  have hl := lv_entry ([.ref (AA 0 0), .long x1, .int x2]) (n := 4) (Nat.le_of_ble_eq_true rfl)
  refine W.eq (g2 := F0 m 0 ((lg_sl ([.ref (AA 0 0), .long x1, .int x2]) ++ List.replicate (4 - (lg_sl ([.ref (AA 0 0), .long x1, .int x2])).length) Slot.unset).toArray) []) (by rw [hargs]; exact lg_entry_eq m _ 4) ?_
  generalize (lg_sl ([.ref (AA 0 0), .long x1, .int x2]) ++ List.replicate (4 - (lg_sl ([.ref (AA 0 0), .long x1, .int x2])).length) Slot.unset).toArray = ls at hl ⊢
  have hl : lv_has ls 4 [(0, .ref (AA 0 0)), (1, .long x1), (3, .int x2)] := hl
  suffices hstart : ∀ (H : Heap) (locs : List Loc) (ls : Array Slot), va_P (dC, dI) vwCl (wd_X7 AA CA uf um ut uh ug ur uw ux uy) H → va_D A (wd_X7 AA CA uf um ut uh ug ur uw ux uy) → va_S A s.heap H locs → lv_has ls 4 [(0, .ref (AA 0 0)), (1, .long x1), (3, .int x2)] → W p l e (headSpec wsX7_type rm_X7_type).room s m args below meth c H locs 0 0 Q (F0 m 0 ls []) from hstart _ _ _ hP hD hS hl
  clear hS hP hD hD0
  intro H locs ls hP hD hS hl
  have hin_X4 : ∀ w ∈ wsX40, w ∈ wsX7_type := by decide +kernel
  have hin_X7 : ∀ w ∈ wsX70, w ∈ wsX7_type := by decide +kernel
  have lk_0 := hts (.fieldLink RX7 19 "ForgettingLines" "tape" "LForgettingLines$Tape;") (by decide +kernel)
  have lk_1 := hts (.fieldLink RX7 91 "ForgettingLines$Tape" "size" "I") (by decide +kernel)
  unfold wp_X7_type at h
  refine lv_iload_n hx hb dX7_type_0 rfl (lv_at hl 2 rfl) ?_
  refine lv_iconst (v := 1) hx hb dX7_type_1 (by decide) ?_
  refine lv_icmp_lt (tgt := 19) hx hb dX7_type_2 (by decide) (fun hc_1 => ?_) (fun hc_1 => ?_)
  · replace h := h.1 hc_1
    refine lv_iconst (v := (-1)) hx hb dX7_type_19 (by decide) ?_
    subst hQ
    exact W.iret (v := (-1)) hx hb hr (fun t ht hW => ⟨⟨_, ut, rfl, h, by rw [ht]; exact hP, hD⟩, hS.F ht⟩) hS.2.2 dX7_type_20
  · replace h := h.2 hc_1
    refine lv_iload_n hx hb dX7_type_5 rfl (lv_at hl 2 rfl) ?_
    refine lv_bipush (v := 8) hx hb dX7_type_6 (by decide) ?_
    refine lv_icmp_gt (tgt := 19) hx hb dX7_type_8 (by decide) (fun hc_2 => ?_) (fun hc_2 => ?_)
    · replace h := h.1 hc_2
      refine lv_iconst (v := (-1)) hx hb dX7_type_19 (by decide) ?_
      subst hQ
      exact W.iret (v := (-1)) hx hb hr (fun t ht hW => ⟨⟨_, ut, rfl, h, by rw [ht]; exact hP, hD⟩, hS.F ht⟩) hS.2.2 dX7_type_20
    · replace h := h.2 hc_2
      refine lv_lload_n hx hb dX7_type_11 rfl (lv_at hl 1 rfl) ?_
      refine lv_iload_n hx hb dX7_type_12 rfl (lv_at hl 2 rfl) ?_
      have hFc := fl_freeN hS hA
      refine va_calli (va_runS (As := [.long x1, .int x2]) (rest := []) ⟨hx, hb, hml, hown, hts⟩ (c_X4_canHave l H.size x1 x2 _ h) (va_cwS 2 hts gX7_type_X4_canHave rfl rfl rfl (by decide +kernel) ⟨Nat.le_of_ble_eq_true rfl, Nat.le_of_ble_eq_true rfl⟩) ⟨fun a U g mk q => by obtain ⟨q0, q1⟩ := q; exact ⟨q0, q1⟩, fun U hU hW => ⟨rfl, congrArg Array.size hU⟩⟩ rfl rfl hl.1 rfl (lv_room (Nat.le_of_ble_eq_true rfl)) dX7_type_13 ⟨Nat.zero_le _, Nat.zero_le _⟩) hS (fun q _ h => hFc q h) hFc (fun r_3 zz t H1 locs ht hvm hw hB hz1 hk1 hS => ?_)
      replace hP := fl_keep hP hk1
      replace h := hw
      generalize H1 = H at hP hS ⊢
      refine lv_if_ne (tgt := 21) hx hb dX7_type_16 (by decide) (fun hc_4 => ?_) (fun hc_4 => ?_)
      · replace h := h.1 hc_4
        refine lv_aload_n hx hb dX7_type_21 rfl (lv_at hl 0 rfl) ?_
        refine va_get (D := (dC, dI)) (ci := 6) (v := .ref (AA 2 0)) (C := RX7) (T := TX7) (N := 8) hx hb hts hin_X7 hown hK hP 0 rfl rfl 1 (by decide) lk_0 (fun _ h9 => h9) rfl dX7_type_22 ?_
        refine va_get (D := (dC, dI)) (ci := 4) (v := .int (ut.1 0)) (C := RX4) (T := TX4) (N := 4) hx hb hts hin_X4 hown hK hP 5 rfl rfl 0 (by decide) lk_1 (fun _ h9 => h9) rfl dX7_type_25 ?_
        refine lv_iload_n hx hb dX7_type_28 rfl (lv_at hl 2 rfl) ?_
        refine lv_iadd hx hb dX7_type_29 ?_
        refine lv_sipush (v := 130) hx hb dX7_type_30 (by decide) ?_
        refine lv_icmp_le (tgt := 39) hx hb dX7_type_33 (by decide) (fun hc_5 => ?_) (fun hc_5 => ?_)
        · replace h := h.1 hc_5
          refine lv_aload_n hx hb dX7_type_39 rfl (lv_at hl 0 rfl) ?_
          refine va_get (D := (dC, dI)) (ci := 6) (v := .ref (AA 2 0)) (C := RX7) (T := TX7) (N := 8) hx hb hts hin_X7 hown hK hP 0 rfl rfl 1 (by decide) lk_0 (fun _ h9 => h9) rfl dX7_type_40 ?_
          refine lv_lload_n hx hb dX7_type_43 rfl (lv_at hl 1 rfl) ?_
          refine lv_iload_n hx hb dX7_type_44 rfl (lv_at hl 2 rfl) ?_
          have hPc := hP.sub (ws' := (wd_X4 (AA 2) (CA 2) ut)) [5, 6, 7] rfl
          have hDc := hD.sub (ws' := (wd_X4 (AA 2) (CA 2) ut)) [5, 6, 7] (by decide) rfl
          have hKc := hK.sub (tys' := (ty_X4 (CA 2))) [3, 4] rfl
          have hFc := va_free (wc := (wd_X4 (AA 2) (CA 2) ut)) hD hS hA [5, 6, 7] rfl
          refine va_callv (va_runV (As := [.long x1, .int x2]) (rest := []) ⟨hx, hb, hml, hown, hts⟩ (c_X4_add l dC dI (AA 2) (CA 2) H.size ut x1 x2 _ h) (cwV 2 hts gX7_type_X4_add rfl rfl rfl (by decide +kernel) ⟨Nat.le_of_ble_eq_true rfl, Nat.le_of_ble_eq_true rfl⟩) ⟨fun a U g mk q => by obtain ⟨q0, q1, qP, qK, qD⟩ := q; exact ⟨q0, q1, qP, va_K.moved (u := U) (U := U.calling g mk a) (Vm.Alike.refl U.vm) qK, qD⟩, va_recv hKc hPc (ci := 4) (q0 := 0) rfl rfl, fun U hU hW => ⟨rfl, by rw [hU], by rw [hU]; exact hPc, va_K.moved hW.alike hKc, hDc.weaken (fun _ _ _ _ => trivial)⟩⟩ rfl rfl hl.1 rfl (lv_room (Nat.le_of_ble_eq_true rfl)) dX7_type_45 ⟨Nat.zero_le _, Nat.zero_le _⟩) hS (fun q _ h => hFc q h) hFc (fun zz t H1 locs ht hvm hw hB hz1 hk1 hS => ?_)
          obtain ⟨ut_6, rfl⟩ : ∃ z, z = zz := ⟨_, rfl⟩
          replace h := hw
          obtain ⟨hP1, hD1⟩ := hB
          rw [ht] at hP1
          obtain ⟨hP, hD⟩ := va_join (wr := [0, 1, 2, 3, 4, 8, 9, 10, 11, 12, 13, 14, 15, 16, 17, 18, 19, 20, 21, 22, 23, 24, 25].filterMap (fun i => (wd_X7 AA CA uf um ut uh ug ur uw ux uy)[i]?)) (w1 := (wd_X4 (AA 2) (CA 2) ut_6)) hP hD [5, 6, 7] [0, 1, 2, 3, 4, 8, 9, 10, 11, 12, 13, 14, 15, 16, 17, 18, 19, 20, 21, 22, 23, 24, 25] rfl rfl (by decide) (by decide) hk1 hFc hP1 hD1
          replace hP : va_P (dC, dI) vwCl (wd_X7 AA CA uf um ut_6 uh ug ur uw ux uy) H1 := (hP.sub [0, 1, 2, 3, 4, 23, 24, 25, 5, 6, 7, 8, 9, 10, 11, 12, 13, 14, 15, 16, 17, 18, 19, 20, 21, 22] rfl)
          replace hD : va_D A (wd_X7 AA CA uf um ut_6 uh ug ur uw ux uy) := (hD.sub [0, 1, 2, 3, 4, 23, 24, 25, 5, 6, 7, 8, 9, 10, 11, 12, 13, 14, 15, 16, 17, 18, 19, 20, 21, 22] (by decide) rfl)
          generalize H1 = H at hP hS ⊢
          refine lv_aload_n hx hb dX7_type_48 rfl (lv_at hl 0 rfl) ?_
          refine va_get (D := (dC, dI)) (ci := 6) (v := .ref (AA 2 0)) (C := RX7) (T := TX7) (N := 8) hx hb hts hin_X7 hown hK hP 0 rfl rfl 1 (by decide) lk_0 (fun _ h9 => h9) rfl dX7_type_49 ?_
          refine va_get (D := (dC, dI)) (ci := 4) (v := .int (ut_6.1 0)) (C := RX4) (T := TX4) (N := 4) hx hb hts hin_X4 hown hK hP 5 rfl rfl 0 (by decide) lk_1 (fun _ h9 => h9) rfl dX7_type_52 ?_
          subst hQ
          exact W.iret (v := (ut_6.1 0)) hx hb hr (fun t ht hW => ⟨⟨_, ut_6, rfl, h, by rw [ht]; exact hP, hD⟩, hS.F ht⟩) hS.2.2 dX7_type_55
        · replace h := h.2 hc_5
          refine lv_bipush (v := (-3)) hx hb dX7_type_36 (by decide) ?_
          subst hQ
          exact W.iret (v := (-3)) hx hb hr (fun t ht hW => ⟨⟨_, ut, rfl, h, by rw [ht]; exact hP, hD⟩, hS.F ht⟩) hS.2.2 dX7_type_38
      · replace h := h.2 hc_4
        refine lv_iconst (v := (-1)) hx hb dX7_type_19 (by decide) ?_
        subst hQ
        exact W.iret (v := (-1)) hx hb hr (fun t ht hW => ⟨⟨_, ut, rfl, h, by rw [ht]; exact hP, hD⟩, hS.F ht⟩) hS.2.2 dX7_type_20
abbrev rm_X7_read : Room := { frames := 5, cells := 0, slots := 0, locals := 109 }
set_option maxHeartbeats 4000000 in
set_option maxRecDepth 100000 in
theorem c_X7_read (l : Launch) (dC : Nat → ClassId) (dI : Nat → Nat → Nat) (AA : Nat → Nat → Nat) (CA : Nat → Nat → ClassId) (sz : Nat) (uf : Ob) (um : Ob) (ut : Ob) (uh : Ob) (ug : Ob) (ur : Ob) (uw : Ob) (ux : Ob) (uy : Ob) (post : Int32 → Ob → Ob → Ob → Ob → Prop) (h : wp_X7_read uf um ut uh post) : Met l yX7_read wsX7_read rm_X7_read (va_Pc [.ref (AA 0 0)] (fun U => U.heap.size = sz ∧ va_P (dC, dI) vwCl (wd_X7 AA CA uf um ut uh ug ur uw ux uy) U.heap ∧ va_K (dC, dI) vwCl (ty_X7 CA) U ∧ va_D (fun _ => True) (wd_X7 AA CA uf um ut uh ug ur uw ux uy) ∧ nw_ok U)) (va_Qi (fun (rr : Int32) (zz : Ob × Ob × Ob × Ob) => post rr zz.1 zz.2.1 zz.2.2.1 zz.2.2.2) (fun (zz : Ob × Ob × Ob × Ob) (t : State) => va_P (dC, dI) vwCl (wd_X7 AA CA zz.1 zz.2.1 zz.2.2.1 zz.2.2.2 ug ur uw ux uy) t.heap ∧ va_D (va_A (wd_X7 AA CA uf um ut uh ug ur uw ux uy) sz) (wd_X7 AA CA zz.1 zz.2.1 zz.2.2.1 zz.2.2.2 ug ur uw ux uy)) (va_A (wd_X7 AA CA uf um ut uh ug ur uw ux uy) sz)) 0 0 (va_A (wd_X7 AA CA uf um ut uh ug ur uw ux uy) sz) := by
  refine fl_ofW (cc := cX7_read) (maxL := 2) (ret := (some .int)) (by decide) rfl ?_
  intro p e s m args below meth c s₁ Q B hml hv hQ
  obtain ⟨hargs, hsz, hP, hK, hD0, hN⟩ := hv
  have hx := B.exec
  have hb := B.bytes
  have hr := B.returns
  have hts := atoms_spec (ws := wsX7_read) B.pre
  have hown : s.vm.findClass RX7 = some m.cls := findClass_of_methodNamed B.named
  subst hsz
  have hD := hD0.self (sz := s.heap.size)
  generalize hAe : va_A (wd_X7 AA CA uf um ut uh ug ur uw ux uy) s.heap.size = A at hD hQ
  have hA : ∀ q : Nat, s.heap.size ≤ q → A q := fun q h => by rw [← hAe]; exact Or.inr h
  have hS : va_S A s.heap s.heap [] := va_S.rf
  have hl := lv_entry ([.ref (AA 0 0)]) (n := 2) (Nat.le_of_ble_eq_true rfl)
  refine W.eq (g2 := F0 m 0 ((lg_sl ([.ref (AA 0 0)]) ++ List.replicate (2 - (lg_sl ([.ref (AA 0 0)])).length) Slot.unset).toArray) []) (by rw [hargs]; exact lg_entry_eq m _ 2) ?_
  generalize (lg_sl ([.ref (AA 0 0)]) ++ List.replicate (2 - (lg_sl ([.ref (AA 0 0)])).length) Slot.unset).toArray = ls at hl ⊢
  have hl : lv_has ls 2 [(0, .ref (AA 0 0))] := hl
  suffices hstart : ∀ (H : Heap) (locs : List Loc) (ls : Array Slot), va_P (dC, dI) vwCl (wd_X7 AA CA uf um ut uh ug ur uw ux uy) H → va_D A (wd_X7 AA CA uf um ut uh ug ur uw ux uy) → va_S A s.heap H locs → lv_has ls 2 [(0, .ref (AA 0 0))] → W p l e (headSpec wsX7_read rm_X7_read).room s m args below meth c H locs 0 0 Q (F0 m 0 ls []) from hstart _ _ _ hP hD hS hl
  clear hS hP hD hD0
  intro H locs ls hP hD hS hl
  have hin_X0 : ∀ w ∈ wsX00, w ∈ wsX7_read := by decide +kernel
  have hin_X4 : ∀ w ∈ wsX40, w ∈ wsX7_read := by decide +kernel
  have hin_X7 : ∀ w ∈ wsX70, w ∈ wsX7_read := by decide +kernel
  have lk_0 := hts (.fieldLink RX7 19 "ForgettingLines" "tape" "LForgettingLines$Tape;") (by decide +kernel)
  have lk_1 := hts (.fieldLink RX7 10 "ForgettingLines" "machine" "LForgettingLines$Machine;") (by decide +kernel)
  have lk_2 := hts (.fieldLink RX7 54 "ForgettingLines$Machine" "states" "I") (by decide +kernel)
  have lk_3 := hts (.fieldLink RX7 91 "ForgettingLines$Tape" "size" "I") (by decide +kernel)
  have lk_4 := hts (.fieldLink RX7 101 "ForgettingLines$Tape" "rows" "[I") (by decide +kernel)
  unfold wp_X7_read at h
  refine lv_aload_n hx hb dX7_read_0 rfl (lv_at hl 0 rfl) ?_
  refine va_get (D := (dC, dI)) (ci := 6) (v := .ref (AA 2 0)) (C := RX7) (T := TX7) (N := 8) hx hb hts hin_X7 hown hK hP 0 rfl rfl 1 (by decide) lk_0 (fun _ h9 => h9) rfl dX7_read_1 ?_
  refine lv_aload_n hx hb dX7_read_4 rfl (lv_at hl 0 rfl) ?_
  refine va_get (D := (dC, dI)) (ci := 6) (v := .ref (AA 1 0)) (C := RX7) (T := TX7) (N := 8) hx hb hts hin_X7 hown hK hP 0 rfl rfl 0 (by decide) lk_1 (fun _ h9 => h9) rfl dX7_read_5 ?_
  refine va_get (D := (dC, dI)) (ci := 0) (v := .int (um.1 0)) (C := RX0) (T := TX0) (N := 4) hx hb hts hin_X0 hown hK hP 2 rfl rfl 0 (by decide) lk_2 (fun _ h9 => h9) rfl dX7_read_8 ?_
  have hPc := hP.sub (ws' := (wd_X4 (AA 2) (CA 2) ut)) [5, 6, 7] rfl
  have hDc := hD.sub (ws' := (wd_X4 (AA 2) (CA 2) ut)) [5, 6, 7] (by decide) rfl
  have hKc := hK.sub (tys' := (ty_X4 (CA 2))) [3, 4] rfl
  have hFc := va_free (wc := (wd_X4 (AA 2) (CA 2) ut)) hD hS hA [5, 6, 7] rfl
  refine va_calli (va_runV (As := [.int (um.1 0)]) (rest := []) ⟨hx, hb, hml, hown, hts⟩ (c_X4_parse l dC dI (AA 2) (CA 2) H.size ut (um.1 0) _ h) (cwV 1 hts gX7_read_X4_parse rfl rfl rfl (by decide +kernel) ⟨Nat.le_of_ble_eq_true rfl, Nat.le_of_ble_eq_true rfl⟩) ⟨fun a U g mk q => by obtain ⟨q0, q1, qP, qK, qD, qN⟩ := q; exact ⟨q0, q1, qP, va_K.moved (u := U) (U := U.calling g mk a) (Vm.Alike.refl U.vm) qK, qD, qN.call⟩, va_recv hKc hPc (ci := 4) (q0 := 0) rfl rfl, fun U hU hW => ⟨rfl, by rw [hU], by rw [hU]; exact hPc, va_K.moved hW.alike hKc, hDc.weaken (fun _ _ _ _ => trivial), hN.warm hW⟩⟩ rfl rfl hl.1 rfl (lv_room (Nat.le_of_ble_eq_true rfl)) dX7_read_11 ⟨Nat.zero_le _, Nat.zero_le _⟩) hS (fun q _ h => hFc q h) hFc (fun r_1 zz t H1 locs ht hvm hw hB hz1 hk1 hS => ?_)
  obtain ⟨ut_2, rfl⟩ : ∃ z, z = zz := ⟨_, rfl⟩
  replace h := hw
  obtain ⟨hP1, hD1⟩ := hB
  rw [ht] at hP1
  obtain ⟨hP, hD⟩ := va_join (wr := [0, 1, 2, 3, 4, 8, 9, 10, 11, 12, 13, 14, 15, 16, 17, 18, 19, 20, 21, 22, 23, 24, 25].filterMap (fun i => (wd_X7 AA CA uf um ut uh ug ur uw ux uy)[i]?)) (w1 := (wd_X4 (AA 2) (CA 2) ut_2)) hP hD [5, 6, 7] [0, 1, 2, 3, 4, 8, 9, 10, 11, 12, 13, 14, 15, 16, 17, 18, 19, 20, 21, 22, 23, 24, 25] rfl rfl (by decide) (by decide) hk1 hFc hP1 hD1
  replace hP : va_P (dC, dI) vwCl (wd_X7 AA CA uf um ut_2 uh ug ur uw ux uy) H1 := (hP.sub [0, 1, 2, 3, 4, 23, 24, 25, 5, 6, 7, 8, 9, 10, 11, 12, 13, 14, 15, 16, 17, 18, 19, 20, 21, 22] rfl)
  replace hD : va_D A (wd_X7 AA CA uf um ut_2 uh ug ur uw ux uy) := (hD.sub [0, 1, 2, 3, 4, 23, 24, 25, 5, 6, 7, 8, 9, 10, 11, 12, 13, 14, 15, 16, 17, 18, 19, 20, 21, 22] (by decide) rfl)
  generalize H1 = H at hP hS ⊢
  refine lv_istore_n (lv' := [(1, .int r_1), (0, .ref (AA 0 0))]) hx hb dX7_read_14 rfl hl (by decide) rfl (fun ls hl => ?_)
  refine lv_aload_n hx hb dX7_read_15 rfl (lv_at hl 1 rfl) ?_
  refine va_get (D := (dC, dI)) (ci := 6) (v := .ref (AA 2 0)) (C := RX7) (T := TX7) (N := 8) hx hb hts hin_X7 hown hK hP 0 rfl rfl 1 (by decide) lk_0 (fun _ h9 => h9) rfl dX7_read_16 ?_
  refine lv_iconst (v := 0) hx hb dX7_read_19 (by decide) ?_
  refine va_put (D := (dC, dI)) (ci := 4) (v := .int 0) (ty := .int) (C := RX4) (T := TX4) (N := 4) hx hb hts hin_X4 tyX4 tyX4_ok nmX4 hown hK hP hD hS 5 rfl rfl 0 (by decide) lk_3 (fun _ h9 => h9) rfl (by decide +kernel) rfl rfl (Nat.le_of_ble_eq_true rfl) dX7_read_20 (fun H locs hP hD hS => ?_)
  obtain ⟨ut_3, eut_3⟩ : ∃ z : Ob, z = fs_i ut_2 0 0 := ⟨_, rfl⟩
  replace h := h ut_3 eut_3
  replace hP : va_P (dC, dI) vwCl (wd_X7 AA CA uf um ut_3 uh ug ur uw ux uy) H := by rw [eut_3]; exact hP
  replace hD : va_D A (wd_X7 AA CA uf um ut_3 uh ug ur uw ux uy) := by rw [eut_3]; exact hD
  refine lv_iload_n hx hb dX7_read_23 rfl (lv_at hl 0 rfl) ?_
  refine lv_if_le (tgt := 46) hx hb dX7_read_24 (by decide) (fun hc_4 => ?_) (fun hc_4 => ?_)
  · replace h := h.1 hc_4
    refine lv_iload_n hx hb dX7_read_46 rfl (lv_at hl 0 rfl) ?_
    subst hQ
    exact W.iret (v := r_1) hx hb hr (fun t ht hW => ⟨⟨_, (uf, um, ut_3, uh), rfl, h, by rw [ht]; exact hP, hD⟩, hS.F ht⟩) hS.2.2 dX7_read_47
  · replace h := h.2 hc_4
    refine lv_aload_n hx hb dX7_read_27 rfl (lv_at hl 1 rfl) ?_
    refine va_get (D := (dC, dI)) (ci := 6) (v := .ref (AA 1 0)) (C := RX7) (T := TX7) (N := 8) hx hb hts hin_X7 hown hK hP 0 rfl rfl 0 (by decide) lk_1 (fun _ h9 => h9) rfl dX7_read_28 ?_
    refine lv_aload_n hx hb dX7_read_31 rfl (lv_at hl 1 rfl) ?_
    refine va_get (D := (dC, dI)) (ci := 6) (v := .ref (AA 2 0)) (C := RX7) (T := TX7) (N := 8) hx hb hts hin_X7 hown hK hP 0 rfl rfl 1 (by decide) lk_0 (fun _ h9 => h9) rfl dX7_read_32 ?_
    refine va_get (D := (dC, dI)) (ci := 4) (v := .ref (AA 2 2)) (C := RX4) (T := TX4) (N := 4) hx hb hts hin_X4 hown hK hP 5 rfl rfl 1 (by decide) lk_4 (fun _ h9 => h9) rfl dX7_read_35 ?_
    refine lv_iload_n hx hb dX7_read_38 rfl (lv_at hl 0 rfl) ?_
    have hPc := hP.sub (ws' := (wd_X0 (AA 1) (CA 1) um ++ ([((AA 2 2), .inl ((CA 2 2), 100, .inl (ut_3.2.1 1)))]))) [2, 3, 4, 6] rfl
    have hDc := hD.sub (ws' := (wd_X0 (AA 1) (CA 1) um ++ ([((AA 2 2), .inl ((CA 2 2), 100, .inl (ut_3.2.1 1)))]))) [2, 3, 4, 6] (by decide) rfl
    have hKc := hK.sub (tys' := (ty_X0 (CA 1) ++ ([((CA 2 2), .int)]))) [1, 2, 3] rfl
    have hFc := va_free (wc := (wd_X0 (AA 1) (CA 1) um ++ ([((AA 2 2), .inl ((CA 2 2), 100, .inl (ut_3.2.1 1)))]))) hD hS hA [2, 3, 4, 6] rfl
    refine va_callv (va_runV (As := [.ref (AA 2 2), .int r_1]) (rest := []) ⟨hx, hb, hml, hown, hts⟩ (c_X0_replace l dC dI (AA 1) (CA 1) (AA 2 2) (CA 2 2) 100 H.size um (ut_3.2.1 1) r_1 _ h) (cwV 2 hts gX7_read_X0_replace rfl rfl rfl (by decide +kernel) ⟨Nat.le_of_ble_eq_true rfl, Nat.le_of_ble_eq_true rfl⟩) ⟨fun a U g mk q => by obtain ⟨q0, q1, qP, qK, qD⟩ := q; exact ⟨q0, q1, qP, va_K.moved (u := U) (U := U.calling g mk a) (Vm.Alike.refl U.vm) qK, qD⟩, va_recv hKc hPc (ci := 0) (q0 := 0) rfl rfl, fun U hU hW => ⟨rfl, by rw [hU], by rw [hU]; exact hPc, va_K.moved hW.alike hKc, hDc.weaken (fun _ _ _ _ => trivial)⟩⟩ rfl rfl hl.1 rfl (lv_room (Nat.le_of_ble_eq_true rfl)) dX7_read_39 ⟨Nat.zero_le _, Nat.zero_le _⟩) hS (fun q _ h => hFc q h) hFc (fun zz t H1 locs ht hvm hw hB hz1 hk1 hS => ?_)
    obtain ⟨um_5, rfl⟩ : ∃ z, z = zz := ⟨_, rfl⟩
    replace h := hw
    obtain ⟨hP1, hD1⟩ := hB
    rw [ht] at hP1
    obtain ⟨hP, hD⟩ := va_join (wr := [0, 1, 5, 7, 8, 9, 10, 11, 12, 13, 14, 15, 16, 17, 18, 19, 20, 21, 22, 23, 24, 25].filterMap (fun i => (wd_X7 AA CA uf um ut_3 uh ug ur uw ux uy)[i]?)) (w1 := (wd_X0 (AA 1) (CA 1) um_5 ++ ([((AA 2 2), .inl ((CA 2 2), 100, .inl (ut_3.2.1 1)))]))) hP hD [2, 3, 4, 6] [0, 1, 5, 7, 8, 9, 10, 11, 12, 13, 14, 15, 16, 17, 18, 19, 20, 21, 22, 23, 24, 25] rfl rfl (by decide) (by decide) hk1 hFc hP1 hD1
    replace hP : va_P (dC, dI) vwCl (wd_X7 AA CA uf um_5 ut_3 uh ug ur uw ux uy) H1 := (hP.sub [0, 1, 22, 23, 24, 2, 25, 3, 4, 5, 6, 7, 8, 9, 10, 11, 12, 13, 14, 15, 16, 17, 18, 19, 20, 21] rfl)
    replace hD : va_D A (wd_X7 AA CA uf um_5 ut_3 uh ug ur uw ux uy) := (hD.sub [0, 1, 22, 23, 24, 2, 25, 3, 4, 5, 6, 7, 8, 9, 10, 11, 12, 13, 14, 15, 16, 17, 18, 19, 20, 21] (by decide) rfl)
    generalize H1 = H at hP hS ⊢
    refine lv_aload_n hx hb dX7_read_42 rfl (lv_at hl 1 rfl) ?_
    have hPc := hP
    have hDc := hD
    have hKc := hK
    have hFc := va_free (wc := (wd_X7 AA CA uf um_5 ut_3 uh ug ur uw ux uy)) hD hS hA [0, 1, 2, 3, 4, 5, 6, 7, 8, 9, 10, 11, 12, 13, 14, 15, 16, 17, 18, 19, 20, 21, 22, 23, 24, 25] rfl
    refine va_callv (va_runV (As := []) (rest := []) ⟨hx, hb, hml, hown, hts⟩ (c_X7_startAgain l dC dI AA CA H.size uf um_5 ut_3 uh ug ur uw ux uy _ h) (cwV 0 hts gX7_read_X7_startAgain rfl rfl rfl (by decide +kernel) ⟨Nat.le_of_ble_eq_true rfl, Nat.le_of_ble_eq_true rfl⟩) ⟨fun a U g mk q => by obtain ⟨q0, q1, qP, qK, qD⟩ := q; exact ⟨q0, q1, qP, va_K.moved (u := U) (U := U.calling g mk a) (Vm.Alike.refl U.vm) qK, qD⟩, va_recv hKc hPc (ci := 6) (q0 := 0) rfl rfl, fun U hU hW => ⟨rfl, by rw [hU], by rw [hU]; exact hPc, va_K.moved hW.alike hKc, hDc.weaken (fun _ _ _ _ => trivial)⟩⟩ rfl rfl hl.1 rfl (lv_room (Nat.le_of_ble_eq_true rfl)) dX7_read_43 ⟨Nat.zero_le _, Nat.zero_le _⟩) hS (fun q _ h => hFc q h) hFc (fun zz t H1 locs ht hvm hw hB hz1 hk1 hS => ?_)
    obtain ⟨uf_6, uh_7⟩ := zz
    replace h := hw
    obtain ⟨hP1, hD1⟩ := hB
    rw [ht] at hP1
    replace hD : va_D A (wd_X7 AA CA uf_6 um_5 ut_3 uh_7 ug ur uw ux uy) := hD1.weaken (fun _ _ _ h9 => hFc _ h9)
    replace hP : va_P (dC, dI) vwCl (wd_X7 AA CA uf_6 um_5 ut_3 uh_7 ug ur uw ux uy) H1 := hP1
    generalize H1 = H at hP hS ⊢
    refine lv_iload_n hx hb dX7_read_46 rfl (lv_at hl 0 rfl) ?_
    subst hQ
    exact W.iret (v := r_1) hx hb hr (fun t ht hW => ⟨⟨_, (uf_6, um_5, ut_3, uh_7), rfl, h, by rw [ht]; exact hP, hD⟩, hS.F ht⟩) hS.2.2 dX7_read_47
abbrev rm_X7_arcs : Room := { frames := 3, cells := 0, slots := 0, locals := 71 }
set_option maxHeartbeats 4000000 in
set_option maxRecDepth 100000 in
theorem c_X7_arcs (l : Launch) (dC : Nat → ClassId) (dI : Nat → Nat → Nat) (AA : Nat → Nat → Nat) (CA : Nat → Nat → ClassId) (sz : Nat) (uf : Ob) (um : Ob) (ut : Ob) (uh : Ob) (ug : Ob) (ur : Ob) (uw : Ob) (ux : Ob) (uy : Ob) (x1 : Int32) (x2 : Int32) (x3 : Int32) (x4 : Int32) (post : Int32 → Ob → Ob → Ob → Prop) (h : wp_X7_arcs uf um uh ux uy x1 x2 x3 x4 post) : Met l yX7_arcs wsX7_arcs rm_X7_arcs (va_Pc [.ref (AA 0 0), .int x1, .int x2, .int x3, .int x4] (fun U => U.heap.size = sz ∧ va_P (dC, dI) vwCl (wd_X7 AA CA uf um ut uh ug ur uw ux uy) U.heap ∧ va_K (dC, dI) vwCl (ty_X7 CA) U ∧ va_D (fun _ => True) (wd_X7 AA CA uf um ut uh ug ur uw ux uy) ∧ nw_ok U)) (va_Qi (fun (rr : Int32) (zz : Ob × Ob × Ob) => post rr zz.1 zz.2.1 zz.2.2) (fun (zz : Ob × Ob × Ob) (t : State) => va_P (dC, dI) vwCl (wd_X7 AA CA zz.1 zz.2.1 ut zz.2.2 ug ur uw ux uy) t.heap ∧ va_D (va_A (wd_X7 AA CA uf um ut uh ug ur uw ux uy) sz) (wd_X7 AA CA zz.1 zz.2.1 ut zz.2.2 ug ur uw ux uy)) (va_A (wd_X7 AA CA uf um ut uh ug ur uw ux uy) sz)) 0 0 (va_A (wd_X7 AA CA uf um ut uh ug ur uw ux uy) sz) := by
  refine fl_ofW (cc := cX7_arcs) (maxL := 7) (ret := (some .int)) (by decide) rfl ?_
  intro p e s m args below meth c s₁ Q B hml hv hQ
  obtain ⟨hargs, hsz, hP, hK, hD0, hN⟩ := hv
  have hx := B.exec
  have hb := B.bytes
  have hr := B.returns
  have hts := atoms_spec (ws := wsX7_arcs) B.pre
  have hown : s.vm.findClass RX7 = some m.cls := findClass_of_methodNamed B.named
  subst hsz
  have hD := hD0.self (sz := s.heap.size)
  generalize hAe : va_A (wd_X7 AA CA uf um ut uh ug ur uw ux uy) s.heap.size = A at hD hQ
  have hA : ∀ q : Nat, s.heap.size ≤ q → A q := fun q h => by rw [← hAe]; exact Or.inr h
  have hS : va_S A s.heap s.heap [] := va_S.rf
  have hl := lv_entry ([.ref (AA 0 0), .int x1, .int x2, .int x3, .int x4]) (n := 7) (Nat.le_of_ble_eq_true rfl)
  refine W.eq (g2 := F0 m 0 ((lg_sl ([.ref (AA 0 0), .int x1, .int x2, .int x3, .int x4]) ++ List.replicate (7 - (lg_sl ([.ref (AA 0 0), .int x1, .int x2, .int x3, .int x4])).length) Slot.unset).toArray) []) (by rw [hargs]; exact lg_entry_eq m _ 7) ?_
  generalize (lg_sl ([.ref (AA 0 0), .int x1, .int x2, .int x3, .int x4]) ++ List.replicate (7 - (lg_sl ([.ref (AA 0 0), .int x1, .int x2, .int x3, .int x4])).length) Slot.unset).toArray = ls at hl ⊢
  have hl : lv_has ls 7 [(0, .ref (AA 0 0)), (1, .int x1), (2, .int x2), (3, .int x3), (4, .int x4)] := hl
  suffices hstart : ∀ (H : Heap) (locs : List Loc) (ls : Array Slot), va_P (dC, dI) vwCl (wd_X7 AA CA uf um ut uh ug ur uw ux uy) H → va_D A (wd_X7 AA CA uf um ut uh ug ur uw ux uy) → va_S A s.heap H locs → lv_has ls 7 [(0, .ref (AA 0 0)), (1, .int x1), (2, .int x2), (3, .int x3), (4, .int x4)] → W p l e (headSpec wsX7_arcs rm_X7_arcs).room s m args below meth c H locs 0 0 Q (F0 m 0 ls []) from hstart _ _ _ hP hD hS hl
  clear hS hP hD hD0
  intro H locs ls hP hD hS hl
  have hin_X0 : ∀ w ∈ wsX00, w ∈ wsX7_arcs := by decide +kernel
  have hin_X3 : ∀ w ∈ wsX30, w ∈ wsX7_arcs := by decide +kernel
  have hin_X7 : ∀ w ∈ wsX70, w ∈ wsX7_arcs := by decide +kernel
  have lk_0 := hts (.fieldLink RX7 50 "ForgettingLines" "sheets" "[LForgettingLines$Sheet;") (by decide +kernel)
  have lk_1 := hts (.fieldLink RX7 112 "ForgettingLines$Sheet" "size" "I") (by decide +kernel)
  have lk_2 := hts (.fieldLink RX7 10 "ForgettingLines" "machine" "LForgettingLines$Machine;") (by decide +kernel)
  have lk_3 := hts (.fieldLink RX7 113 "ForgettingLines$Sheet" "items" "[I") (by decide +kernel)
  have lk_4 := hts (.fieldLink RX7 58 "ForgettingLines$Machine" "count" "I") (by decide +kernel)
  unfold wp_X7_arcs at h
  refine lv_iload_n hx hb dX7_arcs_0 rfl (lv_at hl 1 rfl) ?_
  refine lv_iconst (v := 2) hx hb dX7_arcs_1 (by decide) ?_
  have hFc := fl_freeN hS hA
  refine va_calli (va_runS (As := [.int x1, .int 2]) (rest := []) ⟨hx, hb, hml, hown, hts⟩ (c_X7_isAmong l H.size x1 2 _ h) (va_cwS 2 hts gX7_arcs_X7_isAmong rfl rfl rfl (by decide +kernel) ⟨Nat.le_of_ble_eq_true rfl, Nat.le_of_ble_eq_true rfl⟩) ⟨fun a U g mk q => by obtain ⟨q0, q1⟩ := q; exact ⟨q0, q1⟩, fun U hU hW => ⟨rfl, congrArg Array.size hU⟩⟩ rfl rfl hl.1 rfl (lv_room (Nat.le_of_ble_eq_true rfl)) dX7_arcs_2 ⟨Nat.zero_le _, Nat.zero_le _⟩) hS (fun q _ h => hFc q h) hFc (fun r_1 zz t H1 locs ht hvm hw hB hz1 hk1 hS => ?_)
  replace hP := fl_keep hP hk1
  replace h := hw
  generalize H1 = H at hP hS ⊢
  refine lv_if_eq (tgt := 28) hx hb dX7_arcs_5 (by decide) (fun hc_2 => ?_) (fun hc_2 => ?_)
  · replace h := h.1 hc_2
    refine lv_iconst (v := (-1)) hx hb dX7_arcs_28 (by decide) ?_
    subst hQ
    exact W.iret (v := (-1)) hx hb hr (fun t ht hW => ⟨⟨_, (uf, um, uh), rfl, h, by rw [ht]; exact hP, hD⟩, hS.F ht⟩) hS.2.2 dX7_arcs_29
  · replace h := h.2 hc_2
    refine lv_iload_n hx hb dX7_arcs_8 rfl (lv_at hl 2 rfl) ?_
    refine lv_iconst (v := 2) hx hb dX7_arcs_9 (by decide) ?_
    have hFc := fl_freeN hS hA
    refine va_calli (va_runS (As := [.int x2, .int 2]) (rest := []) ⟨hx, hb, hml, hown, hts⟩ (c_X7_isAmong l H.size x2 2 _ h) (va_cwS 2 hts gX7_arcs_X7_isAmong rfl rfl rfl (by decide +kernel) ⟨Nat.le_of_ble_eq_true rfl, Nat.le_of_ble_eq_true rfl⟩) ⟨fun a U g mk q => by obtain ⟨q0, q1⟩ := q; exact ⟨q0, q1⟩, fun U hU hW => ⟨rfl, congrArg Array.size hU⟩⟩ rfl rfl hl.1 rfl (lv_room (Nat.le_of_ble_eq_true rfl)) dX7_arcs_10 ⟨Nat.zero_le _, Nat.zero_le _⟩) hS (fun q _ h => hFc q h) hFc (fun r_3 zz t H1 locs ht hvm hw hB hz1 hk1 hS => ?_)
    replace hP := fl_keep hP hk1
    replace h := hw
    generalize H1 = H at hP hS ⊢
    refine lv_if_eq (tgt := 28) hx hb dX7_arcs_13 (by decide) (fun hc_4 => ?_) (fun hc_4 => ?_)
    · replace h := h.1 hc_4
      refine lv_iconst (v := (-1)) hx hb dX7_arcs_28 (by decide) ?_
      subst hQ
      exact W.iret (v := (-1)) hx hb hr (fun t ht hW => ⟨⟨_, (uf, um, uh), rfl, h, by rw [ht]; exact hP, hD⟩, hS.F ht⟩) hS.2.2 dX7_arcs_29
    · replace h := h.2 hc_4
      refine lv_iload hx hb dX7_arcs_16 (lv_at hl 4 rfl) ?_
      refine lv_if_lt (tgt := 28) hx hb dX7_arcs_18 (by decide) (fun hc_5 => ?_) (fun hc_5 => ?_)
      · replace h := h.1 hc_5
        refine lv_iconst (v := (-1)) hx hb dX7_arcs_28 (by decide) ?_
        subst hQ
        exact W.iret (v := (-1)) hx hb hr (fun t ht hW => ⟨⟨_, (uf, um, uh), rfl, h, by rw [ht]; exact hP, hD⟩, hS.F ht⟩) hS.2.2 dX7_arcs_29
      · replace h := h.2 hc_5
        refine lv_iload hx hb dX7_arcs_21 (lv_at hl 4 rfl) ?_
        refine lv_bipush (v := 12) hx hb dX7_arcs_23 (by decide) ?_
        refine lv_icmp_le (tgt := 30) hx hb dX7_arcs_25 (by decide) (fun hc_6 => ?_) (fun hc_6 => ?_)
        · replace h := h.1 hc_6
          refine lv_aload_n hx hb dX7_arcs_30 rfl (lv_at hl 0 rfl) ?_
          refine va_get (D := (dC, dI)) (ci := 6) (v := .ref (AA 0 7)) (C := RX7) (T := TX7) (N := 8) hx hb hts hin_X7 hown hK hP 0 rfl rfl 6 (by decide) lk_0 (fun _ h9 => h9) rfl dX7_arcs_31 ?_
          refine lv_iload_n hx hb dX7_arcs_34 rfl (lv_at hl 1 rfl) ?_
          obtain ⟨hi_7, h⟩ := h
          refine va_aldq (D := (dC, dI)) (cl := vwCl) (i := x1) hx hb hK hP 1 0 rfl rfl hi_7 dX7_arcs_35 ?_
          rcases fl_in2 hi_7 with kn_x1 | kn_x1
          · replace h := h.1 kn_x1
            refine W.eq (g2 := F0 m 36 ls [.ref (AA 7 0)]) (by rw [kn_x1]; rfl) ?_
            refine lv_astore (lv' := [(5, .ref (AA 7 0)), (0, .ref (AA 0 0)), (1, .int x1), (2, .int x2), (3, .int x3), (4, .int x4)]) hx hb dX7_arcs_36 hl (by decide) rfl (fun ls hl => ?_)
            refine lv_aload hx hb dX7_arcs_38 (lv_at hl 0 rfl) ?_
            refine lv_iload_n hx hb dX7_arcs_40 rfl (lv_at hl 3 rfl) ?_
            have hPc := hP.sub (ws' := (wd_X3 (AA 7) (CA 7) ux)) [22, 23] rfl
            have hDc := hD.sub (ws' := (wd_X3 (AA 7) (CA 7) ux)) [22, 23] (by decide) rfl
            have hKc := hK.sub (tys' := (ty_X3 (CA 7))) [15] rfl
            have hFc := va_free (wc := (wd_X3 (AA 7) (CA 7) ux)) hD hS hA [22, 23] rfl
            refine va_calli (va_runV (As := [.int x2]) (rest := []) ⟨hx, hb, hml, hown, hts⟩ (c_X3_faultAs l dC dI (AA 7) (CA 7) H.size ux x2 _ h) (cwV 1 hts gX7_arcs_X3_faultAs rfl rfl rfl (by decide +kernel) ⟨Nat.le_of_ble_eq_true rfl, Nat.le_of_ble_eq_true rfl⟩) ⟨fun a U g mk q => by obtain ⟨q0, q1, qP, qK, qD⟩ := q; exact ⟨q0, q1, qP, va_K.moved (u := U) (U := U.calling g mk a) (Vm.Alike.refl U.vm) qK, qD⟩, va_recv hKc hPc (ci := 3) (q0 := 0) rfl rfl, fun U hU hW => ⟨rfl, by rw [hU], by rw [hU]; exact hPc, va_K.moved hW.alike hKc, hDc.weaken (fun _ _ _ _ => trivial)⟩⟩ rfl rfl hl.1 rfl (lv_room (Nat.le_of_ble_eq_true rfl)) dX7_arcs_41 ⟨Nat.zero_le _, Nat.zero_le _⟩) hS (fun q _ h => hFc q h) hFc (fun r_8 zz t H1 locs ht hvm hw hB hz1 hk1 hS => ?_)
            replace h := hw
            obtain ⟨hP1, hD1⟩ := hB
            rw [ht] at hP1
            obtain ⟨hP, hD⟩ := va_join (wr := [0, 1, 2, 3, 4, 5, 6, 7, 8, 9, 10, 11, 12, 13, 14, 15, 16, 17, 18, 19, 20, 21, 24, 25].filterMap (fun i => (wd_X7 AA CA uf um ut uh ug ur uw ux uy)[i]?)) (w1 := (wd_X3 (AA 7) (CA 7) ux)) hP hD [22, 23] [0, 1, 2, 3, 4, 5, 6, 7, 8, 9, 10, 11, 12, 13, 14, 15, 16, 17, 18, 19, 20, 21, 24, 25] rfl rfl (by decide) (by decide) hk1 hFc hP1 hD1
            replace hP : va_P (dC, dI) vwCl (wd_X7 AA CA uf um ut uh ug ur uw ux uy) H1 := (hP.sub [0, 1, 2, 3, 4, 5, 6, 7, 8, 9, 10, 11, 12, 13, 14, 15, 16, 17, 18, 19, 20, 21, 24, 25, 22, 23] rfl)
            replace hD : va_D A (wd_X7 AA CA uf um ut uh ug ur uw ux uy) := (hD.sub [0, 1, 2, 3, 4, 5, 6, 7, 8, 9, 10, 11, 12, 13, 14, 15, 16, 17, 18, 19, 20, 21, 24, 25, 22, 23] (by decide) rfl)
            generalize H1 = H at hP hS ⊢
            refine lv_istore (lv' := [(6, .int r_8), (5, .ref (AA 7 0)), (0, .ref (AA 0 0)), (1, .int x1), (2, .int x2), (3, .int x3), (4, .int x4)]) hx hb dX7_arcs_44 hl (by decide) rfl (fun ls hl => ?_)
            refine lv_iload hx hb dX7_arcs_46 (lv_at hl 0 rfl) ?_
            refine lv_if_eq (tgt := 54) hx hb dX7_arcs_48 (by decide) (fun hc_9 => ?_) (fun hc_9 => ?_)
            · replace h := h.1 hc_9
              refine lv_iload_n hx hb dX7_arcs_54 rfl (lv_at hl 5 rfl) ?_
              refine lv_if_lt (tgt := 72) hx hb dX7_arcs_55 (by decide) (fun hc_10 => ?_) (fun hc_10 => ?_)
              · replace h := h.1 hc_10
                refine lv_bipush (v := (-13)) hx hb dX7_arcs_72 (by decide) ?_
                subst hQ
                exact W.iret (v := (-13)) hx hb hr (fun t ht hW => ⟨⟨_, (uf, um, uh), rfl, h, by rw [ht]; exact hP, hD⟩, hS.F ht⟩) hS.2.2 dX7_arcs_74
              · replace h := h.2 hc_10
                refine lv_iload_n hx hb dX7_arcs_58 rfl (lv_at hl 5 rfl) ?_
                refine lv_aload hx hb dX7_arcs_59 (lv_at hl 1 rfl) ?_
                refine va_get (D := (dC, dI)) (ci := 3) (v := .int (ux.1 1)) (C := RX3) (T := TX3) (N := 4) hx hb hts hin_X3 hown hK hP 22 rfl rfl 1 (by decide) lk_1 (fun _ h9 => h9) rfl dX7_arcs_61 ?_
                refine lv_iload hx hb dX7_arcs_64 (lv_at hl 6 rfl) ?_
                refine lv_iconst (v := 5) hx hb dX7_arcs_66 (by decide) ?_
                refine lv_imul hx hb dX7_arcs_67 ?_
                refine lv_isub hx hb dX7_arcs_68 ?_
                refine lv_icmp_le (tgt := 75) hx hb dX7_arcs_69 (by decide) (fun hc_11 => ?_) (fun hc_11 => ?_)
                · replace h := h.1 hc_11
                  refine lv_aload_n hx hb dX7_arcs_75 rfl (lv_at hl 2 rfl) ?_
                  refine va_get (D := (dC, dI)) (ci := 6) (v := .ref (AA 1 0)) (C := RX7) (T := TX7) (N := 8) hx hb hts hin_X7 hown hK hP 0 rfl rfl 0 (by decide) lk_2 (fun _ h9 => h9) rfl dX7_arcs_76 ?_
                  refine lv_aload hx hb dX7_arcs_79 (lv_at hl 1 rfl) ?_
                  refine va_get (D := (dC, dI)) (ci := 3) (v := .ref (AA 7 3)) (C := RX3) (T := TX3) (N := 4) hx hb hts hin_X3 hown hK hP 22 rfl rfl 2 (by decide) lk_3 (fun _ h9 => h9) rfl dX7_arcs_81 ?_
                  refine lv_iload_n hx hb dX7_arcs_84 rfl (lv_at hl 5 rfl) ?_
                  refine lv_iload hx hb dX7_arcs_85 (lv_at hl 6 rfl) ?_
                  have hPc := hP.sub (ws' := (wd_X0 (AA 1) (CA 1) um ++ ([((AA 7 3), .inl ((CA 7 3), 60, .inl (ux.2.1 2)))]))) [2, 3, 4, 23] rfl
                  have hDc := hD.sub (ws' := (wd_X0 (AA 1) (CA 1) um ++ ([((AA 7 3), .inl ((CA 7 3), 60, .inl (ux.2.1 2)))]))) [2, 3, 4, 23] (by decide) rfl
                  have hKc := hK.sub (tys' := (ty_X0 (CA 1) ++ ([((CA 7 3), .int)]))) [1, 2, 15] rfl
                  have hFc := va_free (wc := (wd_X0 (AA 1) (CA 1) um ++ ([((AA 7 3), .inl ((CA 7 3), 60, .inl (ux.2.1 2)))]))) hD hS hA [2, 3, 4, 23] rfl
                  refine va_calli (va_runV (As := [.ref (AA 7 3), .int x3, .int x4]) (rest := []) ⟨hx, hb, hml, hown, hts⟩ (c_X0_canHaveAll l dC dI (AA 1) (CA 1) (AA 7 3) (CA 7 3) 60 H.size um (ux.2.1 2) x3 x4 _ h) (cwV 3 hts gX7_arcs_X0_canHaveAll rfl rfl rfl (by decide +kernel) ⟨Nat.le_of_ble_eq_true rfl, Nat.le_of_ble_eq_true rfl⟩) ⟨fun a U g mk q => by obtain ⟨q0, q1, qP, qK, qD, qN⟩ := q; exact ⟨q0, q1, qP, va_K.moved (u := U) (U := U.calling g mk a) (Vm.Alike.refl U.vm) qK, qD, qN.call⟩, va_recv hKc hPc (ci := 0) (q0 := 0) rfl rfl, fun U hU hW => ⟨rfl, by rw [hU], by rw [hU]; exact hPc, va_K.moved hW.alike hKc, hDc.weaken (fun _ _ _ _ => trivial), hN.warm hW⟩⟩ rfl rfl hl.1 rfl (lv_room (Nat.le_of_ble_eq_true rfl)) dX7_arcs_87 ⟨Nat.zero_le _, Nat.zero_le _⟩) hS (fun q _ h => hFc q h) hFc (fun r_12 zz t H1 locs ht hvm hw hB hz1 hk1 hS => ?_)
                  replace h := hw
                  obtain ⟨hP1, hD1⟩ := hB
                  rw [ht] at hP1
                  obtain ⟨hP, hD⟩ := va_join (wr := [0, 1, 5, 6, 7, 8, 9, 10, 11, 12, 13, 14, 15, 16, 17, 18, 19, 20, 21, 22, 24, 25].filterMap (fun i => (wd_X7 AA CA uf um ut uh ug ur uw ux uy)[i]?)) (w1 := (wd_X0 (AA 1) (CA 1) um ++ ([((AA 7 3), .inl ((CA 7 3), 60, .inl (ux.2.1 2)))]))) hP hD [2, 3, 4, 23] [0, 1, 5, 6, 7, 8, 9, 10, 11, 12, 13, 14, 15, 16, 17, 18, 19, 20, 21, 22, 24, 25] rfl rfl (by decide) (by decide) hk1 hFc hP1 hD1
                  replace hP : va_P (dC, dI) vwCl (wd_X7 AA CA uf um ut uh ug ur uw ux uy) H1 := (hP.sub [0, 1, 22, 23, 24, 2, 3, 4, 5, 6, 7, 8, 9, 10, 11, 12, 13, 14, 15, 16, 17, 18, 19, 25, 20, 21] rfl)
                  replace hD : va_D A (wd_X7 AA CA uf um ut uh ug ur uw ux uy) := (hD.sub [0, 1, 22, 23, 24, 2, 3, 4, 5, 6, 7, 8, 9, 10, 11, 12, 13, 14, 15, 16, 17, 18, 19, 25, 20, 21] (by decide) rfl)
                  generalize H1 = H at hP hS ⊢
                  refine lv_if_ne (tgt := 96) hx hb dX7_arcs_90 (by decide) (fun hc_13 => ?_) (fun hc_13 => ?_)
                  · replace h := h.1 hc_13
                    refine lv_aload_n hx hb dX7_arcs_96 rfl (lv_at hl 2 rfl) ?_
                    refine va_get (D := (dC, dI)) (ci := 6) (v := .ref (AA 1 0)) (C := RX7) (T := TX7) (N := 8) hx hb hts hin_X7 hown hK hP 0 rfl rfl 0 (by decide) lk_2 (fun _ h9 => h9) rfl dX7_arcs_97 ?_
                    refine va_get (D := (dC, dI)) (ci := 0) (v := .int (um.1 1)) (C := RX0) (T := TX0) (N := 4) hx hb hts hin_X0 hown hK hP 2 rfl rfl 1 (by decide) lk_4 (fun _ h9 => h9) rfl dX7_arcs_100 ?_
                    refine lv_iload hx hb dX7_arcs_103 (lv_at hl 6 rfl) ?_
                    refine lv_iadd hx hb dX7_arcs_105 ?_
                    refine lv_bipush (v := 20) hx hb dX7_arcs_106 (by decide) ?_
                    refine lv_icmp_le (tgt := 114) hx hb dX7_arcs_108 (by decide) (fun hc_14 => ?_) (fun hc_14 => ?_)
                    · replace h := h.1 hc_14
                      refine lv_aload_n hx hb dX7_arcs_114 rfl (lv_at hl 2 rfl) ?_
                      refine va_get (D := (dC, dI)) (ci := 6) (v := .ref (AA 1 0)) (C := RX7) (T := TX7) (N := 8) hx hb hts hin_X7 hown hK hP 0 rfl rfl 0 (by decide) lk_2 (fun _ h9 => h9) rfl dX7_arcs_115 ?_
                      refine lv_aload hx hb dX7_arcs_118 (lv_at hl 1 rfl) ?_
                      refine va_get (D := (dC, dI)) (ci := 3) (v := .ref (AA 7 3)) (C := RX3) (T := TX3) (N := 4) hx hb hts hin_X3 hown hK hP 22 rfl rfl 2 (by decide) lk_3 (fun _ h9 => h9) rfl dX7_arcs_120 ?_
                      refine lv_iload_n hx hb dX7_arcs_123 rfl (lv_at hl 5 rfl) ?_
                      refine lv_iload hx hb dX7_arcs_124 (lv_at hl 6 rfl) ?_
                      have hPc := hP.sub (ws' := (wd_X0 (AA 1) (CA 1) um ++ ([((AA 7 3), .inl ((CA 7 3), 60, .inl (ux.2.1 2)))]))) [2, 3, 4, 23] rfl
                      have hDc := hD.sub (ws' := (wd_X0 (AA 1) (CA 1) um ++ ([((AA 7 3), .inl ((CA 7 3), 60, .inl (ux.2.1 2)))]))) [2, 3, 4, 23] (by decide) rfl
                      have hKc := hK.sub (tys' := (ty_X0 (CA 1) ++ ([((CA 7 3), .int)]))) [1, 2, 15] rfl
                      have hFc := va_free (wc := (wd_X0 (AA 1) (CA 1) um ++ ([((AA 7 3), .inl ((CA 7 3), 60, .inl (ux.2.1 2)))]))) hD hS hA [2, 3, 4, 23] rfl
                      refine va_callv (va_runV (As := [.ref (AA 7 3), .int x3, .int x4]) (rest := []) ⟨hx, hb, hml, hown, hts⟩ (c_X0_addAll l dC dI (AA 1) (CA 1) (AA 7 3) (CA 7 3) 60 H.size um (ux.2.1 2) x3 x4 _ h) (cwV 3 hts gX7_arcs_X0_addAll rfl rfl rfl (by decide +kernel) ⟨Nat.le_of_ble_eq_true rfl, Nat.le_of_ble_eq_true rfl⟩) ⟨fun a U g mk q => by obtain ⟨q0, q1, qP, qK, qD⟩ := q; exact ⟨q0, q1, qP, va_K.moved (u := U) (U := U.calling g mk a) (Vm.Alike.refl U.vm) qK, qD⟩, va_recv hKc hPc (ci := 0) (q0 := 0) rfl rfl, fun U hU hW => ⟨rfl, by rw [hU], by rw [hU]; exact hPc, va_K.moved hW.alike hKc, hDc.weaken (fun _ _ _ _ => trivial)⟩⟩ rfl rfl hl.1 rfl (lv_room (Nat.le_of_ble_eq_true rfl)) dX7_arcs_126 ⟨Nat.zero_le _, Nat.zero_le _⟩) hS (fun q _ h => hFc q h) hFc (fun zz t H1 locs ht hvm hw hB hz1 hk1 hS => ?_)
                      obtain ⟨um_15, rfl⟩ : ∃ z, z = zz := ⟨_, rfl⟩
                      replace h := hw
                      obtain ⟨hP1, hD1⟩ := hB
                      rw [ht] at hP1
                      obtain ⟨hP, hD⟩ := va_join (wr := [0, 1, 5, 6, 7, 8, 9, 10, 11, 12, 13, 14, 15, 16, 17, 18, 19, 20, 21, 22, 24, 25].filterMap (fun i => (wd_X7 AA CA uf um ut uh ug ur uw ux uy)[i]?)) (w1 := (wd_X0 (AA 1) (CA 1) um_15 ++ ([((AA 7 3), .inl ((CA 7 3), 60, .inl (ux.2.1 2)))]))) hP hD [2, 3, 4, 23] [0, 1, 5, 6, 7, 8, 9, 10, 11, 12, 13, 14, 15, 16, 17, 18, 19, 20, 21, 22, 24, 25] rfl rfl (by decide) (by decide) hk1 hFc hP1 hD1
                      replace hP : va_P (dC, dI) vwCl (wd_X7 AA CA uf um_15 ut uh ug ur uw ux uy) H1 := (hP.sub [0, 1, 22, 23, 24, 2, 3, 4, 5, 6, 7, 8, 9, 10, 11, 12, 13, 14, 15, 16, 17, 18, 19, 25, 20, 21] rfl)
                      replace hD : va_D A (wd_X7 AA CA uf um_15 ut uh ug ur uw ux uy) := (hD.sub [0, 1, 22, 23, 24, 2, 3, 4, 5, 6, 7, 8, 9, 10, 11, 12, 13, 14, 15, 16, 17, 18, 19, 25, 20, 21] (by decide) rfl)
                      generalize H1 = H at hP hS ⊢
                      refine lv_aload_n hx hb dX7_arcs_129 rfl (lv_at hl 2 rfl) ?_
                      have hPc := hP
                      have hDc := hD
                      have hKc := hK
                      have hFc := va_free (wc := (wd_X7 AA CA uf um_15 ut uh ug ur uw ux uy)) hD hS hA [0, 1, 2, 3, 4, 5, 6, 7, 8, 9, 10, 11, 12, 13, 14, 15, 16, 17, 18, 19, 20, 21, 22, 23, 24, 25] rfl
                      refine va_callv (va_runV (As := []) (rest := []) ⟨hx, hb, hml, hown, hts⟩ (c_X7_startAgain l dC dI AA CA H.size uf um_15 ut uh ug ur uw ux uy _ h) (cwV 0 hts gX7_arcs_X7_startAgain rfl rfl rfl (by decide +kernel) ⟨Nat.le_of_ble_eq_true rfl, Nat.le_of_ble_eq_true rfl⟩) ⟨fun a U g mk q => by obtain ⟨q0, q1, qP, qK, qD⟩ := q; exact ⟨q0, q1, qP, va_K.moved (u := U) (U := U.calling g mk a) (Vm.Alike.refl U.vm) qK, qD⟩, va_recv hKc hPc (ci := 6) (q0 := 0) rfl rfl, fun U hU hW => ⟨rfl, by rw [hU], by rw [hU]; exact hPc, va_K.moved hW.alike hKc, hDc.weaken (fun _ _ _ _ => trivial)⟩⟩ rfl rfl hl.1 rfl (lv_room (Nat.le_of_ble_eq_true rfl)) dX7_arcs_130 ⟨Nat.zero_le _, Nat.zero_le _⟩) hS (fun q _ h => hFc q h) hFc (fun zz t H1 locs ht hvm hw hB hz1 hk1 hS => ?_)
                      obtain ⟨uf_16, uh_17⟩ := zz
                      replace h := hw
                      obtain ⟨hP1, hD1⟩ := hB
                      rw [ht] at hP1
                      replace hD : va_D A (wd_X7 AA CA uf_16 um_15 ut uh_17 ug ur uw ux uy) := hD1.weaken (fun _ _ _ h9 => hFc _ h9)
                      replace hP : va_P (dC, dI) vwCl (wd_X7 AA CA uf_16 um_15 ut uh_17 ug ur uw ux uy) H1 := hP1
                      generalize H1 = H at hP hS ⊢
                      refine lv_aload_n hx hb dX7_arcs_133 rfl (lv_at hl 2 rfl) ?_
                      refine va_get (D := (dC, dI)) (ci := 6) (v := .ref (AA 1 0)) (C := RX7) (T := TX7) (N := 8) hx hb hts hin_X7 hown hK hP 0 rfl rfl 0 (by decide) lk_2 (fun _ h9 => h9) rfl dX7_arcs_134 ?_
                      refine va_get (D := (dC, dI)) (ci := 0) (v := .int (um_15.1 1)) (C := RX0) (T := TX0) (N := 4) hx hb hts hin_X0 hown hK hP 2 rfl rfl 1 (by decide) lk_4 (fun _ h9 => h9) rfl dX7_arcs_137 ?_
                      subst hQ
                      exact W.iret (v := (um_15.1 1)) hx hb hr (fun t ht hW => ⟨⟨_, (uf_16, um_15, uh_17), rfl, h, by rw [ht]; exact hP, hD⟩, hS.F ht⟩) hS.2.2 dX7_arcs_140
                    · replace h := h.2 hc_14
                      refine lv_bipush (v := (-3)) hx hb dX7_arcs_111 (by decide) ?_
                      subst hQ
                      exact W.iret (v := (-3)) hx hb hr (fun t ht hW => ⟨⟨_, (uf, um, uh), rfl, h, by rw [ht]; exact hP, hD⟩, hS.F ht⟩) hS.2.2 dX7_arcs_113
                  · replace h := h.2 hc_13
                    refine lv_bipush (v := (-2)) hx hb dX7_arcs_93 (by decide) ?_
                    subst hQ
                    exact W.iret (v := (-2)) hx hb hr (fun t ht hW => ⟨⟨_, (uf, um, uh), rfl, h, by rw [ht]; exact hP, hD⟩, hS.F ht⟩) hS.2.2 dX7_arcs_95
                · replace h := h.2 hc_11
                  refine lv_bipush (v := (-13)) hx hb dX7_arcs_72 (by decide) ?_
                  subst hQ
                  exact W.iret (v := (-13)) hx hb hr (fun t ht hW => ⟨⟨_, (uf, um, uh), rfl, h, by rw [ht]; exact hP, hD⟩, hS.F ht⟩) hS.2.2 dX7_arcs_74
            · replace h := h.2 hc_9
              refine lv_iload hx hb dX7_arcs_51 (lv_at hl 0 rfl) ?_
              subst hQ
              exact W.iret (v := r_8) hx hb hr (fun t ht hW => ⟨⟨_, (uf, um, uh), rfl, h, by rw [ht]; exact hP, hD⟩, hS.F ht⟩) hS.2.2 dX7_arcs_53
          · replace h := h.2 kn_x1
            refine W.eq (g2 := F0 m 36 ls [.ref (AA 8 0)]) (by rw [kn_x1]; rfl) ?_
            refine lv_astore (lv' := [(5, .ref (AA 8 0)), (0, .ref (AA 0 0)), (1, .int x1), (2, .int x2), (3, .int x3), (4, .int x4)]) hx hb dX7_arcs_36 hl (by decide) rfl (fun ls hl => ?_)
            refine lv_aload hx hb dX7_arcs_38 (lv_at hl 0 rfl) ?_
            refine lv_iload_n hx hb dX7_arcs_40 rfl (lv_at hl 3 rfl) ?_
            have hPc := hP.sub (ws' := (wd_X3 (AA 8) (CA 8) uy)) [24, 25] rfl
            have hDc := hD.sub (ws' := (wd_X3 (AA 8) (CA 8) uy)) [24, 25] (by decide) rfl
            have hKc := hK.sub (tys' := (ty_X3 (CA 8))) [16] rfl
            have hFc := va_free (wc := (wd_X3 (AA 8) (CA 8) uy)) hD hS hA [24, 25] rfl
            refine va_calli (va_runV (As := [.int x2]) (rest := []) ⟨hx, hb, hml, hown, hts⟩ (c_X3_faultAs l dC dI (AA 8) (CA 8) H.size uy x2 _ h) (cwV 1 hts gX7_arcs_X3_faultAs rfl rfl rfl (by decide +kernel) ⟨Nat.le_of_ble_eq_true rfl, Nat.le_of_ble_eq_true rfl⟩) ⟨fun a U g mk q => by obtain ⟨q0, q1, qP, qK, qD⟩ := q; exact ⟨q0, q1, qP, va_K.moved (u := U) (U := U.calling g mk a) (Vm.Alike.refl U.vm) qK, qD⟩, va_recv hKc hPc (ci := 3) (q0 := 0) rfl rfl, fun U hU hW => ⟨rfl, by rw [hU], by rw [hU]; exact hPc, va_K.moved hW.alike hKc, hDc.weaken (fun _ _ _ _ => trivial)⟩⟩ rfl rfl hl.1 rfl (lv_room (Nat.le_of_ble_eq_true rfl)) dX7_arcs_41 ⟨Nat.zero_le _, Nat.zero_le _⟩) hS (fun q _ h => hFc q h) hFc (fun r_18 zz t H1 locs ht hvm hw hB hz1 hk1 hS => ?_)
            replace h := hw
            obtain ⟨hP1, hD1⟩ := hB
            rw [ht] at hP1
            obtain ⟨hP, hD⟩ := va_join (wr := [0, 1, 2, 3, 4, 5, 6, 7, 8, 9, 10, 11, 12, 13, 14, 15, 16, 17, 18, 19, 20, 21, 22, 23].filterMap (fun i => (wd_X7 AA CA uf um ut uh ug ur uw ux uy)[i]?)) (w1 := (wd_X3 (AA 8) (CA 8) uy)) hP hD [24, 25] [0, 1, 2, 3, 4, 5, 6, 7, 8, 9, 10, 11, 12, 13, 14, 15, 16, 17, 18, 19, 20, 21, 22, 23] rfl rfl (by decide) (by decide) hk1 hFc hP1 hD1
            replace hP : va_P (dC, dI) vwCl (wd_X7 AA CA uf um ut uh ug ur uw ux uy) H1 := (hP.sub [0, 1, 2, 3, 4, 5, 6, 7, 8, 9, 10, 11, 12, 13, 14, 15, 16, 17, 18, 19, 20, 21, 22, 23, 24, 25] rfl)
            replace hD : va_D A (wd_X7 AA CA uf um ut uh ug ur uw ux uy) := (hD.sub [0, 1, 2, 3, 4, 5, 6, 7, 8, 9, 10, 11, 12, 13, 14, 15, 16, 17, 18, 19, 20, 21, 22, 23, 24, 25] (by decide) rfl)
            generalize H1 = H at hP hS ⊢
            refine lv_istore (lv' := [(6, .int r_18), (5, .ref (AA 8 0)), (0, .ref (AA 0 0)), (1, .int x1), (2, .int x2), (3, .int x3), (4, .int x4)]) hx hb dX7_arcs_44 hl (by decide) rfl (fun ls hl => ?_)
            refine lv_iload hx hb dX7_arcs_46 (lv_at hl 0 rfl) ?_
            refine lv_if_eq (tgt := 54) hx hb dX7_arcs_48 (by decide) (fun hc_19 => ?_) (fun hc_19 => ?_)
            · replace h := h.1 hc_19
              refine lv_iload_n hx hb dX7_arcs_54 rfl (lv_at hl 5 rfl) ?_
              refine lv_if_lt (tgt := 72) hx hb dX7_arcs_55 (by decide) (fun hc_20 => ?_) (fun hc_20 => ?_)
              · replace h := h.1 hc_20
                refine lv_bipush (v := (-13)) hx hb dX7_arcs_72 (by decide) ?_
                subst hQ
                exact W.iret (v := (-13)) hx hb hr (fun t ht hW => ⟨⟨_, (uf, um, uh), rfl, h, by rw [ht]; exact hP, hD⟩, hS.F ht⟩) hS.2.2 dX7_arcs_74
              · replace h := h.2 hc_20
                refine lv_iload_n hx hb dX7_arcs_58 rfl (lv_at hl 5 rfl) ?_
                refine lv_aload hx hb dX7_arcs_59 (lv_at hl 1 rfl) ?_
                refine va_get (D := (dC, dI)) (ci := 3) (v := .int (uy.1 1)) (C := RX3) (T := TX3) (N := 4) hx hb hts hin_X3 hown hK hP 24 rfl rfl 1 (by decide) lk_1 (fun _ h9 => h9) rfl dX7_arcs_61 ?_
                refine lv_iload hx hb dX7_arcs_64 (lv_at hl 6 rfl) ?_
                refine lv_iconst (v := 5) hx hb dX7_arcs_66 (by decide) ?_
                refine lv_imul hx hb dX7_arcs_67 ?_
                refine lv_isub hx hb dX7_arcs_68 ?_
                refine lv_icmp_le (tgt := 75) hx hb dX7_arcs_69 (by decide) (fun hc_21 => ?_) (fun hc_21 => ?_)
                · replace h := h.1 hc_21
                  refine lv_aload_n hx hb dX7_arcs_75 rfl (lv_at hl 2 rfl) ?_
                  refine va_get (D := (dC, dI)) (ci := 6) (v := .ref (AA 1 0)) (C := RX7) (T := TX7) (N := 8) hx hb hts hin_X7 hown hK hP 0 rfl rfl 0 (by decide) lk_2 (fun _ h9 => h9) rfl dX7_arcs_76 ?_
                  refine lv_aload hx hb dX7_arcs_79 (lv_at hl 1 rfl) ?_
                  refine va_get (D := (dC, dI)) (ci := 3) (v := .ref (AA 8 3)) (C := RX3) (T := TX3) (N := 4) hx hb hts hin_X3 hown hK hP 24 rfl rfl 2 (by decide) lk_3 (fun _ h9 => h9) rfl dX7_arcs_81 ?_
                  refine lv_iload_n hx hb dX7_arcs_84 rfl (lv_at hl 5 rfl) ?_
                  refine lv_iload hx hb dX7_arcs_85 (lv_at hl 6 rfl) ?_
                  have hPc := hP.sub (ws' := (wd_X0 (AA 1) (CA 1) um ++ ([((AA 8 3), .inl ((CA 8 3), 60, .inl (uy.2.1 2)))]))) [2, 3, 4, 25] rfl
                  have hDc := hD.sub (ws' := (wd_X0 (AA 1) (CA 1) um ++ ([((AA 8 3), .inl ((CA 8 3), 60, .inl (uy.2.1 2)))]))) [2, 3, 4, 25] (by decide) rfl
                  have hKc := hK.sub (tys' := (ty_X0 (CA 1) ++ ([((CA 8 3), .int)]))) [1, 2, 16] rfl
                  have hFc := va_free (wc := (wd_X0 (AA 1) (CA 1) um ++ ([((AA 8 3), .inl ((CA 8 3), 60, .inl (uy.2.1 2)))]))) hD hS hA [2, 3, 4, 25] rfl
                  refine va_calli (va_runV (As := [.ref (AA 8 3), .int x3, .int x4]) (rest := []) ⟨hx, hb, hml, hown, hts⟩ (c_X0_canHaveAll l dC dI (AA 1) (CA 1) (AA 8 3) (CA 8 3) 60 H.size um (uy.2.1 2) x3 x4 _ h) (cwV 3 hts gX7_arcs_X0_canHaveAll rfl rfl rfl (by decide +kernel) ⟨Nat.le_of_ble_eq_true rfl, Nat.le_of_ble_eq_true rfl⟩) ⟨fun a U g mk q => by obtain ⟨q0, q1, qP, qK, qD, qN⟩ := q; exact ⟨q0, q1, qP, va_K.moved (u := U) (U := U.calling g mk a) (Vm.Alike.refl U.vm) qK, qD, qN.call⟩, va_recv hKc hPc (ci := 0) (q0 := 0) rfl rfl, fun U hU hW => ⟨rfl, by rw [hU], by rw [hU]; exact hPc, va_K.moved hW.alike hKc, hDc.weaken (fun _ _ _ _ => trivial), hN.warm hW⟩⟩ rfl rfl hl.1 rfl (lv_room (Nat.le_of_ble_eq_true rfl)) dX7_arcs_87 ⟨Nat.zero_le _, Nat.zero_le _⟩) hS (fun q _ h => hFc q h) hFc (fun r_22 zz t H1 locs ht hvm hw hB hz1 hk1 hS => ?_)
                  replace h := hw
                  obtain ⟨hP1, hD1⟩ := hB
                  rw [ht] at hP1
                  obtain ⟨hP, hD⟩ := va_join (wr := [0, 1, 5, 6, 7, 8, 9, 10, 11, 12, 13, 14, 15, 16, 17, 18, 19, 20, 21, 22, 23, 24].filterMap (fun i => (wd_X7 AA CA uf um ut uh ug ur uw ux uy)[i]?)) (w1 := (wd_X0 (AA 1) (CA 1) um ++ ([((AA 8 3), .inl ((CA 8 3), 60, .inl (uy.2.1 2)))]))) hP hD [2, 3, 4, 25] [0, 1, 5, 6, 7, 8, 9, 10, 11, 12, 13, 14, 15, 16, 17, 18, 19, 20, 21, 22, 23, 24] rfl rfl (by decide) (by decide) hk1 hFc hP1 hD1
                  replace hP : va_P (dC, dI) vwCl (wd_X7 AA CA uf um ut uh ug ur uw ux uy) H1 := (hP.sub [0, 1, 22, 23, 24, 2, 3, 4, 5, 6, 7, 8, 9, 10, 11, 12, 13, 14, 15, 16, 17, 18, 19, 20, 21, 25] rfl)
                  replace hD : va_D A (wd_X7 AA CA uf um ut uh ug ur uw ux uy) := (hD.sub [0, 1, 22, 23, 24, 2, 3, 4, 5, 6, 7, 8, 9, 10, 11, 12, 13, 14, 15, 16, 17, 18, 19, 20, 21, 25] (by decide) rfl)
                  generalize H1 = H at hP hS ⊢
                  refine lv_if_ne (tgt := 96) hx hb dX7_arcs_90 (by decide) (fun hc_23 => ?_) (fun hc_23 => ?_)
                  · replace h := h.1 hc_23
                    refine lv_aload_n hx hb dX7_arcs_96 rfl (lv_at hl 2 rfl) ?_
                    refine va_get (D := (dC, dI)) (ci := 6) (v := .ref (AA 1 0)) (C := RX7) (T := TX7) (N := 8) hx hb hts hin_X7 hown hK hP 0 rfl rfl 0 (by decide) lk_2 (fun _ h9 => h9) rfl dX7_arcs_97 ?_
                    refine va_get (D := (dC, dI)) (ci := 0) (v := .int (um.1 1)) (C := RX0) (T := TX0) (N := 4) hx hb hts hin_X0 hown hK hP 2 rfl rfl 1 (by decide) lk_4 (fun _ h9 => h9) rfl dX7_arcs_100 ?_
                    refine lv_iload hx hb dX7_arcs_103 (lv_at hl 6 rfl) ?_
                    refine lv_iadd hx hb dX7_arcs_105 ?_
                    refine lv_bipush (v := 20) hx hb dX7_arcs_106 (by decide) ?_
                    refine lv_icmp_le (tgt := 114) hx hb dX7_arcs_108 (by decide) (fun hc_24 => ?_) (fun hc_24 => ?_)
                    · replace h := h.1 hc_24
                      refine lv_aload_n hx hb dX7_arcs_114 rfl (lv_at hl 2 rfl) ?_
                      refine va_get (D := (dC, dI)) (ci := 6) (v := .ref (AA 1 0)) (C := RX7) (T := TX7) (N := 8) hx hb hts hin_X7 hown hK hP 0 rfl rfl 0 (by decide) lk_2 (fun _ h9 => h9) rfl dX7_arcs_115 ?_
                      refine lv_aload hx hb dX7_arcs_118 (lv_at hl 1 rfl) ?_
                      refine va_get (D := (dC, dI)) (ci := 3) (v := .ref (AA 8 3)) (C := RX3) (T := TX3) (N := 4) hx hb hts hin_X3 hown hK hP 24 rfl rfl 2 (by decide) lk_3 (fun _ h9 => h9) rfl dX7_arcs_120 ?_
                      refine lv_iload_n hx hb dX7_arcs_123 rfl (lv_at hl 5 rfl) ?_
                      refine lv_iload hx hb dX7_arcs_124 (lv_at hl 6 rfl) ?_
                      have hPc := hP.sub (ws' := (wd_X0 (AA 1) (CA 1) um ++ ([((AA 8 3), .inl ((CA 8 3), 60, .inl (uy.2.1 2)))]))) [2, 3, 4, 25] rfl
                      have hDc := hD.sub (ws' := (wd_X0 (AA 1) (CA 1) um ++ ([((AA 8 3), .inl ((CA 8 3), 60, .inl (uy.2.1 2)))]))) [2, 3, 4, 25] (by decide) rfl
                      have hKc := hK.sub (tys' := (ty_X0 (CA 1) ++ ([((CA 8 3), .int)]))) [1, 2, 16] rfl
                      have hFc := va_free (wc := (wd_X0 (AA 1) (CA 1) um ++ ([((AA 8 3), .inl ((CA 8 3), 60, .inl (uy.2.1 2)))]))) hD hS hA [2, 3, 4, 25] rfl
                      refine va_callv (va_runV (As := [.ref (AA 8 3), .int x3, .int x4]) (rest := []) ⟨hx, hb, hml, hown, hts⟩ (c_X0_addAll l dC dI (AA 1) (CA 1) (AA 8 3) (CA 8 3) 60 H.size um (uy.2.1 2) x3 x4 _ h) (cwV 3 hts gX7_arcs_X0_addAll rfl rfl rfl (by decide +kernel) ⟨Nat.le_of_ble_eq_true rfl, Nat.le_of_ble_eq_true rfl⟩) ⟨fun a U g mk q => by obtain ⟨q0, q1, qP, qK, qD⟩ := q; exact ⟨q0, q1, qP, va_K.moved (u := U) (U := U.calling g mk a) (Vm.Alike.refl U.vm) qK, qD⟩, va_recv hKc hPc (ci := 0) (q0 := 0) rfl rfl, fun U hU hW => ⟨rfl, by rw [hU], by rw [hU]; exact hPc, va_K.moved hW.alike hKc, hDc.weaken (fun _ _ _ _ => trivial)⟩⟩ rfl rfl hl.1 rfl (lv_room (Nat.le_of_ble_eq_true rfl)) dX7_arcs_126 ⟨Nat.zero_le _, Nat.zero_le _⟩) hS (fun q _ h => hFc q h) hFc (fun zz t H1 locs ht hvm hw hB hz1 hk1 hS => ?_)
                      obtain ⟨um_25, rfl⟩ : ∃ z, z = zz := ⟨_, rfl⟩
                      replace h := hw
                      obtain ⟨hP1, hD1⟩ := hB
                      rw [ht] at hP1
                      obtain ⟨hP, hD⟩ := va_join (wr := [0, 1, 5, 6, 7, 8, 9, 10, 11, 12, 13, 14, 15, 16, 17, 18, 19, 20, 21, 22, 23, 24].filterMap (fun i => (wd_X7 AA CA uf um ut uh ug ur uw ux uy)[i]?)) (w1 := (wd_X0 (AA 1) (CA 1) um_25 ++ ([((AA 8 3), .inl ((CA 8 3), 60, .inl (uy.2.1 2)))]))) hP hD [2, 3, 4, 25] [0, 1, 5, 6, 7, 8, 9, 10, 11, 12, 13, 14, 15, 16, 17, 18, 19, 20, 21, 22, 23, 24] rfl rfl (by decide) (by decide) hk1 hFc hP1 hD1
                      replace hP : va_P (dC, dI) vwCl (wd_X7 AA CA uf um_25 ut uh ug ur uw ux uy) H1 := (hP.sub [0, 1, 22, 23, 24, 2, 3, 4, 5, 6, 7, 8, 9, 10, 11, 12, 13, 14, 15, 16, 17, 18, 19, 20, 21, 25] rfl)
                      replace hD : va_D A (wd_X7 AA CA uf um_25 ut uh ug ur uw ux uy) := (hD.sub [0, 1, 22, 23, 24, 2, 3, 4, 5, 6, 7, 8, 9, 10, 11, 12, 13, 14, 15, 16, 17, 18, 19, 20, 21, 25] (by decide) rfl)
                      generalize H1 = H at hP hS ⊢
                      refine lv_aload_n hx hb dX7_arcs_129 rfl (lv_at hl 2 rfl) ?_
                      have hPc := hP
                      have hDc := hD
                      have hKc := hK
                      have hFc := va_free (wc := (wd_X7 AA CA uf um_25 ut uh ug ur uw ux uy)) hD hS hA [0, 1, 2, 3, 4, 5, 6, 7, 8, 9, 10, 11, 12, 13, 14, 15, 16, 17, 18, 19, 20, 21, 22, 23, 24, 25] rfl
                      refine va_callv (va_runV (As := []) (rest := []) ⟨hx, hb, hml, hown, hts⟩ (c_X7_startAgain l dC dI AA CA H.size uf um_25 ut uh ug ur uw ux uy _ h) (cwV 0 hts gX7_arcs_X7_startAgain rfl rfl rfl (by decide +kernel) ⟨Nat.le_of_ble_eq_true rfl, Nat.le_of_ble_eq_true rfl⟩) ⟨fun a U g mk q => by obtain ⟨q0, q1, qP, qK, qD⟩ := q; exact ⟨q0, q1, qP, va_K.moved (u := U) (U := U.calling g mk a) (Vm.Alike.refl U.vm) qK, qD⟩, va_recv hKc hPc (ci := 6) (q0 := 0) rfl rfl, fun U hU hW => ⟨rfl, by rw [hU], by rw [hU]; exact hPc, va_K.moved hW.alike hKc, hDc.weaken (fun _ _ _ _ => trivial)⟩⟩ rfl rfl hl.1 rfl (lv_room (Nat.le_of_ble_eq_true rfl)) dX7_arcs_130 ⟨Nat.zero_le _, Nat.zero_le _⟩) hS (fun q _ h => hFc q h) hFc (fun zz t H1 locs ht hvm hw hB hz1 hk1 hS => ?_)
                      obtain ⟨uf_26, uh_27⟩ := zz
                      replace h := hw
                      obtain ⟨hP1, hD1⟩ := hB
                      rw [ht] at hP1
                      replace hD : va_D A (wd_X7 AA CA uf_26 um_25 ut uh_27 ug ur uw ux uy) := hD1.weaken (fun _ _ _ h9 => hFc _ h9)
                      replace hP : va_P (dC, dI) vwCl (wd_X7 AA CA uf_26 um_25 ut uh_27 ug ur uw ux uy) H1 := hP1
                      generalize H1 = H at hP hS ⊢
                      refine lv_aload_n hx hb dX7_arcs_133 rfl (lv_at hl 2 rfl) ?_
                      refine va_get (D := (dC, dI)) (ci := 6) (v := .ref (AA 1 0)) (C := RX7) (T := TX7) (N := 8) hx hb hts hin_X7 hown hK hP 0 rfl rfl 0 (by decide) lk_2 (fun _ h9 => h9) rfl dX7_arcs_134 ?_
                      refine va_get (D := (dC, dI)) (ci := 0) (v := .int (um_25.1 1)) (C := RX0) (T := TX0) (N := 4) hx hb hts hin_X0 hown hK hP 2 rfl rfl 1 (by decide) lk_4 (fun _ h9 => h9) rfl dX7_arcs_137 ?_
                      subst hQ
                      exact W.iret (v := (um_25.1 1)) hx hb hr (fun t ht hW => ⟨⟨_, (uf_26, um_25, uh_27), rfl, h, by rw [ht]; exact hP, hD⟩, hS.F ht⟩) hS.2.2 dX7_arcs_140
                    · replace h := h.2 hc_24
                      refine lv_bipush (v := (-3)) hx hb dX7_arcs_111 (by decide) ?_
                      subst hQ
                      exact W.iret (v := (-3)) hx hb hr (fun t ht hW => ⟨⟨_, (uf, um, uh), rfl, h, by rw [ht]; exact hP, hD⟩, hS.F ht⟩) hS.2.2 dX7_arcs_113
                  · replace h := h.2 hc_23
                    refine lv_bipush (v := (-2)) hx hb dX7_arcs_93 (by decide) ?_
                    subst hQ
                    exact W.iret (v := (-2)) hx hb hr (fun t ht hW => ⟨⟨_, (uf, um, uh), rfl, h, by rw [ht]; exact hP, hD⟩, hS.F ht⟩) hS.2.2 dX7_arcs_95
                · replace h := h.2 hc_21
                  refine lv_bipush (v := (-13)) hx hb dX7_arcs_72 (by decide) ?_
                  subst hQ
                  exact W.iret (v := (-13)) hx hb hr (fun t ht hW => ⟨⟨_, (uf, um, uh), rfl, h, by rw [ht]; exact hP, hD⟩, hS.F ht⟩) hS.2.2 dX7_arcs_74
            · replace h := h.2 hc_19
              refine lv_iload hx hb dX7_arcs_51 (lv_at hl 0 rfl) ?_
              subst hQ
              exact W.iret (v := r_18) hx hb hr (fun t ht hW => ⟨⟨_, (uf, um, uh), rfl, h, by rw [ht]; exact hP, hD⟩, hS.F ht⟩) hS.2.2 dX7_arcs_53
        · replace h := h.2 hc_6
          refine lv_iconst (v := (-1)) hx hb dX7_arcs_28 (by decide) ?_
          subst hQ
          exact W.iret (v := (-1)) hx hb hr (fun t ht hW => ⟨⟨_, (uf, um, uh), rfl, h, by rw [ht]; exact hP, hD⟩, hS.F ht⟩) hS.2.2 dX7_arcs_29
