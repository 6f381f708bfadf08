abbrev rm_X1_isLonger : Room := { frames := 1, cells := 0, slots := 0, locals := 21 }
set_option maxHeartbeats 4000000 in
set_option maxRecDepth 100000 in
theorem c_X1_isLonger (l : Launch) (dC : Nat → ClassId) (dI : Nat → Nat → Nat) (a : Nat → Nat) (ca : Nat → ClassId) (sz : Nat) (u : Ob) (x1 : Int32) (post : Int32 → Prop) (h : wp_X1_isLonger u x1 post) : Met l yX1_isLonger wsX1_isLonger rm_X1_isLonger (va_Pc [.ref (a 0), .int x1] (fun U => U.heap.size = sz ∧ va_P (dC, dI) vwCl (wd_X1 a ca u) U.heap ∧ va_K (dC, dI) vwCl (ty_X1 ca) U ∧ va_D (fun _ => True) (wd_X1 a ca u))) (va_Qi (fun (rr : Int32) (_ : Unit) => post rr) (fun (zz : Unit) (t : State) => va_P (dC, dI) vwCl (wd_X1 a ca u) t.heap ∧ va_D (va_A (wd_X1 a ca u) sz) (wd_X1 a ca u)) (va_A (wd_X1 a ca u) sz)) 0 0 (va_A (wd_X1 a ca u) sz) := by
  refine fl_ofW (cc := cX1_isLonger) (maxL := 2) (ret := (some .boolean)) (by decide) rfl ?_
  intro p e s m args below meth c s₁ Q B hml hv hQ
  obtain ⟨hargs, hsz, hP, hK, hD0⟩ := hv
  have hx := B.exec
  have hb := B.bytes
  have hr := B.returns
  have hts := atoms_spec (ws := wsX1_isLonger) B.pre
  have hown : s.vm.findClass RX1 = some m.cls := findClass_of_methodNamed B.named
  subst hsz
  have hD := hD0.self (sz := s.heap.size)
  generalize hAe : va_A (wd_X1 a ca u) s.heap.size = A at hD hQ
  have hA : ∀ q : Nat, s.heap.size ≤ q → A q := fun q h => by rw [← hAe]; exact Or.inr h
  have hS : va_S A s.heap s.heap [] := va_S.rf
  have hl := lv_entry ([.ref (a 0), .int x1]) (n := 2) (Nat.le_of_ble_eq_true rfl)
  refine W.eq (g2 := F0 m 0 ((lg_sl ([.ref (a 0), .int x1]) ++ List.replicate (2 - (lg_sl ([.ref (a 0), .int x1])).length) Slot.unset).toArray) []) (by rw [hargs]; exact lg_entry_eq m _ 2) ?_
  generalize (lg_sl ([.ref (a 0), .int x1]) ++ List.replicate (2 - (lg_sl ([.ref (a 0), .int x1])).length) Slot.unset).toArray = ls at hl ⊢
  have hl : lv_has ls 2 [(0, .ref (a 0)), (1, .int x1)] := hl
  suffices hstart : ∀ (H : Heap) (locs : List Loc) (ls : Array Slot), va_P (dC, dI) vwCl (wd_X1 a ca u) H → va_D A (wd_X1 a ca u) → va_S A s.heap H locs → lv_has ls 2 [(0, .ref (a 0)), (1, .int x1)] → W p l e (headSpec wsX1_isLonger rm_X1_isLonger).room s m args below meth c H locs 0 0 Q (F0 m 0 ls []) from hstart _ _ _ hP hD hS hl
  clear hS hP hD hD0
  intro H locs ls hP hD hS hl
  have hin_X1 : ∀ w ∈ wsX10, w ∈ wsX1_isLonger := by decide +kernel
  have lk_0 := hts (.fieldLink RX1 9 "ForgettingLines$Place" "words" "[I") (by decide +kernel)
  unfold wp_X1_isLonger at h
  refine lv_aload_n hx hb dX1_isLonger_0 rfl (lv_at hl 0 rfl) ?_
  refine va_get (D := (dC, dI)) (ci := 1) (v := .ref (a 2)) (C := RX1) (T := TX1) (N := 2) hx hb hts hin_X1 hown hK hP 0 rfl rfl 1 (by decide) lk_0 (fun _ h9 => h9) rfl dX1_isLonger_1 ?_
  refine lv_iconst (v := 0) hx hb dX1_isLonger_4 (by decide) ?_
  obtain ⟨hi_1, h⟩ := h
  refine va_iald (D := (dC, dI)) (cl := vwCl) (i := 0) hx hb hK hP 1 0 rfl rfl hi_1 dX1_isLonger_5 ?_
  refine lv_iload_n hx hb dX1_isLonger_6 rfl (lv_at hl 1 rfl) ?_
  have hFc := fl_freeN hS hA
  refine va_calli (va_runS (As := [.int (u.2.1 1 (0 : Int32).toNatClampNeg), .int x1]) (rest := []) ⟨hx, hb, hml, hown, hts⟩ (c_X6_isLonger l H.size (u.2.1 1 (0 : Int32).toNatClampNeg) x1 _ h) (va_cwS 2 hts gX1_isLonger_X6_isLonger rfl rfl rfl (by decide +kernel) ⟨Nat.le_of_ble_eq_true rfl, Nat.le_of_ble_eq_true rfl⟩) ⟨fun a U g mk q => by obtain ⟨q0, q1⟩ := q; exact ⟨q0, q1⟩, fun U hU hW => ⟨rfl, congrArg Array.size hU⟩⟩ rfl rfl hl.1 rfl (lv_room (Nat.le_of_ble_eq_true rfl)) dX1_isLonger_7 ⟨Nat.zero_le _, Nat.zero_le _⟩) hS (fun q _ h => hFc q h) hFc (fun r_2 zz t H1 locs ht hvm hw hB hz1 hk1 hS => ?_)
  replace hP := fl_keep hP hk1
  replace h := hw
  generalize H1 = H at hP hS ⊢
  refine lv_if_ne (tgt := 26) hx hb dX1_isLonger_10 (by decide) (fun hc_3 => ?_) (fun hc_3 => ?_)
  · replace h := h.1 hc_3
    refine lv_iconst (v := 1) hx hb dX1_isLonger_26 (by decide) ?_
    refine lv_goto (tgt := 31) hx hb dX1_isLonger_27 (by decide) ?_
    subst hQ
    exact W.zret (v := 1) hx hb hr (by rfl) (fun t ht hW => ⟨⟨_, (), rfl, h, by rw [ht]; exact hP, hD⟩, hS.F ht⟩) hS.2.2 dX1_isLonger_31
  · replace h := h.2 hc_3
    refine lv_aload_n hx hb dX1_isLonger_13 rfl (lv_at hl 0 rfl) ?_
    refine va_get (D := (dC, dI)) (ci := 1) (v := .ref (a 2)) (C := RX1) (T := TX1) (N := 2) hx hb hts hin_X1 hown hK hP 0 rfl rfl 1 (by decide) lk_0 (fun _ h9 => h9) rfl dX1_isLonger_14 ?_
    refine lv_iconst (v := 1) hx hb dX1_isLonger_17 (by decide) ?_
    obtain ⟨hi_4, h⟩ := h
    refine va_iald (D := (dC, dI)) (cl := vwCl) (i := 1) hx hb hK hP 1 0 rfl rfl hi_4 dX1_isLonger_18 ?_
    refine lv_iload_n hx hb dX1_isLonger_19 rfl (lv_at hl 1 rfl) ?_
    have hFc := fl_freeN hS hA
    refine va_calli (va_runS (As := [.int (u.2.1 1 (1 : Int32).toNatClampNeg), .int x1]) (rest := []) ⟨hx, hb, hml, hown, hts⟩ (c_X6_isLonger l H.size (u.2.1 1 (1 : Int32).toNatClampNeg) x1 _ h) (va_cwS 2 hts gX1_isLonger_X6_isLonger rfl rfl rfl (by decide +kernel) ⟨Nat.le_of_ble_eq_true rfl, Nat.le_of_ble_eq_true rfl⟩) ⟨fun a U g mk q => by obtain ⟨q0, q1⟩ := q; exact ⟨q0, q1⟩, fun U hU hW => ⟨rfl, congrArg Array.size hU⟩⟩ rfl rfl hl.1 rfl (lv_room (Nat.le_of_ble_eq_true rfl)) dX1_isLonger_20 ⟨Nat.zero_le _, Nat.zero_le _⟩) hS (fun q _ h => hFc q h) hFc (fun r_5 zz t H1 locs ht hvm hw hB hz1 hk1 hS => ?_)
    replace hP := fl_keep hP hk1
    replace h := hw
    generalize H1 = H at hP hS ⊢
    refine lv_if_eq (tgt := 30) hx hb dX1_isLonger_23 (by decide) (fun hc_6 => ?_) (fun hc_6 => ?_)
    · replace h := h.1 hc_6
      refine lv_iconst (v := 0) hx hb dX1_isLonger_30 (by decide) ?_
      subst hQ
      exact W.zret (v := 0) hx hb hr (by rfl) (fun t ht hW => ⟨⟨_, (), rfl, h, by rw [ht]; exact hP, hD⟩, hS.F ht⟩) hS.2.2 dX1_isLonger_31
    · replace h := h.2 hc_6
      refine lv_iconst (v := 1) hx hb dX1_isLonger_26 (by decide) ?_
      refine lv_goto (tgt := 31) hx hb dX1_isLonger_27 (by decide) ?_
      subst hQ
      exact W.zret (v := 1) hx hb hr (by rfl) (fun t ht hW => ⟨⟨_, (), rfl, h, by rw [ht]; exact hP, hD⟩, hS.F ht⟩) hS.2.2 dX1_isLonger_31
abbrev rm_X3_hold : Room := { frames := 1, cells := 0, slots := 0, locals := 23 }
set_option maxHeartbeats 4000000 in
set_option maxRecDepth 100000 in
theorem c_X3_hold (l : Launch) (dC : Nat → ClassId) (dI : Nat → Nat → Nat) (a : Nat → Nat) (ca : Nat → ClassId) (sz : Nat) (u : Ob) (x1 : Int32) (x2 : Int32) (post : Ob → Prop) (h : wp_X3_hold u x1 x2 post) : Met l yX3_hold wsX3_hold rm_X3_hold (va_Pc [.ref (a 0), .int x1, .int x2] (fun U => U.heap.size = sz ∧ va_P (dC, dI) vwCl (wd_X3 a ca u) U.heap ∧ va_K (dC, dI) vwCl (ty_X3 ca) U ∧ va_D (fun _ => True) (wd_X3 a ca u))) (va_Qv post (fun (zz : Ob) (t : State) => va_P (dC, dI) vwCl (wd_X3 a ca zz) t.heap ∧ va_D (va_A (wd_X3 a ca u) sz) (wd_X3 a ca zz)) (va_A (wd_X3 a ca u) sz)) 0 0 (va_A (wd_X3 a ca u) sz) := by
  refine fl_ofW (cc := cX3_hold) (maxL := 3) (ret := none) (by decide) rfl ?_
  intro p e s m args below meth c s₁ Q B hml hv hQ
  obtain ⟨hargs, hsz, hP, hK, hD0⟩ := hv
  have hx := B.exec
  have hb := B.bytes
  have hr := B.returns
  have hts := atoms_spec (ws := wsX3_hold) B.pre
  have hown : s.vm.findClass RX3 = some m.cls := findClass_of_methodNamed B.named
  subst hsz
  have hD := hD0.self (sz := s.heap.size)
  generalize hAe : va_A (wd_X3 a ca u) s.heap.size = A at hD hQ
  have hA : ∀ q : Nat, s.heap.size ≤ q → A q := fun q h => by rw [← hAe]; exact Or.inr h
  have hS : va_S A s.heap s.heap [] := va_S.rf
  have hl := lv_entry ([.ref (a 0), .int x1, .int x2]) (n := 3) (Nat.le_of_ble_eq_true rfl)
  refine W.eq (g2 := F0 m 0 ((lg_sl ([.ref (a 0), .int x1, .int x2]) ++ List.replicate (3 - (lg_sl ([.ref (a 0), .int x1, .int x2])).length) Slot.unset).toArray) []) (by rw [hargs]; exact lg_entry_eq m _ 3) ?_
  generalize (lg_sl ([.ref (a 0), .int x1, .int x2]) ++ List.replicate (3 - (lg_sl ([.ref (a 0), .int x1, .int x2])).length) Slot.unset).toArray = ls at hl ⊢
  have hl : lv_has ls 3 [(0, .ref (a 0)), (1, .int x1), (2, .int x2)] := hl
  suffices hstart : ∀ (H : Heap) (locs : List Loc) (ls : Array Slot), va_P (dC, dI) vwCl (wd_X3 a ca u) H → va_D A (wd_X3 a ca u) → va_S A s.heap H locs → lv_has ls 3 [(0, .ref (a 0)), (1, .int x1), (2, .int x2)] → W p l e (headSpec wsX3_hold rm_X3_hold).room s m args below meth c H locs 0 0 Q (F0 m 0 ls []) from hstart _ _ _ hP hD hS hl
  clear hS hP hD hD0
  intro H locs ls hP hD hS hl
  have hin_X3 : ∀ w ∈ wsX30, w ∈ wsX3_hold := by decide +kernel
  have lk_0 := hts (.fieldLink RX3 15 "ForgettingLines$Sheet" "held" "Z") (by decide +kernel)
  have lk_1 := hts (.fieldLink RX3 19 "ForgettingLines$Sheet" "lane" "I") (by decide +kernel)
  have lk_2 := hts (.fieldLink RX3 23 "ForgettingLines$Sheet" "size" "I") (by decide +kernel)
  have lk_3 := hts (.fieldLink RX3 9 "ForgettingLines$Sheet" "items" "[I") (by decide +kernel)
  unfold wp_X3_hold at h
  refine lv_aload_n hx hb dX3_hold_0 rfl (lv_at hl 0 rfl) ?_
  refine lv_iconst (v := 1) hx hb dX3_hold_1 (by decide) ?_
  refine va_put (D := (dC, dI)) (ci := 3) (v := .int 1) (ty := .boolean) (C := RX3) (T := TX3) (N := 4) hx hb hts hin_X3 tyX3 tyX3_ok nmX3 hown hK hP hD hS 0 rfl rfl 0 (by decide) lk_0 (fun _ h9 => h9) rfl (by decide +kernel) rfl rfl (Nat.le_of_ble_eq_true rfl) dX3_hold_2 (fun H locs hP hD hS => ?_)
  obtain ⟨u_1, eu_1⟩ : ∃ z : Ob, z = fs_i u 0 1 := ⟨_, rfl⟩
  replace h := h u_1 eu_1
  replace hP : va_P (dC, dI) vwCl (wd_X3 a ca u_1) H := by rw [eu_1]; exact hP
  replace hD : va_D A (wd_X3 a ca u_1) := by rw [eu_1]; exact hD
  refine lv_aload_n hx hb dX3_hold_5 rfl (lv_at hl 0 rfl) ?_
  refine lv_iload_n hx hb dX3_hold_6 rfl (lv_at hl 1 rfl) ?_
  refine va_put (D := (dC, dI)) (ci := 3) (v := .int x1) (ty := .int) (C := RX3) (T := TX3) (N := 4) hx hb hts hin_X3 tyX3 tyX3_ok nmX3 hown hK hP hD hS 0 rfl rfl 3 (by decide) lk_1 (fun _ h9 => h9) rfl (by decide +kernel) rfl rfl (Nat.le_of_ble_eq_true rfl) dX3_hold_7 (fun H locs hP hD hS => ?_)
  obtain ⟨u_2, eu_2⟩ : ∃ z : Ob, z = fs_i u_1 3 x1 := ⟨_, rfl⟩
  replace h := h u_2 eu_2
  replace hP : va_P (dC, dI) vwCl (wd_X3 a ca u_2) H := by rw [eu_2]; exact hP
  replace hD : va_D A (wd_X3 a ca u_2) := by rw [eu_2]; exact hD
  refine lv_aload_n hx hb dX3_hold_10 rfl (lv_at hl 0 rfl) ?_
  refine lv_iload_n hx hb dX3_hold_11 rfl (lv_at hl 2 rfl) ?_
  refine va_put (D := (dC, dI)) (ci := 3) (v := .int x2) (ty := .int) (C := RX3) (T := TX3) (N := 4) hx hb hts hin_X3 tyX3 tyX3_ok nmX3 hown hK hP hD hS 0 rfl rfl 1 (by decide) lk_2 (fun _ h9 => h9) rfl (by decide +kernel) rfl rfl (Nat.le_of_ble_eq_true rfl) dX3_hold_12 (fun H locs hP hD hS => ?_)
  obtain ⟨u_3, eu_3⟩ : ∃ z : Ob, z = fs_i u_2 1 x2 := ⟨_, rfl⟩
  replace h := h u_3 eu_3
  replace hP : va_P (dC, dI) vwCl (wd_X3 a ca u_3) H := by rw [eu_3]; exact hP
  replace hD : va_D A (wd_X3 a ca u_3) := by rw [eu_3]; exact hD
  refine lv_aload_n hx hb dX3_hold_15 rfl (lv_at hl 0 rfl) ?_
  refine va_get (D := (dC, dI)) (ci := 3) (v := .ref (a 3)) (C := RX3) (T := TX3) (N := 4) hx hb hts hin_X3 hown hK hP 0 rfl rfl 2 (by decide) lk_3 (fun _ h9 => h9) rfl dX3_hold_16 ?_
  refine lv_iconst (v := 0) hx hb dX3_hold_19 (by decide) ?_
  have hPc := hP.sub (ws' := ([((a 3), .inl ((ca 3), 60, .inl (u_3.2.1 2)))])) [1] rfl
  have hDc := hD.sub (ws' := ([((a 3), .inl ((ca 3), 60, .inl (u_3.2.1 2)))])) [1] (by decide) rfl
  have hKc := hK.sub (tys' := ([((ca 3), .int)])) [0] rfl
  have hFc := va_free (wc := ([((a 3), .inl ((ca 3), 60, .inl (u_3.2.1 2)))])) hD hS hA [1] rfl
  refine va_callv (va_runS (As := [.ref (a 3), .int 0]) (rest := []) ⟨hx, hb, hml, hown, hts⟩ (c_J7_fill_53178 l dC dI (a 3) (ca 3) 60 H.size (u_3.2.1 2) 0 _ h) (va_cwS 2 hts gX3_hold_J7_fill_53178 rfl rfl rfl (by decide +kernel) ⟨Nat.le_of_ble_eq_true rfl, Nat.le_of_ble_eq_true rfl⟩) ⟨fun a U g mk q => by obtain ⟨q0, q1, qP, qK, qD⟩ := q; exact ⟨q0, q1, qP, va_K.moved (u := U) (U := U.calling g mk a) (Vm.Alike.refl U.vm) qK, qD⟩, fun U hU hW => ⟨rfl, by rw [hU], by rw [hU]; exact hPc, va_K.moved hW.alike hKc, hDc.weaken (fun _ _ _ _ => trivial)⟩⟩ rfl rfl hl.1 rfl (lv_room (Nat.le_of_ble_eq_true rfl)) dX3_hold_20 ⟨Nat.zero_le _, Nat.zero_le _⟩) hS (fun q _ h => hFc q h) hFc (fun zz t H1 locs ht hvm hw hB hz1 hk1 hS => ?_)
  obtain ⟨f_4, rfl⟩ : ∃ z, z = zz := ⟨_, rfl⟩
  replace h := hw
  obtain ⟨hP1, hD1⟩ := hB
  rw [ht] at hP1
  obtain ⟨hP, hD⟩ := va_join (wr := [0].filterMap (fun i => (wd_X3 a ca u_3)[i]?)) (w1 := ([((a 3), .inl ((ca 3), 60, .inl f_4))])) hP hD [1] [0] rfl rfl (by decide) (by decide) hk1 hFc hP1 hD1
  obtain ⟨u_5, eu_5⟩ : ∃ z : Ob, z = fs_a u_3 2 f_4 := ⟨_, rfl⟩
  replace h := h u_5 eu_5
  replace hP : va_P (dC, dI) vwCl (wd_X3 a ca u_5) H1 := by rw [eu_5]; exact (hP.sub [0, 1] rfl)
  replace hD : va_D A (wd_X3 a ca u_5) := by rw [eu_5]; exact (hD.sub [0, 1] (by decide) rfl)
  generalize H1 = H at hP hS ⊢
  subst hQ
  exact W.vret hx hb hr (fun t ht hW => ⟨⟨u_5, rfl, h, by rw [ht]; exact hP, hD⟩, hS.F ht⟩) hS.2.2 dX3_hold_23
abbrev rm_X3_faultAs : Room := { frames := 0, cells := 0, slots := 0, locals := 0 }
set_option maxHeartbeats 4000000 in
set_option maxRecDepth 100000 in
theorem c_X3_faultAs (l : Launch) (dC : Nat → ClassId) (dI : Nat → Nat → Nat) (a : Nat → Nat) (ca : Nat → ClassId) (sz : Nat) (u : Ob) (x1 : Int32) (post : Int32 → Prop) (h : wp_X3_faultAs u x1 post) : Met l yX3_faultAs wsX3_faultAs rm_X3_faultAs (va_Pc [.ref (a 0), .int x1] (fun U => U.heap.size = sz ∧ va_P (dC, dI) vwCl (wd_X3 a ca u) U.heap ∧ va_K (dC, dI) vwCl (ty_X3 ca) U ∧ va_D (fun _ => True) (wd_X3 a ca u))) (va_Qi (fun (rr : Int32) (_ : Unit) => post rr) (fun (zz : Unit) (t : State) => va_P (dC, dI) vwCl (wd_X3 a ca u) t.heap ∧ va_D (va_A (wd_X3 a ca u) sz) (wd_X3 a ca u)) (va_A (wd_X3 a ca u) sz)) 0 0 (va_A (wd_X3 a ca u) sz) := by
  refine fl_ofW (cc := cX3_faultAs) (maxL := 2) (ret := (some .int)) (by decide) rfl ?_
  intro p e s m args below meth c s₁ Q B hml hv hQ
  obtain ⟨hargs, hsz, hP, hK, hD0⟩ := hv
  have hx := B.exec
  have hb := B.bytes
  have hr := B.returns
  have hts := atoms_spec (ws := wsX3_faultAs) B.pre
  have hown : s.vm.findClass RX3 = some m.cls := findClass_of_methodNamed B.named
  subst hsz
  have hD := hD0.self (sz := s.heap.size)
  generalize hAe : va_A (wd_X3 a ca u) s.heap.size = A at hD hQ
  have hA : ∀ q : Nat, s.heap.size ≤ q → A q := fun q h => by rw [← hAe]; exact Or.inr h
  have hS : va_S A s.heap s.heap [] := va_S.rf
  have hl := lv_entry ([.ref (a 0), .int x1]) (n := 2) (Nat.le_of_ble_eq_true rfl)
  refine W.eq (g2 := F0 m 0 ((lg_sl ([.ref (a 0), .int x1]) ++ List.replicate (2 - (lg_sl ([.ref (a 0), .int x1])).length) Slot.unset).toArray) []) (by rw [hargs]; exact lg_entry_eq m _ 2) ?_
  generalize (lg_sl ([.ref (a 0), .int x1]) ++ List.replicate (2 - (lg_sl ([.ref (a 0), .int x1])).length) Slot.unset).toArray = ls at hl ⊢
  have hl : lv_has ls 2 [(0, .ref (a 0)), (1, .int x1)] := hl
  suffices hstart : ∀ (H : Heap) (locs : List Loc) (ls : Array Slot), va_P (dC, dI) vwCl (wd_X3 a ca u) H → va_D A (wd_X3 a ca u) → va_S A s.heap H locs → lv_has ls 2 [(0, .ref (a 0)), (1, .int x1)] → W p l e (headSpec wsX3_faultAs rm_X3_faultAs).room s m args below meth c H locs 0 0 Q (F0 m 0 ls []) from hstart _ _ _ hP hD hS hl
  clear hS hP hD hD0
  intro H locs ls hP hD hS hl
  have hin_X3 : ∀ w ∈ wsX30, w ∈ wsX3_faultAs := by decide +kernel
  have lk_0 := hts (.fieldLink RX3 15 "ForgettingLines$Sheet" "held" "Z") (by decide +kernel)
  have lk_1 := hts (.fieldLink RX3 19 "ForgettingLines$Sheet" "lane" "I") (by decide +kernel)
  unfold wp_X3_faultAs at h
  refine lv_aload_n hx hb dX3_faultAs_0 rfl (lv_at hl 0 rfl) ?_
  refine va_get (D := (dC, dI)) (ci := 3) (v := .int (u.1 0)) (C := RX3) (T := TX3) (N := 4) hx hb hts hin_X3 hown hK hP 0 rfl rfl 0 (by decide) lk_0 (fun _ h9 => h9) rfl dX3_faultAs_1 ?_
  refine lv_if_ne (tgt := 10) hx hb dX3_faultAs_4 (by decide) (fun hc_1 => ?_) (fun hc_1 => ?_)
  · replace h := h.1 hc_1
    refine lv_iload_n hx hb dX3_faultAs_10 rfl (lv_at hl 1 rfl) ?_
    refine lv_aload_n hx hb dX3_faultAs_11 rfl (lv_at hl 0 rfl) ?_
    refine va_get (D := (dC, dI)) (ci := 3) (v := .int (u.1 3)) (C := RX3) (T := TX3) (N := 4) hx hb hts hin_X3 hown hK hP 0 rfl rfl 3 (by decide) lk_1 (fun _ h9 => h9) rfl dX3_faultAs_12 ?_
    refine lv_icmp_ne (tgt := 22) hx hb dX3_faultAs_15 (by decide) (fun hc_2 => ?_) (fun hc_2 => ?_)
    · replace h := h.1 hc_2
      refine lv_bipush (v := (-12)) hx hb dX3_faultAs_22 (by decide) ?_
      subst hQ
      exact W.iret (v := (-12)) hx hb hr (fun t ht hW => ⟨⟨_, (), rfl, h, by rw [ht]; exact hP, hD⟩, hS.F ht⟩) hS.2.2 dX3_faultAs_24
    · replace h := h.2 hc_2
      refine lv_iconst (v := 0) hx hb dX3_faultAs_18 (by decide) ?_
      refine lv_goto (tgt := 24) hx hb dX3_faultAs_19 (by decide) ?_
      subst hQ
      exact W.iret (v := 0) hx hb hr (fun t ht hW => ⟨⟨_, (), rfl, h, by rw [ht]; exact hP, hD⟩, hS.F ht⟩) hS.2.2 dX3_faultAs_24
  · replace h := h.2 hc_1
    refine lv_bipush (v := (-11)) hx hb dX3_faultAs_7 (by decide) ?_
    subst hQ
    exact W.iret (v := (-11)) hx hb hr (fun t ht hW => ⟨⟨_, (), rfl, h, by rw [ht]; exact hP, hD⟩, hS.F ht⟩) hS.2.2 dX3_faultAs_9
abbrev rm_X3_put : Room := { frames := 0, cells := 0, slots := 0, locals := 0 }
set_option maxHeartbeats 4000000 in
set_option maxRecDepth 100000 in
theorem c_X3_put (l : Launch) (dC : Nat → ClassId) (dI : Nat → Nat → Nat) (a : Nat → Nat) (ca : Nat → ClassId) (sz : Nat) (u : Ob) (x1 : Int32) (x2 : Int32) (post : Ob → Prop) (h : wp_X3_put u x1 x2 post) : Met l yX3_put wsX3_put rm_X3_put (va_Pc [.ref (a 0), .int x1, .int x2] (fun U => U.heap.size = sz ∧ va_P (dC, dI) vwCl (wd_X3 a ca u) U.heap ∧ va_K (dC, dI) vwCl (ty_X3 ca) U ∧ va_D (fun _ => True) (wd_X3 a ca u))) (va_Qv post (fun (zz : Ob) (t : State) => va_P (dC, dI) vwCl (wd_X3 a ca zz) t.heap ∧ va_D (va_A (wd_X3 a ca u) sz) (wd_X3 a ca zz)) (va_A (wd_X3 a ca u) sz)) 0 0 (va_A (wd_X3 a ca u) sz) := by
  refine fl_ofW (cc := cX3_put) (maxL := 3) (ret := none) (by decide) rfl ?_
  intro p e s m args below meth c s₁ Q B hml hv hQ
  obtain ⟨hargs, hsz, hP, hK, hD0⟩ := hv
  have hx := B.exec
  have hb := B.bytes
  have hr := B.returns
  have hts := atoms_spec (ws := wsX3_put) B.pre
  have hown : s.vm.findClass RX3 = some m.cls := findClass_of_methodNamed B.named
  subst hsz
  have hD := hD0.self (sz := s.heap.size)
  generalize hAe : va_A (wd_X3 a ca u) s.heap.size = A at hD hQ
  have hA : ∀ q : Nat, s.heap.size ≤ q → A q := fun q h => by rw [← hAe]; exact Or.inr h
  have hS : va_S A s.heap s.heap [] := va_S.rf
  have hl := lv_entry ([.ref (a 0), .int x1, .int x2]) (n := 3) (Nat.le_of_ble_eq_true rfl)
  refine W.eq (g2 := F0 m 0 ((lg_sl ([.ref (a 0), .int x1, .int x2]) ++ List.replicate (3 - (lg_sl ([.ref (a 0), .int x1, .int x2])).length) Slot.unset).toArray) []) (by rw [hargs]; exact lg_entry_eq m _ 3) ?_
  generalize (lg_sl ([.ref (a 0), .int x1, .int x2]) ++ List.replicate (3 - (lg_sl ([.ref (a 0), .int x1, .int x2])).length) Slot.unset).toArray = ls at hl ⊢
  have hl : lv_has ls 3 [(0, .ref (a 0)), (1, .int x1), (2, .int x2)] := hl
  suffices hstart : ∀ (H : Heap) (locs : List Loc) (ls : Array Slot), va_P (dC, dI) vwCl (wd_X3 a ca u) H → va_D A (wd_X3 a ca u) → va_S A s.heap H locs → lv_has ls 3 [(0, .ref (a 0)), (1, .int x1), (2, .int x2)] → W p l e (headSpec wsX3_put rm_X3_put).room s m args below meth c H locs 0 0 Q (F0 m 0 ls []) from hstart _ _ _ hP hD hS hl
  clear hS hP hD hD0
  intro H locs ls hP hD hS hl
  have hin_X3 : ∀ w ∈ wsX30, w ∈ wsX3_put := by decide +kernel
  have lk_0 := hts (.fieldLink RX3 9 "ForgettingLines$Sheet" "items" "[I") (by decide +kernel)
  have lk_1 := hts (.fieldLink RX3 19 "ForgettingLines$Sheet" "lane" "I") (by decide +kernel)
  unfold wp_X3_put at h
  refine lv_aload_n hx hb dX3_put_0 rfl (lv_at hl 0 rfl) ?_
  refine va_get (D := (dC, dI)) (ci := 3) (v := .ref (a 3)) (C := RX3) (T := TX3) (N := 4) hx hb hts hin_X3 hown hK hP 0 rfl rfl 2 (by decide) lk_0 (fun _ h9 => h9) rfl dX3_put_1 ?_
  refine lv_iload_n hx hb dX3_put_4 rfl (lv_at hl 1 rfl) ?_
  refine lv_aload_n hx hb dX3_put_5 rfl (lv_at hl 0 rfl) ?_
  refine va_get (D := (dC, dI)) (ci := 3) (v := .int (u.1 3)) (C := RX3) (T := TX3) (N := 4) hx hb hts hin_X3 hown hK hP 0 rfl rfl 3 (by decide) lk_1 (fun _ h9 => h9) rfl dX3_put_6 ?_
  refine jn1_ind (GG := (fun (w_2 : Int32) => ∀ (H : Heap) (locs : List Loc) (ls : Array Slot), va_P (dC, dI) vwCl (wd_X3 a ca u) H → va_D A (wd_X3 a ca u) → va_S A s.heap H locs → lv_has ls 3 [] → W p l e (headSpec wsX3_put rm_X3_put).room s m args below meth c H locs 0 0 Q (F0 m 18 ls [.int w_2, .int x1, .ref (a 3)]))) h (fun w_2 h H locs ls hP hD hS hl => ?_) (fun JJ_1 ih_JJ_1 h => ?_)
  · obtain ⟨hi_3, h⟩ := h
    refine va_iast (D := (dC, dI)) (cl := vwCl) (i := x1) hx hb hK hP hD hS 1 0 rfl rfl hi_3 dX3_put_18 (fun H locs hP hD hS => ?_)
    obtain ⟨u_4, eu_4⟩ : ∃ z : Ob, z = fs_a u 2 (upd (u.2.1 2) x1.toNatClampNeg w_2) := ⟨_, rfl⟩
    replace h := h u_4 eu_4
    replace hP : va_P (dC, dI) vwCl (wd_X3 a ca u_4) H := by rw [eu_4]; exact hP
    replace hD : va_D A (wd_X3 a ca u_4) := by rw [eu_4]; exact hD
    subst hQ
    exact W.vret hx hb hr (fun t ht hW => ⟨⟨u_4, rfl, h, by rw [ht]; exact hP, hD⟩, hS.F ht⟩) hS.2.2 dX3_put_19
  · refine lv_if_ne (tgt := 17) hx hb dX3_put_9 (by decide) (fun hc_5 => ?_) (fun hc_5 => ?_)
    · replace h := h.1 hc_5
      refine lv_iload_n hx hb dX3_put_17 rfl (lv_at hl 2 rfl) ?_
      exact ih_JJ_1 _ h _ _ _ hP hD hS (lv_sub hl [] rfl)
    · replace h := h.2 hc_5
      refine lv_iload_n hx hb dX3_put_12 rfl (lv_at hl 2 rfl) ?_
      refine lv_i2b (v := (Int8.toInt32 (Int32.toInt8 x2))) hx hb dX3_put_13 rfl ?_
      refine lv_goto (tgt := 18) hx hb dX3_put_14 (by decide) ?_
      exact ih_JJ_1 _ h _ _ _ hP hD hS (lv_sub hl [] rfl)
abbrev rm_X4_byteOf : Room := { frames := 0, cells := 0, slots := 0, locals := 0 }
set_option maxHeartbeats 4000000 in
set_option maxRecDepth 100000 in
theorem c_X4_byteOf (l : Launch) (sz : Nat) (x1 : Int64) (x2 : Int32) (post : Int32 → Prop) (h : wp_X4_byteOf x1 x2 post) : Met l yX4_byteOf wsX4_byteOf rm_X4_byteOf (va_Pc [.long x1, .int x2] (fun U => U.heap.size = sz)) (va_Qi (fun (rr : Int32) (_ : Unit) => post rr) (fun (_ : Unit) (_ : State) => True) (va_A [] sz)) 0 0 (va_A [] sz) := by
  refine fl_ofW (cc := cX4_byteOf) (maxL := 3) (ret := (some .int)) (by decide) rfl ?_
  intro p e s m args below meth c s₁ Q B hml hv hQ
  obtain ⟨hargs, hsz⟩ := hv
  have hx := B.exec
  have hb := B.bytes
  have hr := B.returns
  have hts := atoms_spec (ws := wsX4_byteOf) B.pre
  have hown : s.vm.findClass RX4 = some m.cls := findClass_of_methodNamed B.named
  subst hsz
  generalize hAe : va_A [] s.heap.size = A at hQ
  have hA : ∀ q : Nat, s.heap.size ≤ q → A q := fun q h => by rw [← hAe]; exact Or.inr h
  have hS : va_S A s.heap s.heap [] := va_S.rf
  have hl := lv_entry ([.long x1, .int x2]) (n := 3) (Nat.le_of_ble_eq_true rfl)
  refine W.eq (g2 := F0 m 0 ((lg_sl ([.long x1, .int x2]) ++ List.replicate (3 - (lg_sl ([.long x1, .int x2])).length) Slot.unset).toArray) []) (by rw [hargs]; exact lg_entry_eq m _ 3) ?_
  generalize (lg_sl ([.long x1, .int x2]) ++ List.replicate (3 - (lg_sl ([.long x1, .int x2])).length) Slot.unset).toArray = ls at hl ⊢
  have hl : lv_has ls 3 [(0, .long x1), (2, .int x2)] := hl
  suffices hstart : ∀ (H : Heap) (locs : List Loc) (ls : Array Slot), va_S A s.heap H locs → lv_has ls 3 [(0, .long x1), (2, .int x2)] → W p l e (headSpec wsX4_byteOf rm_X4_byteOf).room s m args below meth c H locs 0 0 Q (F0 m 0 ls []) from hstart _ _ _ hS hl
  clear hS
  intro H locs ls hS hl
  unfold wp_X4_byteOf at h
  refine lv_lload_n hx hb dX4_byteOf_0 rfl (lv_at hl 0 rfl) ?_
  refine lv_bipush (v := 8) hx hb dX4_byteOf_1 (by decide) ?_
  refine lv_iload_n hx hb dX4_byteOf_3 rfl (lv_at hl 1 rfl) ?_
  refine lv_imul hx hb dX4_byteOf_4 ?_
  refine lv_lushr (v := (j_lushr x1 (8 * x2))) hx hb dX4_byteOf_5 rfl ?_
  refine lv_l2i (v := (Int64.toInt32 (j_lushr x1 (8 * x2)))) hx hb dX4_byteOf_6 rfl ?_
  refine lv_sipush (v := 255) hx hb dX4_byteOf_7 (by decide) ?_
  refine lv_iand hx hb dX4_byteOf_10 ?_
  subst hQ
  exact W.iret (v := ((Int64.toInt32 (j_lushr x1 (8 * x2))) &&& 255)) hx hb hr (fun t ht hW => ⟨⟨_, (), rfl, h, trivial⟩, hS.F ht⟩) hS.2.2 dX4_byteOf_11
abbrev rm_X4_canHave : Room := { frames := 1, cells := 0, slots := 0, locals := 22 }
set_option maxHeartbeats 4000000 in
set_option maxRecDepth 100000 in
theorem c_X4_canHave (l : Launch) (sz : Nat) (x1 : Int64) (x2 : Int32) (post : Int32 → Prop) (h : wp_X4_canHave x1 x2 post) : Met l yX4_canHave wsX4_canHave rm_X4_canHave (va_Pc [.long x1, .int x2] (fun U => U.heap.size = sz)) (va_Qi (fun (rr : Int32) (_ : Unit) => post rr) (fun (_ : Unit) (_ : State) => True) (va_A [] sz)) 0 0 (va_A [] sz) := by
  refine fl_ofW (cc := cX4_canHave) (maxL := 5) (ret := (some .boolean)) (by decide) rfl ?_
  intro p e s m args below meth c s₁ Q B hml hv hQ
  obtain ⟨hargs, hsz⟩ := hv
  have hx := B.exec
  have hb := B.bytes
  have hr := B.returns
  have hts := atoms_spec (ws := wsX4_canHave) B.pre
  have hown : s.vm.findClass RX4 = some m.cls := findClass_of_methodNamed B.named
  subst hsz
  generalize hAe : va_A [] s.heap.size = A at hQ
  have hA : ∀ q : Nat, s.heap.size ≤ q → A q := fun q h => by rw [← hAe]; exact Or.inr h
  have hS : va_S A s.heap s.heap [] := va_S.rf
  have hl := lv_entry ([.long x1, .int x2]) (n := 5) (Nat.le_of_ble_eq_true rfl)
  refine W.eq (g2 := F0 m 0 ((lg_sl ([.long x1, .int x2]) ++ List.replicate (5 - (lg_sl ([.long x1, .int x2])).length) Slot.unset).toArray) []) (by rw [hargs]; exact lg_entry_eq m _ 5) ?_
  generalize (lg_sl ([.long x1, .int x2]) ++ List.replicate (5 - (lg_sl ([.long x1, .int x2])).length) Slot.unset).toArray = ls at hl ⊢
  have hl : lv_has ls 5 [(0, .long x1), (2, .int x2)] := hl
  suffices hstart : ∀ (H : Heap) (locs : List Loc) (ls : Array Slot), va_S A s.heap H locs → lv_has ls 5 [(0, .long x1), (2, .int x2)] → W p l e (headSpec wsX4_canHave rm_X4_canHave).room s m args below meth c H locs 0 0 Q (F0 m 0 ls []) from hstart _ _ _ hS hl
  clear hS
  intro H locs ls hS hl
  unfold wp_X4_canHave at h
  refine lv_iconst (v := 0) hx hb dX4_canHave_0 (by decide) ?_
  refine lv_istore_n (lv' := [(3, .int 0), (0, .long x1), (2, .int x2)]) hx hb dX4_canHave_1 rfl hl (by decide) rfl (fun ls hl => ?_)
  obtain ⟨n_7, h⟩ := h
  refine lq1_ind (GG := (fun (v3_2 : Int32) => ∀ (H : Heap) (locs : List Loc) (ls : Array Slot), va_S A s.heap H locs → lv_has ls 5 [(3, .int v3_2), (0, .long x1), (2, .int x2)] → W p l e (headSpec wsX4_canHave rm_X4_canHave).room s m args below meth c H locs 0 0 Q (F0 m 2 ls []))) (fun LL_1 ih_LL_1 v3_2 h H locs ls hS hl => ?_) n_7 _ h _ _ _ hS (lv_sub hl [0, 1, 2] rfl)
  refine lv_iload_n hx hb dX4_canHave_2 rfl (lv_at hl 0 rfl) ?_
  refine lv_iload_n hx hb dX4_canHave_3 rfl (lv_at hl 2 rfl) ?_
  refine lv_icmp_ge (tgt := 36) hx hb dX4_canHave_4 (by decide) (fun hc_3 => ?_) (fun hc_3 => ?_)
  · replace h := h.1 hc_3
    refine lv_iconst (v := 1) hx hb dX4_canHave_36 (by decide) ?_
    subst hQ
    exact W.zret (v := 1) hx hb hr (by rfl) (fun t ht hW => ⟨⟨_, (), rfl, h, trivial⟩, hS.F ht⟩) hS.2.2 dX4_canHave_37
  · replace h := h.2 hc_3
    refine lv_lload_n hx hb dX4_canHave_7 rfl (lv_at hl 1 rfl) ?_
    refine lv_iload_n hx hb dX4_canHave_8 rfl (lv_at hl 0 rfl) ?_
    have hFc := fl_freeN hS hA
    refine va_calli (va_runS (As := [.long x1, .int v3_2]) (rest := []) ⟨hx, hb, hml, hown, hts⟩ (c_X4_byteOf l H.size x1 v3_2 _ h) (va_cwS 2 hts gX4_canHave_X4_byteOf rfl rfl rfl (by decide +kernel) ⟨Nat.le_of_ble_eq_true rfl, Nat.le_of_ble_eq_true rfl⟩) ⟨fun a U g mk q => by obtain ⟨q0, q1⟩ := q; exact ⟨q0, q1⟩, fun U hU hW => ⟨rfl, congrArg Array.size hU⟩⟩ rfl rfl hl.1 rfl (lv_room (Nat.le_of_ble_eq_true rfl)) dX4_canHave_9 ⟨Nat.zero_le _, Nat.zero_le _⟩) hS (fun q _ h => hFc q h) hFc (fun r_4 zz t H1 locs ht hvm hw hB hz1 hk1 hS => ?_)
    replace h := hw
    generalize H1 = H at hS ⊢
    refine lv_istore (lv' := [(4, .int r_4), (3, .int v3_2), (0, .long x1), (2, .int x2)]) hx hb dX4_canHave_12 hl (by decide) rfl (fun ls hl => ?_)
    refine lv_iload hx hb dX4_canHave_14 (lv_at hl 0 rfl) ?_
    refine lv_bipush (v := 32) hx hb dX4_canHave_16 (by decide) ?_
    refine lv_icmp_lt (tgt := 28) hx hb dX4_canHave_18 (by decide) (fun hc_5 => ?_) (fun hc_5 => ?_)
    · replace h := h.1 hc_5
      refine lv_iconst (v := 0) hx hb dX4_canHave_28 (by decide) ?_
      subst hQ
      exact W.zret (v := 0) hx hb hr (by rfl) (fun t ht hW => ⟨⟨_, (), rfl, h, trivial⟩, hS.F ht⟩) hS.2.2 dX4_canHave_29
    · replace h := h.2 hc_5
      refine lv_iload hx hb dX4_canHave_21 (lv_at hl 0 rfl) ?_
      refine lv_bipush (v := 126) hx hb dX4_canHave_23 (by decide) ?_
      refine lv_icmp_le (tgt := 30) hx hb dX4_canHave_25 (by decide) (fun hc_6 => ?_) (fun hc_6 => ?_)
      · replace h := h.1 hc_6
        refine lv_iinc (v := (v3_2 + 1)) (lv' := [(3, .int (v3_2 + 1)), (4, .int r_4), (0, .long x1), (2, .int x2)]) hx hb dX4_canHave_30 hl (k := 1) rfl rfl (by decide) rfl (fun ls hl => ?_)
        refine lv_goto (tgt := 2) hx hb dX4_canHave_33 (by decide) ?_
        exact ih_LL_1 _ h _ _ _ hS (lv_sub hl [0, 2, 3] rfl)
      · replace h := h.2 hc_6
        refine lv_iconst (v := 0) hx hb dX4_canHave_28 (by decide) ?_
        subst hQ
        exact W.zret (v := 0) hx hb hr (by rfl) (fun t ht hW => ⟨⟨_, (), rfl, h, trivial⟩, hS.F ht⟩) hS.2.2 dX4_canHave_29
abbrev rm_X4_add : Room := { frames := 1, cells := 0, slots := 0, locals := 22 }
set_option maxHeartbeats 4000000 in
set_option maxRecDepth 100000 in
theorem c_X4_add (l : Launch) (dC : Nat → ClassId) (dI : Nat → Nat → Nat) (a : Nat → Nat) (ca : Nat → ClassId) (sz : Nat) (u : Ob) (x1 : Int64) (x2 : Int32) (post : Ob → Prop) (h : wp_X4_add u x1 x2 post) : Met l yX4_add wsX4_add rm_X4_add (va_Pc [.ref (a 0), .long x1, .int x2] (fun U => U.heap.size = sz ∧ va_P (dC, dI) vwCl (wd_X4 a ca u) U.heap ∧ va_K (dC, dI) vwCl (ty_X4 ca) U ∧ va_D (fun _ => True) (wd_X4 a ca u))) (va_Qv post (fun (zz : Ob) (t : State) => va_P (dC, dI) vwCl (wd_X4 a ca zz) t.heap ∧ va_D (va_A (wd_X4 a ca u) sz) (wd_X4 a ca zz)) (va_A (wd_X4 a ca u) sz)) 0 0 (va_A (wd_X4 a ca u) sz) := by
  refine fl_ofW (cc := cX4_add) (maxL := 5) (ret := none) (by decide) rfl ?_
  intro p e s m args below meth c s₁ Q B hml hv hQ
  obtain ⟨hargs, hsz, hP, hK, hD0⟩ := hv
  have hx := B.exec
  have hb := B.bytes
  have hr := B.returns
  have hts := atoms_spec (ws := wsX4_add) B.pre
  have hown : s.vm.findClass RX4 = some m.cls := findClass_of_methodNamed B.named
  subst hsz
  have hD := hD0.self (sz := s.heap.size)
  generalize hAe : va_A (wd_X4 a ca u) s.heap.size = A at hD hQ
  have hA : ∀ q : Nat, s.heap.size ≤ q → A q := fun q h => by rw [← hAe]; exact Or.inr h
  have hS : va_S A s.heap s.heap [] := va_S.rf
  have hl := lv_entry ([.ref (a 0), .long x1, .int x2]) (n := 5) (Nat.le_of_ble_eq_true rfl)
  refine W.eq (g2 := F0 m 0 ((lg_sl ([.ref (a 0), .long x1, .int x2]) ++ List.replicate (5 - (lg_sl ([.ref (a 0), .long x1, .int x2])).length) Slot.unset).toArray) []) (by rw [hargs]; exact lg_entry_eq m _ 5) ?_
  generalize (lg_sl ([.ref (a 0), .long x1, .int x2]) ++ List.replicate (5 - (lg_sl ([.ref (a 0), .long x1, .int x2])).length) Slot.unset).toArray = ls at hl ⊢
  have hl : lv_has ls 5 [(0, .ref (a 0)), (1, .long x1), (3, .int x2)] := hl
  suffices hstart : ∀ (H : Heap) (locs : List Loc) (ls : Array Slot), va_P (dC, dI) vwCl (wd_X4 a ca u) H → va_D A (wd_X4 a ca u) → va_S A s.heap H locs → lv_has ls 5 [(0, .ref (a 0)), (1, .long x1), (3, .int x2)] → W p l e (headSpec wsX4_add rm_X4_add).room s m args below meth c H locs 0 0 Q (F0 m 0 ls []) from hstart _ _ _ hP hD hS hl
  clear hS hP hD hD0
  intro H locs ls hP hD hS hl
  have hin_X4 : ∀ w ∈ wsX40, w ∈ wsX4_add := by decide +kernel
  have lk_0 := hts (.fieldLink RX4 15 "ForgettingLines$Tape" "bytes" "[B") (by decide +kernel)
  have lk_1 := hts (.fieldLink RX4 23 "ForgettingLines$Tape" "size" "I") (by decide +kernel)
  unfold wp_X4_add at h
  refine lv_iload_n hx hb dX4_add_0 rfl (lv_at hl 2 rfl) ?_
  refine lv_iconst (v := 1) hx hb dX4_add_1 (by decide) ?_
  refine lv_isub hx hb dX4_add_2 ?_
  refine lv_istore (lv' := [(4, .int (x2 - 1)), (0, .ref (a 0)), (1, .long x1), (3, .int x2)]) hx hb dX4_add_3 hl (by decide) rfl (fun ls hl => ?_)
  obtain ⟨n_9, h⟩ := h
  refine lq2_ind (GG := (fun (v4_2 : Int32) (u_3 : Ob) => ∀ (H : Heap) (locs : List Loc) (ls : Array Slot), va_P (dC, dI) vwCl (wd_X4 a ca u_3) H → va_D A (wd_X4 a ca u_3) → va_S A s.heap H locs → lv_has ls 5 [(4, .int v4_2), (0, .ref (a 0)), (1, .long x1)] → W p l e (headSpec wsX4_add rm_X4_add).room s m args below meth c H locs 0 0 Q (F0 m 5 ls []))) (fun LL_1 ih_LL_1 v4_2 u_3 h H locs ls hP hD hS hl => ?_) n_9 _ _ h _ _ _ hP hD hS (lv_sub hl [0, 1, 2] rfl)
  refine lv_iload hx hb dX4_add_5 (lv_at hl 0 rfl) ?_
  refine lv_if_lt (tgt := 42) hx hb dX4_add_7 (by decide) (fun hc_4 => ?_) (fun hc_4 => ?_)
  · replace h := h.1 hc_4
    subst hQ
    exact W.vret hx hb hr (fun t ht hW => ⟨⟨u_3, rfl, h, by rw [ht]; exact hP, hD⟩, hS.F ht⟩) hS.2.2 dX4_add_42
  · replace h := h.2 hc_4
    refine lv_aload_n hx hb dX4_add_10 rfl (lv_at hl 1 rfl) ?_
    refine va_get (D := (dC, dI)) (ci := 4) (v := .ref (a 3)) (C := RX4) (T := TX4) (N := 4) hx hb hts hin_X4 hown hK hP 0 rfl rfl 2 (by decide) lk_0 (fun _ h9 => h9) rfl dX4_add_11 ?_
    refine lv_aload_n hx hb dX4_add_14 rfl (lv_at hl 1 rfl) ?_
    refine va_get (D := (dC, dI)) (ci := 4) (v := .int (u_3.1 0)) (C := RX4) (T := TX4) (N := 4) hx hb hts hin_X4 hown hK hP 0 rfl rfl 0 (by decide) lk_1 (fun _ h9 => h9) rfl dX4_add_15 ?_
    refine lv_lload_n hx hb dX4_add_18 rfl (lv_at hl 2 rfl) ?_
    refine lv_iload hx hb dX4_add_19 (lv_at hl 0 rfl) ?_
    have hFc := fl_freeN hS hA
    refine va_calli (va_runS (As := [.long x1, .int v4_2]) (rest := [.int (u_3.1 0), .ref (a 3)]) ⟨hx, hb, hml, hown, hts⟩ (c_X4_byteOf l H.size x1 v4_2 _ h) (va_cwS 2 hts gX4_add_X4_byteOf rfl rfl rfl (by decide +kernel) ⟨Nat.le_of_ble_eq_true rfl, Nat.le_of_ble_eq_true rfl⟩) ⟨fun a U g mk q => by obtain ⟨q0, q1⟩ := q; exact ⟨q0, q1⟩, fun U hU hW => ⟨rfl, congrArg Array.size hU⟩⟩ rfl rfl hl.1 rfl (lv_room (Nat.le_of_ble_eq_true rfl)) dX4_add_21 ⟨Nat.zero_le _, Nat.zero_le _⟩) hS (fun q _ h => hFc q h) hFc (fun r_5 zz t H1 locs ht hvm hw hB hz1 hk1 hS => ?_)
    replace hP := fl_keep hP hk1
    replace h := hw
    generalize H1 = H at hP hS ⊢
    refine lv_i2b (v := (Int8.toInt32 (Int32.toInt8 r_5))) hx hb dX4_add_24 rfl ?_
    obtain ⟨hi_6, h⟩ := h
    refine va_bast (D := (dC, dI)) (cl := vwCl) (i := (u_3.1 0)) hx hb hK hP hD hS 2 1 rfl rfl hi_6 dX4_add_25 (fun H locs hP hD hS => ?_)
    obtain ⟨u_7, eu_7⟩ : ∃ z : Ob, z = fs_a u_3 2 (upd (u_3.2.1 2) (u_3.1 0).toNatClampNeg (vp_nar .byte (Int8.toInt32 (Int32.toInt8 r_5)))) := ⟨_, rfl⟩
    replace h := h u_7 eu_7
    replace hP : va_P (dC, dI) vwCl (wd_X4 a ca u_7) H := by rw [eu_7]; exact hP
    replace hD : va_D A (wd_X4 a ca u_7) := by rw [eu_7]; exact hD
    refine lv_aload_n hx hb dX4_add_26 rfl (lv_at hl 1 rfl) ?_
    refine lv_dup hx hb dX4_add_27 rfl ?_
    refine va_get (D := (dC, dI)) (ci := 4) (v := .int (u_7.1 0)) (C := RX4) (T := TX4) (N := 4) hx hb hts hin_X4 hown hK hP 0 rfl rfl 0 (by decide) lk_1 (fun _ h9 => h9) rfl dX4_add_28 ?_
    refine lv_iconst (v := 1) hx hb dX4_add_31 (by decide) ?_
    refine lv_iadd hx hb dX4_add_32 ?_
    refine va_put (D := (dC, dI)) (ci := 4) (v := .int ((u_7.1 0) + 1)) (ty := .int) (C := RX4) (T := TX4) (N := 4) hx hb hts hin_X4 tyX4 tyX4_ok nmX4 hown hK hP hD hS 0 rfl rfl 0 (by decide) lk_1 (fun _ h9 => h9) rfl (by decide +kernel) rfl rfl (Nat.le_of_ble_eq_true rfl) dX4_add_33 (fun H locs hP hD hS => ?_)
    obtain ⟨u_8, eu_8⟩ : ∃ z : Ob, z = fs_i u_7 0 ((u_7.1 0) + 1) := ⟨_, rfl⟩
    replace h := h u_8 eu_8
    replace hP : va_P (dC, dI) vwCl (wd_X4 a ca u_8) H := by rw [eu_8]; exact hP
    replace hD : va_D A (wd_X4 a ca u_8) := by rw [eu_8]; exact hD
    refine lv_iinc (v := (v4_2 + (-1))) (lv' := [(4, .int (v4_2 + (-1))), (0, .ref (a 0)), (1, .long x1)]) hx hb dX4_add_36 hl (k := 0) rfl rfl (by decide) rfl (fun ls hl => ?_)
    refine lv_goto (tgt := 5) hx hb dX4_add_39 (by decide) ?_
    exact ih_LL_1 _ _ h _ _ _ hP hD hS (lv_sub hl [0, 1, 2] rfl)
abbrev rm_X4_skipBlanks : Room := { frames := 0, cells := 0, slots := 0, locals := 0 }
set_option maxHeartbeats 4000000 in
set_option maxRecDepth 100000 in
theorem c_X4_skipBlanks (l : Launch) (dC : Nat → ClassId) (dI : Nat → Nat → Nat) (a : Nat → Nat) (ca : Nat → ClassId) (sz : Nat) (u : Ob) (post : Ob → Prop) (h : wp_X4_skipBlanks u post) : Met l yX4_skipBlanks wsX4_skipBlanks rm_X4_skipBlanks (va_Pc [.ref (a 0)] (fun U => U.heap.size = sz ∧ va_P (dC, dI) vwCl (wd_X4 a ca u) U.heap ∧ va_K (dC, dI) vwCl (ty_X4 ca) U ∧ va_D (fun _ => True) (wd_X4 a ca u))) (va_Qv post (fun (zz : Ob) (t : State) => va_P (dC, dI) vwCl (wd_X4 a ca zz) t.heap ∧ va_D (va_A (wd_X4 a ca u) sz) (wd_X4 a ca zz)) (va_A (wd_X4 a ca u) sz)) 0 0 (va_A (wd_X4 a ca u) sz) := by
  refine fl_ofW (cc := cX4_skipBlanks) (maxL := 1) (ret := none) (by decide) rfl ?_
  intro p e s m args below meth c s₁ Q B hml hv hQ
  obtain ⟨hargs, hsz, hP, hK, hD0⟩ := hv
  have hx := B.exec
  have hb := B.bytes
  have hr := B.returns
  have hts := atoms_spec (ws := wsX4_skipBlanks) B.pre
  have hown : s.vm.findClass RX4 = some m.cls := findClass_of_methodNamed B.named
  subst hsz
  have hD := hD0.self (sz := s.heap.size)
  generalize hAe : va_A (wd_X4 a ca u) s.heap.size = A at hD hQ
  have hA : ∀ q : Nat, s.heap.size ≤ q → A q := fun q h => by rw [← hAe]; exact Or.inr h
  have hS : va_S A s.heap s.heap [] := va_S.rf
  have hl := lv_entry ([.ref (a 0)]) (n := 1) (Nat.le_of_ble_eq_true rfl)
  refine W.eq (g2 := F0 m 0 ((lg_sl ([.ref (a 0)]) ++ List.replicate (1 - (lg_sl ([.ref (a 0)])).length) Slot.unset).toArray) []) (by rw [hargs]; exact lg_entry_eq m _ 1) ?_
  generalize (lg_sl ([.ref (a 0)]) ++ List.replicate (1 - (lg_sl ([.ref (a 0)])).length) Slot.unset).toArray = ls at hl ⊢
  have hl : lv_has ls 1 [(0, .ref (a 0))] := hl
  suffices hstart : ∀ (H : Heap) (locs : List Loc) (ls : Array Slot), va_P (dC, dI) vwCl (wd_X4 a ca u) H → va_D A (wd_X4 a ca u) → va_S A s.heap H locs → lv_has ls 1 [(0, .ref (a 0))] → W p l e (headSpec wsX4_skipBlanks rm_X4_skipBlanks).room s m args below meth c H locs 0 0 Q (F0 m 0 ls []) from hstart _ _ _ hP hD hS hl
  clear hS hP hD hD0
  intro H locs ls hP hD hS hl
  have hin_X4 : ∀ w ∈ wsX40, w ∈ wsX4_skipBlanks := by decide +kernel
  have lk_0 := hts (.fieldLink RX4 27 "ForgettingLines$Tape" "at" "I") (by decide +kernel)
  have lk_1 := hts (.fieldLink RX4 23 "ForgettingLines$Tape" "size" "I") (by decide +kernel)
  have lk_2 := hts (.fieldLink RX4 15 "ForgettingLines$Tape" "bytes" "[B") (by decide +kernel)
  unfold wp_X4_skipBlanks at h
  obtain ⟨n_7, h⟩ := h
  refine lq1_ind (GG := (fun (u_2 : Ob) => ∀ (H : Heap) (locs : List Loc) (ls : Array Slot), va_P (dC, dI) vwCl (wd_X4 a ca u_2) H → va_D A (wd_X4 a ca u_2) → va_S A s.heap H locs → lv_has ls 1 [(0, .ref (a 0))] → W p l e (headSpec wsX4_skipBlanks rm_X4_skipBlanks).room s m args below meth c H locs 0 0 Q (F0 m 0 ls []))) (fun LL_1 ih_LL_1 u_2 h H locs ls hP hD hS hl => ?_) n_7 _ h _ _ _ hP hD hS (lv_sub hl [0] rfl)
  refine lv_aload_n hx hb dX4_skipBlanks_0 rfl (lv_at hl 0 rfl) ?_
  refine va_get (D := (dC, dI)) (ci := 4) (v := .int (u_2.1 3)) (C := RX4) (T := TX4) (N := 4) hx hb hts hin_X4 hown hK hP 0 rfl rfl 3 (by decide) lk_0 (fun _ h9 => h9) rfl dX4_skipBlanks_1 ?_
  refine lv_aload_n hx hb dX4_skipBlanks_4 rfl (lv_at hl 0 rfl) ?_
  refine va_get (D := (dC, dI)) (ci := 4) (v := .int (u_2.1 0)) (C := RX4) (T := TX4) (N := 4) hx hb hts hin_X4 hown hK hP 0 rfl rfl 0 (by decide) lk_1 (fun _ h9 => h9) rfl dX4_skipBlanks_5 ?_
  refine lv_icmp_ge (tgt := 38) hx hb dX4_skipBlanks_8 (by decide) (fun hc_3 => ?_) (fun hc_3 => ?_)
  · replace h := h.1 hc_3
    subst hQ
    exact W.vret hx hb hr (fun t ht hW => ⟨⟨u_2, rfl, h, by rw [ht]; exact hP, hD⟩, hS.F ht⟩) hS.2.2 dX4_skipBlanks_38
  · replace h := h.2 hc_3
    refine lv_aload_n hx hb dX4_skipBlanks_11 rfl (lv_at hl 0 rfl) ?_
    refine va_get (D := (dC, dI)) (ci := 4) (v := .ref (a 3)) (C := RX4) (T := TX4) (N := 4) hx hb hts hin_X4 hown hK hP 0 rfl rfl 2 (by decide) lk_2 (fun _ h9 => h9) rfl dX4_skipBlanks_12 ?_
    refine lv_aload_n hx hb dX4_skipBlanks_15 rfl (lv_at hl 0 rfl) ?_
    refine va_get (D := (dC, dI)) (ci := 4) (v := .int (u_2.1 3)) (C := RX4) (T := TX4) (N := 4) hx hb hts hin_X4 hown hK hP 0 rfl rfl 3 (by decide) lk_0 (fun _ h9 => h9) rfl dX4_skipBlanks_16 ?_
    obtain ⟨hi_4, h⟩ := h
    refine va_bald (D := (dC, dI)) (cl := vwCl) (i := (u_2.1 3)) hx hb hK hP 2 1 rfl rfl hi_4 dX4_skipBlanks_19 ?_
    refine lv_bipush (v := 32) hx hb dX4_skipBlanks_20 (by decide) ?_
    refine lv_icmp_ne (tgt := 38) hx hb dX4_skipBlanks_22 (by decide) (fun hc_5 => ?_) (fun hc_5 => ?_)
    · replace h := h.1 hc_5
      subst hQ
      exact W.vret hx hb hr (fun t ht hW => ⟨⟨u_2, rfl, h, by rw [ht]; exact hP, hD⟩, hS.F ht⟩) hS.2.2 dX4_skipBlanks_38
    · replace h := h.2 hc_5
      refine lv_aload_n hx hb dX4_skipBlanks_25 rfl (lv_at hl 0 rfl) ?_
      refine lv_dup hx hb dX4_skipBlanks_26 rfl ?_
      refine va_get (D := (dC, dI)) (ci := 4) (v := .int (u_2.1 3)) (C := RX4) (T := TX4) (N := 4) hx hb hts hin_X4 hown hK hP 0 rfl rfl 3 (by decide) lk_0 (fun _ h9 => h9) rfl dX4_skipBlanks_27 ?_
      refine lv_iconst (v := 1) hx hb dX4_skipBlanks_30 (by decide) ?_
      refine lv_iadd hx hb dX4_skipBlanks_31 ?_
      refine va_put (D := (dC, dI)) (ci := 4) (v := .int ((u_2.1 3) + 1)) (ty := .int) (C := RX4) (T := TX4) (N := 4) hx hb hts hin_X4 tyX4 tyX4_ok nmX4 hown hK hP hD hS 0 rfl rfl 3 (by decide) lk_0 (fun _ h9 => h9) rfl (by decide +kernel) rfl rfl (Nat.le_of_ble_eq_true rfl) dX4_skipBlanks_32 (fun H locs hP hD hS => ?_)
      obtain ⟨u_6, eu_6⟩ : ∃ z : Ob, z = fs_i u_2 3 ((u_2.1 3) + 1) := ⟨_, rfl⟩
      replace h := h u_6 eu_6
      replace hP : va_P (dC, dI) vwCl (wd_X4 a ca u_6) H := by rw [eu_6]; exact hP
      replace hD : va_D A (wd_X4 a ca u_6) := by rw [eu_6]; exact hD
      refine lv_goto (tgt := 0) hx hb dX4_skipBlanks_35 (by decide) ?_
      exact ih_LL_1 _ h _ _ _ hP hD hS (lv_sub hl [0] rfl)
abbrev rm_X4_oneOf : Room := { frames := 1, cells := 0, slots := 0, locals := 21 }
set_option maxHeartbeats 4000000 in
set_option maxRecDepth 100000 in
theorem c_X4_oneOf (l : Launch) (dC : Nat → ClassId) (dI : Nat → Nat → Nat) (a : Nat → Nat) (ca : Nat → ClassId) (sz : Nat) (u : Ob) (x1 : Int32) (x2 : Int32) (post : Int32 → Ob → Prop) (h : wp_X4_oneOf u x1 x2 post) : Met l yX4_oneOf wsX4_oneOf rm_X4_oneOf (va_Pc [.ref (a 0), .int x1, .int x2] (fun U => U.heap.size = sz ∧ va_P (dC, dI) vwCl (wd_X4 a ca u) U.heap ∧ va_K (dC, dI) vwCl (ty_X4 ca) U ∧ va_D (fun _ => True) (wd_X4 a ca u) ∧ nw_ok U)) (va_Qi post (fun (zz : Ob) (t : State) => va_P (dC, dI) vwCl (wd_X4 a ca zz) t.heap ∧ va_D (va_A (wd_X4 a ca u) sz) (wd_X4 a ca zz)) (va_A (wd_X4 a ca u) sz)) 0 0 (va_A (wd_X4 a ca u) sz) := by
  refine fl_ofW (cc := cX4_oneOf) (maxL := 3) (ret := (some .int)) (by decide) rfl ?_
  intro p e s m args below meth c s₁ Q B hml hv hQ
  obtain ⟨hargs, hsz, hP, hK, hD0, hN⟩ := hv
  have hx := B.exec
  have hb := B.bytes
  have hr := B.returns
  have hts := atoms_spec (ws := wsX4_oneOf) B.pre
  have hown : s.vm.findClass RX4 = some m.cls := findClass_of_methodNamed B.named
  subst hsz
  have hD := hD0.self (sz := s.heap.size)
  generalize hAe : va_A (wd_X4 a ca u) s.heap.size = A at hD hQ
  have hA : ∀ q : Nat, s.heap.size ≤ q → A q := fun q h => by rw [← hAe]; exact Or.inr h
  have hS : va_S A s.heap s.heap [] := va_S.rf
  have hl := lv_entry ([.ref (a 0), .int x1, .int x2]) (n := 3) (Nat.le_of_ble_eq_true rfl)
  refine W.eq (g2 := F0 m 0 ((lg_sl ([.ref (a 0), .int x1, .int x2]) ++ List.replicate (3 - (lg_sl ([.ref (a 0), .int x1, .int x2])).length) Slot.unset).toArray) []) (by rw [hargs]; exact lg_entry_eq m _ 3) ?_
  generalize (lg_sl ([.ref (a 0), .int x1, .int x2]) ++ List.replicate (3 - (lg_sl ([.ref (a 0), .int x1, .int x2])).length) Slot.unset).toArray = ls at hl ⊢
  have hl : lv_has ls 3 [(0, .ref (a 0)), (1, .int x1), (2, .int x2)] := hl
  suffices hstart : ∀ (H : Heap) (locs : List Loc) (ls : Array Slot), va_P (dC, dI) vwCl (wd_X4 a ca u) H → va_D A (wd_X4 a ca u) → va_S A s.heap H locs → lv_has ls 3 [(0, .ref (a 0)), (1, .int x1), (2, .int x2)] → W p l e (headSpec wsX4_oneOf rm_X4_oneOf).room s m args below meth c H locs 0 0 Q (F0 m 0 ls []) from hstart _ _ _ hP hD hS hl
  clear hS hP hD hD0
  intro H locs ls hP hD hS hl
  have hin_X4 : ∀ w ∈ wsX40, w ∈ wsX4_oneOf := by decide +kernel
  have lk_0 := hts (.fieldLink RX4 27 "ForgettingLines$Tape" "at" "I") (by decide +kernel)
  have lk_1 := hts (.fieldLink RX4 23 "ForgettingLines$Tape" "size" "I") (by decide +kernel)
  have lk_2 := hts (.fieldLink RX4 15 "ForgettingLines$Tape" "bytes" "[B") (by decide +kernel)
  unfold wp_X4_oneOf at h
  refine lv_aload_n hx hb dX4_oneOf_0 rfl (lv_at hl 0 rfl) ?_
  have hPc := hP
  have hDc := hD
  have hKc := hK
  have hFc := va_free (wc := (wd_X4 a ca u)) hD hS hA [0, 1, 2] rfl
  refine va_callv (va_runV (As := []) (rest := []) ⟨hx, hb, hml, hown, hts⟩ (c_X4_skipBlanks l dC dI a ca H.size u _ h) (cwV 0 hts gX4_oneOf_X4_skipBlanks rfl rfl rfl (by decide +kernel) ⟨Nat.le_of_ble_eq_true rfl, Nat.le_of_ble_eq_true rfl⟩) ⟨fun a U g mk q => by obtain ⟨q0, q1, qP, qK, qD⟩ := q; exact ⟨q0, q1, qP, va_K.moved (u := U) (U := U.calling g mk a) (Vm.Alike.refl U.vm) qK, qD⟩, va_recv hKc hPc (ci := 4) (q0 := 0) rfl rfl, fun U hU hW => ⟨rfl, by rw [hU], by rw [hU]; exact hPc, va_K.moved hW.alike hKc, hDc.weaken (fun _ _ _ _ => trivial)⟩⟩ rfl rfl hl.1 rfl (lv_room (Nat.le_of_ble_eq_true rfl)) dX4_oneOf_1 ⟨Nat.zero_le _, Nat.zero_le _⟩) hS (fun q _ h => hFc q h) hFc (fun zz t H1 locs ht hvm hw hB hz1 hk1 hS => ?_)
  obtain ⟨u_1, rfl⟩ : ∃ z, z = zz := ⟨_, rfl⟩
  replace h := hw
  obtain ⟨hP1, hD1⟩ := hB
  rw [ht] at hP1
  replace hD : va_D A (wd_X4 a ca u_1) := hD1.weaken (fun _ _ _ h9 => hFc _ h9)
  replace hP : va_P (dC, dI) vwCl (wd_X4 a ca u_1) H1 := hP1
  generalize H1 = H at hP hS ⊢
  refine lv_aload_n hx hb dX4_oneOf_4 rfl (lv_at hl 0 rfl) ?_
  refine va_get (D := (dC, dI)) (ci := 4) (v := .int (u_1.1 3)) (C := RX4) (T := TX4) (N := 4) hx hb hts hin_X4 hown hK hP 0 rfl rfl 3 (by decide) lk_0 (fun _ h9 => h9) rfl dX4_oneOf_5 ?_
  refine lv_aload_n hx hb dX4_oneOf_8 rfl (lv_at hl 0 rfl) ?_
  refine va_get (D := (dC, dI)) (ci := 4) (v := .int (u_1.1 0)) (C := RX4) (T := TX4) (N := 4) hx hb hts hin_X4 hown hK hP 0 rfl rfl 0 (by decide) lk_1 (fun _ h9 => h9) rfl dX4_oneOf_9 ?_
  refine lv_icmp_ge (tgt := 33) hx hb dX4_oneOf_12 (by decide) (fun hc_2 => ?_) (fun hc_2 => ?_)
  · replace h := h.1 hc_2
    refine lv_iconst (v := (-1)) hx hb dX4_oneOf_33 (by decide) ?_
    subst hQ
    exact W.iret (v := (-1)) hx hb hr (fun t ht hW => ⟨⟨_, u_1, rfl, h, by rw [ht]; exact hP, hD⟩, hS.F ht⟩) hS.2.2 dX4_oneOf_34
  · replace h := h.2 hc_2
    refine lv_aload_n hx hb dX4_oneOf_15 rfl (lv_at hl 0 rfl) ?_
    refine va_get (D := (dC, dI)) (ci := 4) (v := .ref (a 3)) (C := RX4) (T := TX4) (N := 4) hx hb hts hin_X4 hown hK hP 0 rfl rfl 2 (by decide) lk_2 (fun _ h9 => h9) rfl dX4_oneOf_16 ?_
    refine lv_aload_n hx hb dX4_oneOf_19 rfl (lv_at hl 0 rfl) ?_
    refine va_get (D := (dC, dI)) (ci := 4) (v := .int (u_1.1 3)) (C := RX4) (T := TX4) (N := 4) hx hb hts hin_X4 hown hK hP 0 rfl rfl 3 (by decide) lk_0 (fun _ h9 => h9) rfl dX4_oneOf_20 ?_
    obtain ⟨hi_3, h⟩ := h
    refine va_bald (D := (dC, dI)) (cl := vwCl) (i := (u_1.1 3)) hx hb hK hP 2 1 rfl rfl hi_3 dX4_oneOf_23 ?_
    refine lv_iload_n hx hb dX4_oneOf_24 rfl (lv_at hl 1 rfl) ?_
    refine lv_isub hx hb dX4_oneOf_25 ?_
    refine lv_iload_n hx hb dX4_oneOf_26 rfl (lv_at hl 2 rfl) ?_
    have hFc := fl_freeN hS hA
    refine va_calli (va_runSN (As := [.int ((u_1.2.1 2 (u_1.1 3).toNatClampNeg) - x1), .int x2]) (rest := []) ⟨hx, hb, hml, hown, hts⟩ (c_X7_isAmong l H.size ((u_1.2.1 2 (u_1.1 3).toNatClampNeg) - x1) x2 _ h) ⟨va_cnB 2 hts gX4_oneOf_X7_isAmong_n49 rfl rfl rfl (hN _ (List.mem_of_getElem? (i := 7) rfl)) (hts (.initialized RX7) (by decide +kernel)) (by decide +kernel) ⟨Nat.le_of_ble_eq_true rfl, Nat.le_of_ble_eq_true rfl⟩, hts (.static yX7_isAmong) (by decide +kernel), trivial⟩ ⟨fun a U g mk q => by obtain ⟨q0, q1⟩ := q; exact ⟨q0, q1⟩, fun U hU hW => ⟨rfl, congrArg Array.size hU⟩⟩ rfl rfl hl.1 rfl (lv_room (Nat.le_of_ble_eq_true rfl)) dX4_oneOf_27 ⟨Nat.zero_le _, Nat.zero_le _⟩) hS (fun q _ h => hFc q h) hFc (fun r_4 zz t H1 locs ht hvm hw hB hz1 hk1 hS => ?_)
    replace hP := fl_keep hP hk1
    replace h := hw
    generalize H1 = H at hP hS ⊢
    refine lv_if_ne (tgt := 35) hx hb dX4_oneOf_30 (by decide) (fun hc_5 => ?_) (fun hc_5 => ?_)
    · replace h := h.1 hc_5
      refine lv_aload_n hx hb dX4_oneOf_35 rfl (lv_at hl 0 rfl) ?_
      refine lv_dup hx hb dX4_oneOf_36 rfl ?_
      refine va_get (D := (dC, dI)) (ci := 4) (v := .int (u_1.1 3)) (C := RX4) (T := TX4) (N := 4) hx hb hts hin_X4 hown hK hP 0 rfl rfl 3 (by decide) lk_0 (fun _ h9 => h9) rfl dX4_oneOf_37 ?_
      refine lv_iconst (v := 1) hx hb dX4_oneOf_40 (by decide) ?_
      refine lv_iadd hx hb dX4_oneOf_41 ?_
      refine va_put (D := (dC, dI)) (ci := 4) (v := .int ((u_1.1 3) + 1)) (ty := .int) (C := RX4) (T := TX4) (N := 4) hx hb hts hin_X4 tyX4 tyX4_ok nmX4 hown hK hP hD hS 0 rfl rfl 3 (by decide) lk_0 (fun _ h9 => h9) rfl (by decide +kernel) rfl rfl (Nat.le_of_ble_eq_true rfl) dX4_oneOf_42 (fun H locs hP hD hS => ?_)
      obtain ⟨u_6, eu_6⟩ : ∃ z : Ob, z = fs_i u_1 3 ((u_1.1 3) + 1) := ⟨_, rfl⟩
      replace h := h u_6 eu_6
      replace hP : va_P (dC, dI) vwCl (wd_X4 a ca u_6) H := by rw [eu_6]; exact hP
      replace hD : va_D A (wd_X4 a ca u_6) := by rw [eu_6]; exact hD
      refine lv_aload_n hx hb dX4_oneOf_45 rfl (lv_at hl 0 rfl) ?_
      refine va_get (D := (dC, dI)) (ci := 4) (v := .ref (a 3)) (C := RX4) (T := TX4) (N := 4) hx hb hts hin_X4 hown hK hP 0 rfl rfl 2 (by decide) lk_2 (fun _ h9 => h9) rfl dX4_oneOf_46 ?_
      refine lv_aload_n hx hb dX4_oneOf_49 rfl (lv_at hl 0 rfl) ?_
      refine va_get (D := (dC, dI)) (ci := 4) (v := .int (u_6.1 3)) (C := RX4) (T := TX4) (N := 4) hx hb hts hin_X4 hown hK hP 0 rfl rfl 3 (by decide) lk_0 (fun _ h9 => h9) rfl dX4_oneOf_50 ?_
      refine lv_iconst (v := 1) hx hb dX4_oneOf_53 (by decide) ?_
      refine lv_isub hx hb dX4_oneOf_54 ?_
      obtain ⟨hi_7, h⟩ := h
      refine va_bald (D := (dC, dI)) (cl := vwCl) (i := ((u_6.1 3) - 1)) hx hb hK hP 2 1 rfl rfl hi_7 dX4_oneOf_55 ?_
      refine lv_iload_n hx hb dX4_oneOf_56 rfl (lv_at hl 1 rfl) ?_
      refine lv_isub hx hb dX4_oneOf_57 ?_
      subst hQ
      exact W.iret (v := ((u_6.2.1 2 ((u_6.1 3) - 1).toNatClampNeg) - x1)) hx hb hr (fun t ht hW => ⟨⟨_, u_6, rfl, h, by rw [ht]; exact hP, hD⟩, hS.F ht⟩) hS.2.2 dX4_oneOf_58
    · replace h := h.2 hc_5
      refine lv_iconst (v := (-1)) hx hb dX4_oneOf_33 (by decide) ?_
      subst hQ
      exact W.iret (v := (-1)) hx hb hr (fun t ht hW => ⟨⟨_, u_1, rfl, h, by rw [ht]; exact hP, hD⟩, hS.F ht⟩) hS.2.2 dX4_oneOf_34
abbrev rm_X4_parseAct : Room := { frames := 2, cells := 0, slots := 0, locals := 43 }
set_option maxHeartbeats 4000000 in
set_option maxRecDepth 100000 in
theorem c_X4_parseAct (l : Launch) (dC : Nat → ClassId) (dI : Nat → Nat → Nat) (a : Nat → Nat) (ca : Nat → ClassId) (sz : Nat) (u : Ob) (post : Int32 → Ob → Prop) (h : wp_X4_parseAct u post) : Met l yX4_parseAct wsX4_parseAct rm_X4_parseAct (va_Pc [.ref (a 0)] (fun U => U.heap.size = sz ∧ va_P (dC, dI) vwCl (wd_X4 a ca u) U.heap ∧ va_K (dC, dI) vwCl (ty_X4 ca) U ∧ va_D (fun _ => True) (wd_X4 a ca u) ∧ nw_ok U)) (va_Qi post (fun (zz : Ob) (t : State) => va_P (dC, dI) vwCl (wd_X4 a ca zz) t.heap ∧ va_D (va_A (wd_X4 a ca u) sz) (wd_X4 a ca zz)) (va_A (wd_X4 a ca u) sz)) 0 0 (va_A (wd_X4 a ca u) sz) := by
  refine fl_ofW (cc := cX4_parseAct) (maxL := 1) (ret := (some .int)) (by decide) rfl ?_
  intro p e s m args below meth c s₁ Q B hml hv hQ
  obtain ⟨hargs, hsz, hP, hK, hD0, hN⟩ := hv
  have hx := B.exec
  have hb := B.bytes
  have hr := B.returns
  have hts := atoms_spec (ws := wsX4_parseAct) B.pre
  have hown : s.vm.findClass RX4 = some m.cls := findClass_of_methodNamed B.named
  subst hsz
  have hD := hD0.self (sz := s.heap.size)
  generalize hAe : va_A (wd_X4 a ca u) s.heap.size = A at hD hQ
  have hA : ∀ q : Nat, s.heap.size ≤ q → A q := fun q h => by rw [← hAe]; exact Or.inr h
  have hS : va_S A s.heap s.heap [] := va_S.rf
  have hl := lv_entry ([.ref (a 0)]) (n := 1) (Nat.le_of_ble_eq_true rfl)
  refine W.eq (g2 := F0 m 0 ((lg_sl ([.ref (a 0)]) ++ List.replicate (1 - (lg_sl ([.ref (a 0)])).length) Slot.unset).toArray) []) (by rw [hargs]; exact lg_entry_eq m _ 1) ?_
  generalize (lg_sl ([.ref (a 0)]) ++ List.replicate (1 - (lg_sl ([.ref (a 0)])).length) Slot.unset).toArray = ls at hl ⊢
  have hl : lv_has ls 1 [(0, .ref (a 0))] := hl
  suffices hstart : ∀ (H : Heap) (locs : List Loc) (ls : Array Slot), va_P (dC, dI) vwCl (wd_X4 a ca u) H → va_D A (wd_X4 a ca u) → va_S A s.heap H locs → lv_has ls 1 [(0, .ref (a 0))] → W p l e (headSpec wsX4_parseAct rm_X4_parseAct).room s m args below meth c H locs 0 0 Q (F0 m 0 ls []) from hstart _ _ _ hP hD hS hl
  clear hS hP hD hD0
  intro H locs ls hP hD hS hl
  unfold wp_X4_parseAct at h
  refine lv_aload_n hx hb dX4_parseAct_0 rfl (lv_at hl 0 rfl) ?_
  refine lv_bipush (v := 45) hx hb dX4_parseAct_1 (by decide) ?_
  refine lv_iconst (v := 1) hx hb dX4_parseAct_3 (by decide) ?_
  have hPc := hP
  have hDc := hD
  have hKc := hK
  have hFc := va_free (wc := (wd_X4 a ca u)) hD hS hA [0, 1, 2] rfl
  refine va_calli (va_runV (As := [.int 45, .int 1]) (rest := []) ⟨hx, hb, hml, hown, hts⟩ (c_X4_oneOf l dC dI a ca H.size u 45 1 _ h) (cwV 2 hts gX4_parseAct_X4_oneOf rfl rfl rfl (by decide +kernel) ⟨Nat.le_of_ble_eq_true rfl, Nat.le_of_ble_eq_true rfl⟩) ⟨fun a U g mk q => by obtain ⟨q0, q1, qP, qK, qD, qN⟩ := q; exact ⟨q0, q1, qP, va_K.moved (u := U) (U := U.calling g mk a) (Vm.Alike.refl U.vm) qK, qD, qN.call⟩, va_recv hKc hPc (ci := 4) (q0 := 0) rfl rfl, fun U hU hW => ⟨rfl, by rw [hU], by rw [hU]; exact hPc, va_K.moved hW.alike hKc, hDc.weaken (fun _ _ _ _ => trivial), hN.warm hW⟩⟩ rfl rfl hl.1 rfl (lv_room (Nat.le_of_ble_eq_true rfl)) dX4_parseAct_4 ⟨Nat.zero_le _, Nat.zero_le _⟩) hS (fun q _ h => hFc q h) hFc (fun r_1 zz t H1 locs ht hvm hw hB hz1 hk1 hS => ?_)
  obtain ⟨u_2, rfl⟩ : ∃ z, z = zz := ⟨_, rfl⟩
  replace h := hw
  obtain ⟨hP1, hD1⟩ := hB
  rw [ht] at hP1
  replace hD : va_D A (wd_X4 a ca u_2) := hD1.weaken (fun _ _ _ h9 => hFc _ h9)
  replace hP : va_P (dC, dI) vwCl (wd_X4 a ca u_2) H1 := hP1
  generalize H1 = H at hP hS ⊢
  refine lv_if_ne (tgt := 12) hx hb dX4_parseAct_7 (by decide) (fun hc_3 => ?_) (fun hc_3 => ?_)
  · replace h := h.1 hc_3
    refine lv_aload_n hx hb dX4_parseAct_12 rfl (lv_at hl 0 rfl) ?_
    refine lv_bipush (v := 33) hx hb dX4_parseAct_13 (by decide) ?_
    refine lv_iconst (v := 1) hx hb dX4_parseAct_15 (by decide) ?_
    have hPc := hP
    have hDc := hD
    have hKc := hK
    have hFc := va_free (wc := (wd_X4 a ca u_2)) hD hS hA [0, 1, 2] rfl
    refine va_calli (va_runV (As := [.int 33, .int 1]) (rest := []) ⟨hx, hb, hml, hown, hts⟩ (c_X4_oneOf l dC dI a ca H.size u_2 33 1 _ h) (cwV 2 hts gX4_parseAct_X4_oneOf rfl rfl rfl (by decide +kernel) ⟨Nat.le_of_ble_eq_true rfl, Nat.le_of_ble_eq_true rfl⟩) ⟨fun a U g mk q => by obtain ⟨q0, q1, qP, qK, qD, qN⟩ := q; exact ⟨q0, q1, qP, va_K.moved (u := U) (U := U.calling g mk a) (Vm.Alike.refl U.vm) qK, qD, qN.call⟩, va_recv hKc hPc (ci := 4) (q0 := 0) rfl rfl, fun U hU hW => ⟨rfl, by rw [hU], by rw [hU]; exact hPc, va_K.moved hW.alike hKc, hDc.weaken (fun _ _ _ _ => trivial), hN.warm hW⟩⟩ rfl rfl hl.1 rfl (lv_room (Nat.le_of_ble_eq_true rfl)) dX4_parseAct_16 ⟨Nat.zero_le _, Nat.zero_le _⟩) hS (fun q _ h => hFc q h) hFc (fun r_4 zz t H1 locs ht hvm hw hB hz1 hk1 hS => ?_)
    obtain ⟨u_5, rfl⟩ : ∃ z, z = zz := ⟨_, rfl⟩
    replace h := hw
    obtain ⟨hP1, hD1⟩ := hB
    rw [ht] at hP1
    replace hD : va_D A (wd_X4 a ca u_5) := hD1.weaken (fun _ _ _ h9 => hFc _ h9)
    replace hP : va_P (dC, dI) vwCl (wd_X4 a ca u_5) H1 := hP1
    generalize H1 = H at hP hS ⊢
    refine lv_if_ne (tgt := 24) hx hb dX4_parseAct_19 (by decide) (fun hc_6 => ?_) (fun hc_6 => ?_)
    · replace h := h.1 hc_6
      refine lv_aload_n hx hb dX4_parseAct_24 rfl (lv_at hl 0 rfl) ?_
      refine lv_bipush (v := 63) hx hb dX4_parseAct_25 (by decide) ?_
      refine lv_iconst (v := 1) hx hb dX4_parseAct_27 (by decide) ?_
      have hPc := hP
      have hDc := hD
      have hKc := hK
      have hFc := va_free (wc := (wd_X4 a ca u_5)) hD hS hA [0, 1, 2] rfl
      refine va_calli (va_runV (As := [.int 63, .int 1]) (rest := []) ⟨hx, hb, hml, hown, hts⟩ (c_X4_oneOf l dC dI a ca H.size u_5 63 1 _ h) (cwV 2 hts gX4_parseAct_X4_oneOf rfl rfl rfl (by decide +kernel) ⟨Nat.le_of_ble_eq_true rfl, Nat.le_of_ble_eq_true rfl⟩) ⟨fun a U g mk q => by obtain ⟨q0, q1, qP, qK, qD, qN⟩ := q; exact ⟨q0, q1, qP, va_K.moved (u := U) (U := U.calling g mk a) (Vm.Alike.refl U.vm) qK, qD, qN.call⟩, va_recv hKc hPc (ci := 4) (q0 := 0) rfl rfl, fun U hU hW => ⟨rfl, by rw [hU], by rw [hU]; exact hPc, va_K.moved hW.alike hKc, hDc.weaken (fun _ _ _ _ => trivial), hN.warm hW⟩⟩ rfl rfl hl.1 rfl (lv_room (Nat.le_of_ble_eq_true rfl)) dX4_parseAct_28 ⟨Nat.zero_le _, Nat.zero_le _⟩) hS (fun q _ h => hFc q h) hFc (fun r_7 zz t H1 locs ht hvm hw hB hz1 hk1 hS => ?_)
      obtain ⟨u_8, rfl⟩ : ∃ z, z = zz := ⟨_, rfl⟩
      replace h := hw
      obtain ⟨hP1, hD1⟩ := hB
      rw [ht] at hP1
      replace hD : va_D A (wd_X4 a ca u_8) := hD1.weaken (fun _ _ _ h9 => hFc _ h9)
      replace hP : va_P (dC, dI) vwCl (wd_X4 a ca u_8) H1 := hP1
      generalize H1 = H at hP hS ⊢
      refine lv_if_ne (tgt := 38) hx hb dX4_parseAct_31 (by decide) (fun hc_9 => ?_) (fun hc_9 => ?_)
      · replace h := h.1 hc_9
        refine lv_iconst (v := (-1)) hx hb dX4_parseAct_38 (by decide) ?_
        subst hQ
        exact W.iret (v := (-1)) hx hb hr (fun t ht hW => ⟨⟨_, u_8, rfl, h, by rw [ht]; exact hP, hD⟩, hS.F ht⟩) hS.2.2 dX4_parseAct_39
      · replace h := h.2 hc_9
        refine lv_iconst (v := 2) hx hb dX4_parseAct_34 (by decide) ?_
        refine lv_goto (tgt := 39) hx hb dX4_parseAct_35 (by decide) ?_
        subst hQ
        exact W.iret (v := 2) hx hb hr (fun t ht hW => ⟨⟨_, u_8, rfl, h, by rw [ht]; exact hP, hD⟩, hS.F ht⟩) hS.2.2 dX4_parseAct_39
    · replace h := h.2 hc_6
      refine lv_iconst (v := 1) hx hb dX4_parseAct_22 (by decide) ?_
      subst hQ
      exact W.iret (v := 1) hx hb hr (fun t ht hW => ⟨⟨_, u_5, rfl, h, by rw [ht]; exact hP, hD⟩, hS.F ht⟩) hS.2.2 dX4_parseAct_23
  · replace h := h.2 hc_3
    refine lv_iconst (v := 0) hx hb dX4_parseAct_10 (by decide) ?_
    subst hQ
    exact W.iret (v := 0) hx hb hr (fun t ht hW => ⟨⟨_, u_2, rfl, h, by rw [ht]; exact hP, hD⟩, hS.F ht⟩) hS.2.2 dX4_parseAct_11
abbrev rm_X4_parseLetterAndLine : Room := { frames := 2, cells := 0, slots := 0, locals := 43 }
set_option maxHeartbeats 4000000 in
set_option maxRecDepth 100000 in
theorem c_X4_parseLetterAndLine (l : Launch) (dC : Nat → ClassId) (dI : Nat → Nat → Nat) (a : Nat → Nat) (ca : Nat → ClassId) (sz : Nat) (u : Ob) (x1 : Int32) (post : Int32 → Ob → Prop) (h : wp_X4_parseLetterAndLine u x1 post) : Met l yX4_parseLetterAndLine wsX4_parseLetterAndLine rm_X4_parseLetterAndLine (va_Pc [.ref (a 0), .int x1] (fun U => U.heap.size = sz ∧ va_P (dC, dI) vwCl (wd_X4 a ca u) U.heap ∧ va_K (dC, dI) vwCl (ty_X4 ca) U ∧ va_D (fun _ => True) (wd_X4 a ca u) ∧ nw_ok U)) (va_Qi post (fun (zz : Ob) (t : State) => va_P (dC, dI) vwCl (wd_X4 a ca zz) t.heap ∧ va_D (va_A (wd_X4 a ca u) sz) (wd_X4 a ca zz)) (va_A (wd_X4 a ca u) sz)) 0 0 (va_A (wd_X4 a ca u) sz) := by
  refine fl_ofW (cc := cX4_parseLetterAndLine) (maxL := 2) (ret := (some .boolean)) (by decide) rfl ?_
  intro p e s m args below meth c s₁ Q B hml hv hQ
  obtain ⟨hargs, hsz, hP, hK, hD0, hN⟩ := hv
  have hx := B.exec
  have hb := B.bytes
  have hr := B.returns
  have hts := atoms_spec (ws := wsX4_parseLetterAndLine) B.pre
  have hown : s.vm.findClass RX4 = some m.cls := findClass_of_methodNamed B.named
  subst hsz
  have hD := hD0.self (sz := s.heap.size)
  generalize hAe : va_A (wd_X4 a ca u) s.heap.size = A at hD hQ
  have hA : ∀ q : Nat, s.heap.size ≤ q → A q := fun q h => by rw [← hAe]; exact Or.inr h
  have hS : va_S A s.heap s.heap [] := va_S.rf
  have hl := lv_entry ([.ref (a 0), .int x1]) (n := 2) (Nat.le_of_ble_eq_true rfl)
  refine W.eq (g2 := F0 m 0 ((lg_sl ([.ref (a 0), .int x1]) ++ List.replicate (2 - (lg_sl ([.ref (a 0), .int x1])).length) Slot.unset).toArray) []) (by rw [hargs]; exact lg_entry_eq m _ 2) ?_
  generalize (lg_sl ([.ref (a 0), .int x1]) ++ List.replicate (2 - (lg_sl ([.ref (a 0), .int x1])).length) Slot.unset).toArray = ls at hl ⊢
  have hl : lv_has ls 2 [(0, .ref (a 0)), (1, .int x1)] := hl
  suffices hstart : ∀ (H : Heap) (locs : List Loc) (ls : Array Slot), va_P (dC, dI) vwCl (wd_X4 a ca u) H → va_D A (wd_X4 a ca u) → va_S A s.heap H locs → lv_has ls 2 [(0, .ref (a 0)), (1, .int x1)] → W p l e (headSpec wsX4_parseLetterAndLine rm_X4_parseLetterAndLine).room s m args below meth c H locs 0 0 Q (F0 m 0 ls []) from hstart _ _ _ hP hD hS hl
  clear hS hP hD hD0
  intro H locs ls hP hD hS hl
  have hin_X4 : ∀ w ∈ wsX40, w ∈ wsX4_parseLetterAndLine := by decide +kernel
  have lk_0 := hts (.fieldLink RX4 9 "ForgettingLines$Tape" "rows" "[I") (by decide +kernel)
  unfold wp_X4_parseLetterAndLine at h
  refine lv_aload_n hx hb dX4_parseLetterAndLine_0 rfl (lv_at hl 0 rfl) ?_
  refine va_get (D := (dC, dI)) (ci := 4) (v := .ref (a 2)) (C := RX4) (T := TX4) (N := 4) hx hb hts hin_X4 hown hK hP 0 rfl rfl 1 (by decide) lk_0 (fun _ h9 => h9) rfl dX4_parseLetterAndLine_1 ?_
  refine lv_iload_n hx hb dX4_parseLetterAndLine_4 rfl (lv_at hl 1 rfl) ?_
  refine lv_iconst (v := 3) hx hb dX4_parseLetterAndLine_5 (by decide) ?_
  refine lv_iadd hx hb dX4_parseLetterAndLine_6 ?_
  refine lv_aload_n hx hb dX4_parseLetterAndLine_7 rfl (lv_at hl 0 rfl) ?_
  refine lv_bipush (v := 97) hx hb dX4_parseLetterAndLine_8 (by decide) ?_
  refine lv_iconst (v := 3) hx hb dX4_parseLetterAndLine_10 (by decide) ?_
  have hPc := hP
  have hDc := hD
  have hKc := hK
  have hFc := va_free (wc := (wd_X4 a ca u)) hD hS hA [0, 1, 2] rfl
  refine va_calli (va_runV (As := [.int 97, .int 3]) (rest := [.int (x1 + 3), .ref (a 2)]) ⟨hx, hb, hml, hown, hts⟩ (c_X4_oneOf l dC dI a ca H.size u 97 3 _ h) (cwV 2 hts gX4_parseLetterAndLine_X4_oneOf rfl rfl rfl (by decide +kernel) ⟨Nat.le_of_ble_eq_true rfl, Nat.le_of_ble_eq_true rfl⟩) ⟨fun a U g mk q => by obtain ⟨q0, q1, qP, qK, qD, qN⟩ := q; exact ⟨q0, q1, qP, va_K.moved (u := U) (U := U.calling g mk a) (Vm.Alike.refl U.vm) qK, qD, qN.call⟩, va_recv hKc hPc (ci := 4) (q0 := 0) rfl rfl, fun U hU hW => ⟨rfl, by rw [hU], by rw [hU]; exact hPc, va_K.moved hW.alike hKc, hDc.weaken (fun _ _ _ _ => trivial), hN.warm hW⟩⟩ rfl rfl hl.1 rfl (lv_room (Nat.le_of_ble_eq_true rfl)) dX4_parseLetterAndLine_11 ⟨Nat.zero_le _, Nat.zero_le _⟩) hS (fun q _ h => hFc q h) hFc (fun r_1 zz t H1 locs ht hvm hw hB hz1 hk1 hS => ?_)
  obtain ⟨u_2, rfl⟩ : ∃ z, z = zz := ⟨_, rfl⟩
  replace h := hw
  obtain ⟨hP1, hD1⟩ := hB
  rw [ht] at hP1
  replace hD : va_D A (wd_X4 a ca u_2) := hD1.weaken (fun _ _ _ h9 => hFc _ h9)
  replace hP : va_P (dC, dI) vwCl (wd_X4 a ca u_2) H1 := hP1
  generalize H1 = H at hP hS ⊢
  obtain ⟨hi_3, h⟩ := h
  refine va_iast (D := (dC, dI)) (cl := vwCl) (i := (x1 + 3)) hx hb hK hP hD hS 1 0 rfl rfl hi_3 dX4_parseLetterAndLine_14 (fun H locs hP hD hS => ?_)
  obtain ⟨u_4, eu_4⟩ : ∃ z : Ob, z = fs_a u_2 1 (upd (u_2.2.1 1) (x1 + 3).toNatClampNeg r_1) := ⟨_, rfl⟩
  replace h := h u_4 eu_4
  replace hP : va_P (dC, dI) vwCl (wd_X4 a ca u_4) H := by rw [eu_4]; exact hP
  replace hD : va_D A (wd_X4 a ca u_4) := by rw [eu_4]; exact hD
  refine lv_aload_n hx hb dX4_parseLetterAndLine_15 rfl (lv_at hl 0 rfl) ?_
  refine va_get (D := (dC, dI)) (ci := 4) (v := .ref (a 2)) (C := RX4) (T := TX4) (N := 4) hx hb hts hin_X4 hown hK hP 0 rfl rfl 1 (by decide) lk_0 (fun _ h9 => h9) rfl dX4_parseLetterAndLine_16 ?_
  refine lv_iload_n hx hb dX4_parseLetterAndLine_19 rfl (lv_at hl 1 rfl) ?_
  refine lv_iconst (v := 3) hx hb dX4_parseLetterAndLine_20 (by decide) ?_
  refine lv_iadd hx hb dX4_parseLetterAndLine_21 ?_
  obtain ⟨hi_5, h⟩ := h
  refine va_iald (D := (dC, dI)) (cl := vwCl) (i := (x1 + 3)) hx hb hK hP 1 0 rfl rfl hi_5 dX4_parseLetterAndLine_22 ?_
  refine lv_if_ge (tgt := 28) hx hb dX4_parseLetterAndLine_23 (by decide) (fun hc_6 => ?_) (fun hc_6 => ?_)
  · replace h := h.1 hc_6
    refine lv_aload_n hx hb dX4_parseLetterAndLine_28 rfl (lv_at hl 0 rfl) ?_
    refine va_get (D := (dC, dI)) (ci := 4) (v := .ref (a 2)) (C := RX4) (T := TX4) (N := 4) hx hb hts hin_X4 hown hK hP 0 rfl rfl 1 (by decide) lk_0 (fun _ h9 => h9) rfl dX4_parseLetterAndLine_29 ?_
    refine lv_iload_n hx hb dX4_parseLetterAndLine_32 rfl (lv_at hl 1 rfl) ?_
    refine lv_iconst (v := 2) hx hb dX4_parseLetterAndLine_33 (by decide) ?_
    refine lv_iadd hx hb dX4_parseLetterAndLine_34 ?_
    refine lv_aload_n hx hb dX4_parseLetterAndLine_35 rfl (lv_at hl 0 rfl) ?_
    refine lv_bipush (v := 48) hx hb dX4_parseLetterAndLine_36 (by decide) ?_
    refine lv_iconst (v := 2) hx hb dX4_parseLetterAndLine_38 (by decide) ?_
    have hPc := hP
    have hDc := hD
    have hKc := hK
    have hFc := va_free (wc := (wd_X4 a ca u_4)) hD hS hA [0, 1, 2] rfl
    refine va_calli (va_runV (As := [.int 48, .int 2]) (rest := [.int (x1 + 2), .ref (a 2)]) ⟨hx, hb, hml, hown, hts⟩ (c_X4_oneOf l dC dI a ca H.size u_4 48 2 _ h) (cwV 2 hts gX4_parseLetterAndLine_X4_oneOf rfl rfl rfl (by decide +kernel) ⟨Nat.le_of_ble_eq_true rfl, Nat.le_of_ble_eq_true rfl⟩) ⟨fun a U g mk q => by obtain ⟨q0, q1, qP, qK, qD, qN⟩ := q; exact ⟨q0, q1, qP, va_K.moved (u := U) (U := U.calling g mk a) (Vm.Alike.refl U.vm) qK, qD, qN.call⟩, va_recv hKc hPc (ci := 4) (q0 := 0) rfl rfl, fun U hU hW => ⟨rfl, by rw [hU], by rw [hU]; exact hPc, va_K.moved hW.alike hKc, hDc.weaken (fun _ _ _ _ => trivial), hN.warm hW⟩⟩ rfl rfl hl.1 rfl (lv_room (Nat.le_of_ble_eq_true rfl)) dX4_parseLetterAndLine_39 ⟨Nat.zero_le _, Nat.zero_le _⟩) hS (fun q _ h => hFc q h) hFc (fun r_7 zz t H1 locs ht hvm hw hB hz1 hk1 hS => ?_)
    obtain ⟨u_8, rfl⟩ : ∃ z, z = zz := ⟨_, rfl⟩
    replace h := hw
    obtain ⟨hP1, hD1⟩ := hB
    rw [ht] at hP1
    replace hD : va_D A (wd_X4 a ca u_8) := hD1.weaken (fun _ _ _ h9 => hFc _ h9)
    replace hP : va_P (dC, dI) vwCl (wd_X4 a ca u_8) H1 := hP1
    generalize H1 = H at hP hS ⊢
    obtain ⟨hi_9, h⟩ := h
    refine va_iast (D := (dC, dI)) (cl := vwCl) (i := (x1 + 2)) hx hb hK hP hD hS 1 0 rfl rfl hi_9 dX4_parseLetterAndLine_42 (fun H locs hP hD hS => ?_)
    obtain ⟨u_10, eu_10⟩ : ∃ z : Ob, z = fs_a u_8 1 (upd (u_8.2.1 1) (x1 + 2).toNatClampNeg r_7) := ⟨_, rfl⟩
    replace h := h u_10 eu_10
    replace hP : va_P (dC, dI) vwCl (wd_X4 a ca u_10) H := by rw [eu_10]; exact hP
    replace hD : va_D A (wd_X4 a ca u_10) := by rw [eu_10]; exact hD
    refine lv_aload_n hx hb dX4_parseLetterAndLine_43 rfl (lv_at hl 0 rfl) ?_
    refine va_get (D := (dC, dI)) (ci := 4) (v := .ref (a 2)) (C := RX4) (T := TX4) (N := 4) hx hb hts hin_X4 hown hK hP 0 rfl rfl 1 (by decide) lk_0 (fun _ h9 => h9) rfl dX4_parseLetterAndLine_44 ?_
    refine lv_iload_n hx hb dX4_parseLetterAndLine_47 rfl (lv_at hl 1 rfl) ?_
    refine lv_iconst (v := 2) hx hb dX4_parseLetterAndLine_48 (by decide) ?_
    refine lv_iadd hx hb dX4_parseLetterAndLine_49 ?_
    obtain ⟨hi_11, h⟩ := h
    refine va_iald (D := (dC, dI)) (cl := vwCl) (i := (x1 + 2)) hx hb hK hP 1 0 rfl rfl hi_11 dX4_parseLetterAndLine_50 ?_
    refine lv_if_lt (tgt := 58) hx hb dX4_parseLetterAndLine_51 (by decide) (fun hc_12 => ?_) (fun hc_12 => ?_)
    · replace h := h.1 hc_12
      refine lv_iconst (v := 0) hx hb dX4_parseLetterAndLine_58 (by decide) ?_
      subst hQ
      exact W.zret (v := 0) hx hb hr (by rfl) (fun t ht hW => ⟨⟨_, u_10, rfl, h, by rw [ht]; exact hP, hD⟩, hS.F ht⟩) hS.2.2 dX4_parseLetterAndLine_59
    · replace h := h.2 hc_12
      refine lv_iconst (v := 1) hx hb dX4_parseLetterAndLine_54 (by decide) ?_
      refine lv_goto (tgt := 59) hx hb dX4_parseLetterAndLine_55 (by decide) ?_
      subst hQ
      exact W.zret (v := 1) hx hb hr (by rfl) (fun t ht hW => ⟨⟨_, u_10, rfl, h, by rw [ht]; exact hP, hD⟩, hS.F ht⟩) hS.2.2 dX4_parseLetterAndLine_59
  · replace h := h.2 hc_6
    refine lv_iconst (v := 0) hx hb dX4_parseLetterAndLine_26 (by decide) ?_
    subst hQ
    exact W.zret (v := 0) hx hb hr (by rfl) (fun t ht hW => ⟨⟨_, u_4, rfl, h, by rw [ht]; exact hP, hD⟩, hS.F ht⟩) hS.2.2 dX4_parseLetterAndLine_27
abbrev rm_X4_parseArc : Room := { frames := 3, cells := 0, slots := 0, locals := 64 }
set_option maxHeartbeats 4000000 in
set_option maxRecDepth 100000 in
theorem c_X4_parseArc (l : Launch) (dC : Nat → ClassId) (dI : Nat → Nat → Nat) (a : Nat → Nat) (ca : Nat → ClassId) (sz : Nat) (u : Ob) (x1 : Int32) (x2 : Int32) (post : Int32 → Ob → Prop) (h : wp_X4_parseArc u x1 x2 post) : Met l yX4_parseArc wsX4_parseArc rm_X4_parseArc (va_Pc [.ref (a 0), .int x1, .int x2] (fun U => U.heap.size = sz ∧ va_P (dC, dI) vwCl (wd_X4 a ca u) U.heap ∧ va_K (dC, dI) vwCl (ty_X4 ca) U ∧ va_D (fun _ => True) (wd_X4 a ca u) ∧ nw_ok U)) (va_Qi post (fun (zz : Ob) (t : State) => va_P (dC, dI) vwCl (wd_X4 a ca zz) t.heap ∧ va_D (va_A (wd_X4 a ca u) sz) (wd_X4 a ca zz)) (va_A (wd_X4 a ca u) sz)) 0 0 (va_A (wd_X4 a ca u) sz) := by
  refine fl_ofW (cc := cX4_parseArc) (maxL := 4) (ret := (some .boolean)) (by decide) rfl ?_
  intro p e s m args below meth c s₁ Q B hml hv hQ
  obtain ⟨hargs, hsz, hP, hK, hD0, hN⟩ := hv
  have hx := B.exec
  have hb := B.bytes
  have hr := B.returns
  have hts := atoms_spec (ws := wsX4_parseArc) B.pre
  have hown : s.vm.findClass RX4 = some m.cls := findClass_of_methodNamed B.named
  subst hsz
  have hD := hD0.self (sz := s.heap.size)
  generalize hAe : va_A (wd_X4 a ca u) s.heap.size = A at hD hQ
  have hA : ∀ q : Nat, s.heap.size ≤ q → A q := fun q h => by rw [← hAe]; exact Or.inr h
  have hS : va_S A s.heap s.heap [] := va_S.rf
  have hl := lv_entry ([.ref (a 0), .int x1, .int x2]) (n := 4) (Nat.le_of_ble_eq_true rfl)
  refine W.eq (g2 := F0 m 0 ((lg_sl ([.ref (a 0), .int x1, .int x2]) ++ List.replicate (4 - (lg_sl ([.ref (a 0), .int x1, .int x2])).length) Slot.unset).toArray) []) (by rw [hargs]; exact lg_entry_eq m _ 4) ?_
  generalize (lg_sl ([.ref (a 0), .int x1, .int x2]) ++ List.replicate (4 - (lg_sl ([.ref (a 0), .int x1, .int x2])).length) Slot.unset).toArray = ls at hl ⊢
  have hl : lv_has ls 4 [(0, .ref (a 0)), (1, .int x1), (2, .int x2)] := hl
  suffices hstart : ∀ (H : Heap) (locs : List Loc) (ls : Array Slot), va_P (dC, dI) vwCl (wd_X4 a ca u) H → va_D A (wd_X4 a ca u) → va_S A s.heap H locs → lv_has ls 4 [(0, .ref (a 0)), (1, .int x1), (2, .int x2)] → W p l e (headSpec wsX4_parseArc rm_X4_parseArc).room s m args below meth c H locs 0 0 Q (F0 m 0 ls []) from hstart _ _ _ hP hD hS hl
  clear hS hP hD hD0
  intro H locs ls hP hD hS hl
  have hin_X4 : ∀ w ∈ wsX40, w ∈ wsX4_parseArc := by decide +kernel
  have lk_0 := hts (.fieldLink RX4 9 "ForgettingLines$Tape" "rows" "[I") (by decide +kernel)
  unfold wp_X4_parseArc at h
  refine lv_aload_n hx hb dX4_parseArc_0 rfl (lv_at hl 0 rfl) ?_
  refine va_get (D := (dC, dI)) (ci := 4) (v := .ref (a 2)) (C := RX4) (T := TX4) (N := 4) hx hb hts hin_X4 hown hK hP 0 rfl rfl 1 (by decide) lk_0 (fun _ h9 => h9) rfl dX4_parseArc_1 ?_
  refine lv_iload_n hx hb dX4_parseArc_4 rfl (lv_at hl 1 rfl) ?_
  refine lv_iconst (v := 0) hx hb dX4_parseArc_5 (by decide) ?_
  refine lv_iadd hx hb dX4_parseArc_6 ?_
  refine lv_aload_n hx hb dX4_parseArc_7 rfl (lv_at hl 0 rfl) ?_
  refine lv_bipush (v := 48) hx hb dX4_parseArc_8 (by decide) ?_
  refine lv_iload_n hx hb dX4_parseArc_10 rfl (lv_at hl 2 rfl) ?_
  have hPc := hP
  have hDc := hD
  have hKc := hK
  have hFc := va_free (wc := (wd_X4 a ca u)) hD hS hA [0, 1, 2] rfl
  refine va_calli (va_runV (As := [.int 48, .int x2]) (rest := [.int (x1 + 0), .ref (a 2)]) ⟨hx, hb, hml, hown, hts⟩ (c_X4_oneOf l dC dI a ca H.size u 48 x2 _ h) (cwV 2 hts gX4_parseArc_X4_oneOf rfl rfl rfl (by decide +kernel) ⟨Nat.le_of_ble_eq_true rfl, Nat.le_of_ble_eq_true rfl⟩) ⟨fun a U g mk q => by obtain ⟨q0, q1, qP, qK, qD, qN⟩ := q; exact ⟨q0, q1, qP, va_K.moved (u := U) (U := U.calling g mk a) (Vm.Alike.refl U.vm) qK, qD, qN.call⟩, va_recv hKc hPc (ci := 4) (q0 := 0) rfl rfl, fun U hU hW => ⟨rfl, by rw [hU], by rw [hU]; exact hPc, va_K.moved hW.alike hKc, hDc.weaken (fun _ _ _ _ => trivial), hN.warm hW⟩⟩ rfl rfl hl.1 rfl (lv_room (Nat.le_of_ble_eq_true rfl)) dX4_parseArc_11 ⟨Nat.zero_le _, Nat.zero_le _⟩) hS (fun q _ h => hFc q h) hFc (fun r_1 zz t H1 locs ht hvm hw hB hz1 hk1 hS => ?_)
  obtain ⟨u_2, rfl⟩ : ∃ z, z = zz := ⟨_, rfl⟩
  replace h := hw
  obtain ⟨hP1, hD1⟩ := hB
  rw [ht] at hP1
  replace hD : va_D A (wd_X4 a ca u_2) := hD1.weaken (fun _ _ _ h9 => hFc _ h9)
  replace hP : va_P (dC, dI) vwCl (wd_X4 a ca u_2) H1 := hP1
  generalize H1 = H at hP hS ⊢
  obtain ⟨hi_3, h⟩ := h
  refine va_iast (D := (dC, dI)) (cl := vwCl) (i := (x1 + 0)) hx hb hK hP hD hS 1 0 rfl rfl hi_3 dX4_parseArc_14 (fun H locs hP hD hS => ?_)
  obtain ⟨u_4, eu_4⟩ : ∃ z : Ob, z = fs_a u_2 1 (upd (u_2.2.1 1) (x1 + 0).toNatClampNeg r_1) := ⟨_, rfl⟩
  replace h := h u_4 eu_4
  replace hP : va_P (dC, dI) vwCl (wd_X4 a ca u_4) H := by rw [eu_4]; exact hP
  replace hD : va_D A (wd_X4 a ca u_4) := by rw [eu_4]; exact hD
  refine lv_aload_n hx hb dX4_parseArc_15 rfl (lv_at hl 0 rfl) ?_
  refine va_get (D := (dC, dI)) (ci := 4) (v := .ref (a 2)) (C := RX4) (T := TX4) (N := 4) hx hb hts hin_X4 hown hK hP 0 rfl rfl 1 (by decide) lk_0 (fun _ h9 => h9) rfl dX4_parseArc_16 ?_
  refine lv_iload_n hx hb dX4_parseArc_19 rfl (lv_at hl 1 rfl) ?_
  refine lv_iconst (v := 0) hx hb dX4_parseArc_20 (by decide) ?_
  refine lv_iadd hx hb dX4_parseArc_21 ?_
  obtain ⟨hi_5, h⟩ := h
  refine va_iald (D := (dC, dI)) (cl := vwCl) (i := (x1 + 0)) hx hb hK hP 1 0 rfl rfl hi_5 dX4_parseArc_22 ?_
  refine lv_if_ge (tgt := 28) hx hb dX4_parseArc_23 (by decide) (fun hc_6 => ?_) (fun hc_6 => ?_)
  · replace h := h.1 hc_6
    refine lv_aload_n hx hb dX4_parseArc_28 rfl (lv_at hl 0 rfl) ?_
    have hPc := hP
    have hDc := hD
    have hKc := hK
    have hFc := va_free (wc := (wd_X4 a ca u_4)) hD hS hA [0, 1, 2] rfl
    refine va_calli (va_runV (As := []) (rest := []) ⟨hx, hb, hml, hown, hts⟩ (c_X4_parseAct l dC dI a ca H.size u_4 _ h) (cwV 0 hts gX4_parseArc_X4_parseAct rfl rfl rfl (by decide +kernel) ⟨Nat.le_of_ble_eq_true rfl, Nat.le_of_ble_eq_true rfl⟩) ⟨fun a U g mk q => by obtain ⟨q0, q1, qP, qK, qD, qN⟩ := q; exact ⟨q0, q1, qP, va_K.moved (u := U) (U := U.calling g mk a) (Vm.Alike.refl U.vm) qK, qD, qN.call⟩, va_recv hKc hPc (ci := 4) (q0 := 0) rfl rfl, fun U hU hW => ⟨rfl, by rw [hU], by rw [hU]; exact hPc, va_K.moved hW.alike hKc, hDc.weaken (fun _ _ _ _ => trivial), hN.warm hW⟩⟩ rfl rfl hl.1 rfl (lv_room (Nat.le_of_ble_eq_true rfl)) dX4_parseArc_29 ⟨Nat.zero_le _, Nat.zero_le _⟩) hS (fun q _ h => hFc q h) hFc (fun r_7 zz t H1 locs ht hvm hw hB hz1 hk1 hS => ?_)
    obtain ⟨u_8, rfl⟩ : ∃ z, z = zz := ⟨_, rfl⟩
    replace h := hw
    obtain ⟨hP1, hD1⟩ := hB
    rw [ht] at hP1
    replace hD : va_D A (wd_X4 a ca u_8) := hD1.weaken (fun _ _ _ h9 => hFc _ h9)
    replace hP : va_P (dC, dI) vwCl (wd_X4 a ca u_8) H1 := hP1
    generalize H1 = H at hP hS ⊢
    refine lv_istore_n (lv' := [(3, .int r_7), (0, .ref (a 0)), (1, .int x1), (2, .int x2)]) hx hb dX4_parseArc_32 rfl hl (by decide) rfl (fun ls hl => ?_)
    refine lv_aload_n hx hb dX4_parseArc_33 rfl (lv_at hl 1 rfl) ?_
    refine va_get (D := (dC, dI)) (ci := 4) (v := .ref (a 2)) (C := RX4) (T := TX4) (N := 4) hx hb hts hin_X4 hown hK hP 0 rfl rfl 1 (by decide) lk_0 (fun _ h9 => h9) rfl dX4_parseArc_34 ?_
    refine lv_iload_n hx hb dX4_parseArc_37 rfl (lv_at hl 2 rfl) ?_
    refine lv_iconst (v := 1) hx hb dX4_parseArc_38 (by decide) ?_
    refine lv_iadd hx hb dX4_parseArc_39 ?_
    refine lv_iload_n hx hb dX4_parseArc_40 rfl (lv_at hl 0 rfl) ?_
    obtain ⟨hi_9, h⟩ := h
    refine va_iast (D := (dC, dI)) (cl := vwCl) (i := (x1 + 1)) hx hb hK hP hD hS 1 0 rfl rfl hi_9 dX4_parseArc_41 (fun H locs hP hD hS => ?_)
    obtain ⟨u_10, eu_10⟩ : ∃ z : Ob, z = fs_a u_8 1 (upd (u_8.2.1 1) (x1 + 1).toNatClampNeg r_7) := ⟨_, rfl⟩
    replace h := h u_10 eu_10
    replace hP : va_P (dC, dI) vwCl (wd_X4 a ca u_10) H := by rw [eu_10]; exact hP
    replace hD : va_D A (wd_X4 a ca u_10) := by rw [eu_10]; exact hD
    refine lv_iload_n hx hb dX4_parseArc_42 rfl (lv_at hl 0 rfl) ?_
    refine lv_if_lt (tgt := 58) hx hb dX4_parseArc_43 (by decide) (fun hc_11 => ?_) (fun hc_11 => ?_)
    · replace h := h.1 hc_11
      refine lv_iconst (v := 0) hx hb dX4_parseArc_58 (by decide) ?_
      subst hQ
      exact W.zret (v := 0) hx hb hr (by rfl) (fun t ht hW => ⟨⟨_, u_10, rfl, h, by rw [ht]; exact hP, hD⟩, hS.F ht⟩) hS.2.2 dX4_parseArc_59
    · replace h := h.2 hc_11
      refine lv_iload_n hx hb dX4_parseArc_46 rfl (lv_at hl 0 rfl) ?_
      refine jn1_ind (GG := (fun (u_13 : Ob) => ∀ (H : Heap) (locs : List Loc) (ls : Array Slot), va_P (dC, dI) vwCl (wd_X4 a ca u_13) H → va_D A (wd_X4 a ca u_13) → va_S A s.heap H locs → lv_has ls 4 [(0, .ref (a 0)), (1, .int x1), (2, .int x2)] → W p l e (headSpec wsX4_parseArc rm_X4_parseArc).room s m args below meth c H locs 0 0 Q (F0 m 60 ls []))) h (fun u_13 h H locs ls hP hD hS hl => ?_) (fun JJ_12 ih_JJ_12 h => ?_)
      · refine lv_aload_n hx hb dX4_parseArc_60 rfl (lv_at hl 0 rfl) ?_
        refine va_get (D := (dC, dI)) (ci := 4) (v := .ref (a 2)) (C := RX4) (T := TX4) (N := 4) hx hb hts hin_X4 hown hK hP 0 rfl rfl 1 (by decide) lk_0 (fun _ h9 => h9) rfl dX4_parseArc_61 ?_
        refine lv_iload_n hx hb dX4_parseArc_64 rfl (lv_at hl 1 rfl) ?_
        refine lv_iconst (v := 4) hx hb dX4_parseArc_65 (by decide) ?_
        refine lv_iadd hx hb dX4_parseArc_66 ?_
        refine lv_aload_n hx hb dX4_parseArc_67 rfl (lv_at hl 0 rfl) ?_
        refine lv_bipush (v := 48) hx hb dX4_parseArc_68 (by decide) ?_
        refine lv_iload_n hx hb dX4_parseArc_70 rfl (lv_at hl 2 rfl) ?_
        have hPc := hP
        have hDc := hD
        have hKc := hK
        have hFc := va_free (wc := (wd_X4 a ca u_13)) hD hS hA [0, 1, 2] rfl
        refine va_calli (va_runV (As := [.int 48, .int x2]) (rest := [.int (x1 + 4), .ref (a 2)]) ⟨hx, hb, hml, hown, hts⟩ (c_X4_oneOf l dC dI a ca H.size u_13 48 x2 _ h) (cwV 2 hts gX4_parseArc_X4_oneOf rfl rfl rfl (by decide +kernel) ⟨Nat.le_of_ble_eq_true rfl, Nat.le_of_ble_eq_true rfl⟩) ⟨fun a U g mk q => by obtain ⟨q0, q1, qP, qK, qD, qN⟩ := q; exact ⟨q0, q1, qP, va_K.moved (u := U) (U := U.calling g mk a) (Vm.Alike.refl U.vm) qK, qD, qN.call⟩, va_recv hKc hPc (ci := 4) (q0 := 0) rfl rfl, fun U hU hW => ⟨rfl, by rw [hU], by rw [hU]; exact hPc, va_K.moved hW.alike hKc, hDc.weaken (fun _ _ _ _ => trivial), hN.warm hW⟩⟩ rfl rfl hl.1 rfl (lv_room (Nat.le_of_ble_eq_true rfl)) dX4_parseArc_71 ⟨Nat.zero_le _, Nat.zero_le _⟩) hS (fun q _ h => hFc q h) hFc (fun r_14 zz t H1 locs ht hvm hw hB hz1 hk1 hS => ?_)
        obtain ⟨u_15, rfl⟩ : ∃ z, z = zz := ⟨_, rfl⟩
        replace h := hw
        obtain ⟨hP1, hD1⟩ := hB
        rw [ht] at hP1
        replace hD : va_D A (wd_X4 a ca u_15) := hD1.weaken (fun _ _ _ h9 => hFc _ h9)
        replace hP : va_P (dC, dI) vwCl (wd_X4 a ca u_15) H1 := hP1
        generalize H1 = H at hP hS ⊢
        obtain ⟨hi_16, h⟩ := h
        refine va_iast (D := (dC, dI)) (cl := vwCl) (i := (x1 + 4)) hx hb hK hP hD hS 1 0 rfl rfl hi_16 dX4_parseArc_74 (fun H locs hP hD hS => ?_)
        obtain ⟨u_17, eu_17⟩ : ∃ z : Ob, z = fs_a u_15 1 (upd (u_15.2.1 1) (x1 + 4).toNatClampNeg r_14) := ⟨_, rfl⟩
        replace h := h u_17 eu_17
        replace hP : va_P (dC, dI) vwCl (wd_X4 a ca u_17) H := by rw [eu_17]; exact hP
        replace hD : va_D A (wd_X4 a ca u_17) := by rw [eu_17]; exact hD
        refine lv_aload_n hx hb dX4_parseArc_75 rfl (lv_at hl 0 rfl) ?_
        refine va_get (D := (dC, dI)) (ci := 4) (v := .ref (a 2)) (C := RX4) (T := TX4) (N := 4) hx hb hts hin_X4 hown hK hP 0 rfl rfl 1 (by decide) lk_0 (fun _ h9 => h9) rfl dX4_parseArc_76 ?_
        refine lv_iload_n hx hb dX4_parseArc_79 rfl (lv_at hl 1 rfl) ?_
        refine lv_iconst (v := 4) hx hb dX4_parseArc_80 (by decide) ?_
        refine lv_iadd hx hb dX4_parseArc_81 ?_
        obtain ⟨hi_18, h⟩ := h
        refine va_iald (D := (dC, dI)) (cl := vwCl) (i := (x1 + 4)) hx hb hK hP 1 0 rfl rfl hi_18 dX4_parseArc_82 ?_
        refine lv_if_lt (tgt := 90) hx hb dX4_parseArc_83 (by decide) (fun hc_19 => ?_) (fun hc_19 => ?_)
        · replace h := h.1 hc_19
          refine lv_iconst (v := 0) hx hb dX4_parseArc_90 (by decide) ?_
          subst hQ
          exact W.zret (v := 0) hx hb hr (by rfl) (fun t ht hW => ⟨⟨_, u_17, rfl, h, by rw [ht]; exact hP, hD⟩, hS.F ht⟩) hS.2.2 dX4_parseArc_91
        · replace h := h.2 hc_19
          refine lv_iconst (v := 1) hx hb dX4_parseArc_86 (by decide) ?_
          refine lv_goto (tgt := 91) hx hb dX4_parseArc_87 (by decide) ?_
          subst hQ
          exact W.zret (v := 1) hx hb hr (by rfl) (fun t ht hW => ⟨⟨_, u_17, rfl, h, by rw [ht]; exact hP, hD⟩, hS.F ht⟩) hS.2.2 dX4_parseArc_91
      · refine lv_if_eq (tgt := 60) hx hb dX4_parseArc_47 (by decide) (fun hc_20 => ?_) (fun hc_20 => ?_)
        · replace h := h.1 hc_20
          exact ih_JJ_12 _ h _ _ _ hP hD hS (lv_sub hl [1, 2, 3] rfl)
        · replace h := h.2 hc_20
          refine lv_aload_n hx hb dX4_parseArc_50 rfl (lv_at hl 1 rfl) ?_
          refine lv_iload_n hx hb dX4_parseArc_51 rfl (lv_at hl 2 rfl) ?_
          have hPc := hP
          have hDc := hD
          have hKc := hK
          have hFc := va_free (wc := (wd_X4 a ca u_10)) hD hS hA [0, 1, 2] rfl
          refine va_calli (va_runV (As := [.int x1]) (rest := []) ⟨hx, hb, hml, hown, hts⟩ (c_X4_parseLetterAndLine l dC dI a ca H.size u_10 x1 _ h) (cwV 1 hts gX4_parseArc_X4_parseLetterAndLine rfl rfl rfl (by decide +kernel) ⟨Nat.le_of_ble_eq_true rfl, Nat.le_of_ble_eq_true rfl⟩) ⟨fun a U g mk q => by obtain ⟨q0, q1, qP, qK, qD, qN⟩ := q; exact ⟨q0, q1, qP, va_K.moved (u := U) (U := U.calling g mk a) (Vm.Alike.refl U.vm) qK, qD, qN.call⟩, va_recv hKc hPc (ci := 4) (q0 := 0) rfl rfl, fun U hU hW => ⟨rfl, by rw [hU], by rw [hU]; exact hPc, va_K.moved hW.alike hKc, hDc.weaken (fun _ _ _ _ => trivial), hN.warm hW⟩⟩ rfl rfl hl.1 rfl (lv_room (Nat.le_of_ble_eq_true rfl)) dX4_parseArc_52 ⟨Nat.zero_le _, Nat.zero_le _⟩) hS (fun q _ h => hFc q h) hFc (fun r_21 zz t H1 locs ht hvm hw hB hz1 hk1 hS => ?_)
          obtain ⟨u_22, rfl⟩ : ∃ z, z = zz := ⟨_, rfl⟩
          replace h := hw
          obtain ⟨hP1, hD1⟩ := hB
          rw [ht] at hP1
          replace hD : va_D A (wd_X4 a ca u_22) := hD1.weaken (fun _ _ _ h9 => hFc _ h9)
          replace hP : va_P (dC, dI) vwCl (wd_X4 a ca u_22) H1 := hP1
          generalize H1 = H at hP hS ⊢
          refine lv_if_ne (tgt := 60) hx hb dX4_parseArc_55 (by decide) (fun hc_23 => ?_) (fun hc_23 => ?_)
          · replace h := h.1 hc_23
            exact ih_JJ_12 _ h _ _ _ hP hD hS (lv_sub hl [1, 2, 3] rfl)
          · replace h := h.2 hc_23
            refine lv_iconst (v := 0) hx hb dX4_parseArc_58 (by decide) ?_
            subst hQ
            exact W.zret (v := 0) hx hb hr (by rfl) (fun t ht hW => ⟨⟨_, u_22, rfl, h, by rw [ht]; exact hP, hD⟩, hS.F ht⟩) hS.2.2 dX4_parseArc_59
  · replace h := h.2 hc_6
    refine lv_iconst (v := 0) hx hb dX4_parseArc_26 (by decide) ?_
    subst hQ
    exact W.zret (v := 0) hx hb hr (by rfl) (fun t ht hW => ⟨⟨_, u_4, rfl, h, by rw [ht]; exact hP, hD⟩, hS.F ht⟩) hS.2.2 dX4_parseArc_27
abbrev rm_X4_parse : Room := { frames := 4, cells := 0, slots := 0, locals := 87 }
set_option maxHeartbeats 4000000 in
set_option maxRecDepth 100000 in
theorem c_X4_parse (l : Launch) (dC : Nat → ClassId) (dI : Nat → Nat → Nat) (a : Nat → Nat) (ca : Nat → ClassId) (sz : Nat) (u : Ob) (x1 : Int32) (post : Int32 → Ob → Prop) (h : wp_X4_parse u x1 post) : Met l yX4_parse wsX4_parse rm_X4_parse (va_Pc [.ref (a 0), .int x1] (fun U => U.heap.size = sz ∧ va_P (dC, dI) vwCl (wd_X4 a ca u) U.heap ∧ va_K (dC, dI) vwCl (ty_X4 ca) U ∧ va_D (fun _ => True) (wd_X4 a ca u) ∧ nw_ok U)) (va_Qi post (fun (zz : Ob) (t : State) => va_P (dC, dI) vwCl (wd_X4 a ca zz) t.heap ∧ va_D (va_A (wd_X4 a ca u) sz) (wd_X4 a ca zz)) (va_A (wd_X4 a ca u) sz)) 0 0 (va_A (wd_X4 a ca u) sz) := by
  refine fl_ofW (cc := cX4_parse) (maxL := 3) (ret := (some .int)) (by decide) rfl ?_
  intro p e s m args below meth c s₁ Q B hml hv hQ
  obtain ⟨hargs, hsz, hP, hK, hD0, hN⟩ := hv
  have hx := B.exec
  have hb := B.bytes
  have hr := B.returns
  have hts := atoms_spec (ws := wsX4_parse) B.pre
  have hown : s.vm.findClass RX4 = some m.cls := findClass_of_methodNamed B.named
  subst hsz
  have hD := hD0.self (sz := s.heap.size)
  generalize hAe : va_A (wd_X4 a ca u) s.heap.size = A at hD hQ
  have hA : ∀ q : Nat, s.heap.size ≤ q → A q := fun q h => by rw [← hAe]; exact Or.inr h
  have hS : va_S A s.heap s.heap [] := va_S.rf
  have hl := lv_entry ([.ref (a 0), .int x1]) (n := 3) (Nat.le_of_ble_eq_true rfl)
  refine W.eq (g2 := F0 m 0 ((lg_sl ([.ref (a 0), .int x1]) ++ List.replicate (3 - (lg_sl ([.ref (a 0), .int x1])).length) Slot.unset).toArray) []) (by rw [hargs]; exact lg_entry_eq m _ 3) ?_
  generalize (lg_sl ([.ref (a 0), .int x1]) ++ List.replicate (3 - (lg_sl ([.ref (a 0), .int x1])).length) Slot.unset).toArray = ls at hl ⊢
  have hl : lv_has ls 3 [(0, .ref (a 0)), (1, .int x1)] := hl
  suffices hstart : ∀ (H : Heap) (locs : List Loc) (ls : Array Slot), va_P (dC, dI) vwCl (wd_X4 a ca u) H → va_D A (wd_X4 a ca u) → va_S A s.heap H locs → lv_has ls 3 [(0, .ref (a 0)), (1, .int x1)] → W p l e (headSpec wsX4_parse rm_X4_parse).room s m args below meth c H locs 0 0 Q (F0 m 0 ls []) from hstart _ _ _ hP hD hS hl
  clear hS hP hD hD0
  intro H locs ls hP hD hS hl
  have hin_X4 : ∀ w ∈ wsX40, w ∈ wsX4_parse := by decide +kernel
  have lk_0 := hts (.fieldLink RX4 27 "ForgettingLines$Tape" "at" "I") (by decide +kernel)
  have lk_1 := hts (.fieldLink RX4 23 "ForgettingLines$Tape" "size" "I") (by decide +kernel)
  have lk_2 := hts (.fieldLink RX4 15 "ForgettingLines$Tape" "bytes" "[B") (by decide +kernel)
  unfold wp_X4_parse at h
  refine lv_aload_n hx hb dX4_parse_0 rfl (lv_at hl 0 rfl) ?_
  refine lv_iconst (v := 0) hx hb dX4_parse_1 (by decide) ?_
  refine va_put (D := (dC, dI)) (ci := 4) (v := .int 0) (ty := .int) (C := RX4) (T := TX4) (N := 4) hx hb hts hin_X4 tyX4 tyX4_ok nmX4 hown hK hP hD hS 0 rfl rfl 3 (by decide) lk_0 (fun _ h9 => h9) rfl (by decide +kernel) rfl rfl (Nat.le_of_ble_eq_true rfl) dX4_parse_2 (fun H locs hP hD hS => ?_)
  obtain ⟨u_1, eu_1⟩ : ∃ z : Ob, z = fs_i u 3 0 := ⟨_, rfl⟩
  replace h := h u_1 eu_1
  replace hP : va_P (dC, dI) vwCl (wd_X4 a ca u_1) H := by rw [eu_1]; exact hP
  replace hD : va_D A (wd_X4 a ca u_1) := by rw [eu_1]; exact hD
  refine lv_iconst (v := 0) hx hb dX4_parse_5 (by decide) ?_
  refine lv_istore_n (lv' := [(2, .int 0), (0, .ref (a 0)), (1, .int x1)]) hx hb dX4_parse_6 rfl hl (by decide) rfl (fun ls hl => ?_)
  obtain ⟨n_16, h⟩ := h
  refine lq2_ind (GG := (fun (v2_3 : Int32) (u_4 : Ob) => ∀ (H : Heap) (locs : List Loc) (ls : Array Slot), va_P (dC, dI) vwCl (wd_X4 a ca u_4) H → va_D A (wd_X4 a ca u_4) → va_S A s.heap H locs → lv_has ls 3 [(2, .int v2_3), (0, .ref (a 0)), (1, .int x1)] → W p l e (headSpec wsX4_parse rm_X4_parse).room s m args below meth c H locs 0 0 Q (F0 m 7 ls []))) (fun LL_2 ih_LL_2 v2_3 u_4 h H locs ls hP hD hS hl => ?_) n_16 _ _ h _ _ _ hP hD hS (lv_sub hl [0, 1, 2] rfl)
  refine lv_iload_n hx hb dX4_parse_7 rfl (lv_at hl 0 rfl) ?_
  refine lv_bipush (v := 20) hx hb dX4_parse_8 (by decide) ?_
  refine lv_icmp_ge (tgt := 97) hx hb dX4_parse_10 (by decide) (fun hc_5 => ?_) (fun hc_5 => ?_)
  · replace h := h.1 hc_5
    refine lv_bipush (v := (-20)) hx hb dX4_parse_97 (by decide) ?_
    refine lv_aload_n hx hb dX4_parse_99 rfl (lv_at hl 1 rfl) ?_
    refine va_get (D := (dC, dI)) (ci := 4) (v := .int (u_4.1 3)) (C := RX4) (T := TX4) (N := 4) hx hb hts hin_X4 hown hK hP 0 rfl rfl 3 (by decide) lk_0 (fun _ h9 => h9) rfl dX4_parse_100 ?_
    refine lv_isub hx hb dX4_parse_103 ?_
    subst hQ
    exact W.iret (v := ((-20) - (u_4.1 3))) hx hb hr (fun t ht hW => ⟨⟨_, u_4, rfl, h, by rw [ht]; exact hP, hD⟩, hS.F ht⟩) hS.2.2 dX4_parse_104
  · replace h := h.2 hc_5
    refine lv_aload_n hx hb dX4_parse_13 rfl (lv_at hl 1 rfl) ?_
    refine lv_iload_n hx hb dX4_parse_14 rfl (lv_at hl 0 rfl) ?_
    refine lv_iconst (v := 5) hx hb dX4_parse_15 (by decide) ?_
    refine lv_imul hx hb dX4_parse_16 ?_
    refine lv_iload_n hx hb dX4_parse_17 rfl (lv_at hl 2 rfl) ?_
    have hPc := hP
    have hDc := hD
    have hKc := hK
    have hFc := va_free (wc := (wd_X4 a ca u_4)) hD hS hA [0, 1, 2] rfl
    refine va_calli (va_runV (As := [.int (v2_3 * 5), .int x1]) (rest := []) ⟨hx, hb, hml, hown, hts⟩ (c_X4_parseArc l dC dI a ca H.size u_4 (v2_3 * 5) x1 _ h) (cwV 2 hts gX4_parse_X4_parseArc rfl rfl rfl (by decide +kernel) ⟨Nat.le_of_ble_eq_true rfl, Nat.le_of_ble_eq_true rfl⟩) ⟨fun a U g mk q => by obtain ⟨q0, q1, qP, qK, qD, qN⟩ := q; exact ⟨q0, q1, qP, va_K.moved (u := U) (U := U.calling g mk a) (Vm.Alike.refl U.vm) qK, qD, qN.call⟩, va_recv hKc hPc (ci := 4) (q0 := 0) rfl rfl, fun U hU hW => ⟨rfl, by rw [hU], by rw [hU]; exact hPc, va_K.moved hW.alike hKc, hDc.weaken (fun _ _ _ _ => trivial), hN.warm hW⟩⟩ rfl rfl hl.1 rfl (lv_room (Nat.le_of_ble_eq_true rfl)) dX4_parse_18 ⟨Nat.zero_le _, Nat.zero_le _⟩) hS (fun q _ h => hFc q h) hFc (fun r_6 zz t H1 locs ht hvm hw hB hz1 hk1 hS => ?_)
    obtain ⟨u_7, rfl⟩ : ∃ z, z = zz := ⟨_, rfl⟩
    replace h := hw
    obtain ⟨hP1, hD1⟩ := hB
    rw [ht] at hP1
    replace hD : va_D A (wd_X4 a ca u_7) := hD1.weaken (fun _ _ _ h9 => hFc _ h9)
    replace hP : va_P (dC, dI) vwCl (wd_X4 a ca u_7) H1 := hP1
    generalize H1 = H at hP hS ⊢
    refine lv_if_ne (tgt := 32) hx hb dX4_parse_21 (by decide) (fun hc_8 => ?_) (fun hc_8 => ?_)
    · replace h := h.1 hc_8
      refine lv_aload_n hx hb dX4_parse_32 rfl (lv_at hl 1 rfl) ?_
      have hPc := hP
      have hDc := hD
      have hKc := hK
      have hFc := va_free (wc := (wd_X4 a ca u_7)) hD hS hA [0, 1, 2] rfl
      refine va_callv (va_runV (As := []) (rest := []) ⟨hx, hb, hml, hown, hts⟩ (c_X4_skipBlanks l dC dI a ca H.size u_7 _ h) (cwV 0 hts gX4_parse_X4_skipBlanks rfl rfl rfl (by decide +kernel) ⟨Nat.le_of_ble_eq_true rfl, Nat.le_of_ble_eq_true rfl⟩) ⟨fun a U g mk q => by obtain ⟨q0, q1, qP, qK, qD⟩ := q; exact ⟨q0, q1, qP, va_K.moved (u := U) (U := U.calling g mk a) (Vm.Alike.refl U.vm) qK, qD⟩, va_recv hKc hPc (ci := 4) (q0 := 0) rfl rfl, fun U hU hW => ⟨rfl, by rw [hU], by rw [hU]; exact hPc, va_K.moved hW.alike hKc, hDc.weaken (fun _ _ _ _ => trivial)⟩⟩ rfl rfl hl.1 rfl (lv_room (Nat.le_of_ble_eq_true rfl)) dX4_parse_33 ⟨Nat.zero_le _, Nat.zero_le _⟩) hS (fun q _ h => hFc q h) hFc (fun zz t H1 locs ht hvm hw hB hz1 hk1 hS => ?_)
      obtain ⟨u_9, rfl⟩ : ∃ z, z = zz := ⟨_, rfl⟩
      replace h := hw
      obtain ⟨hP1, hD1⟩ := hB
      rw [ht] at hP1
      replace hD : va_D A (wd_X4 a ca u_9) := hD1.weaken (fun _ _ _ h9 => hFc _ h9)
      replace hP : va_P (dC, dI) vwCl (wd_X4 a ca u_9) H1 := hP1
      generalize H1 = H at hP hS ⊢
      refine lv_aload_n hx hb dX4_parse_36 rfl (lv_at hl 1 rfl) ?_
      refine va_get (D := (dC, dI)) (ci := 4) (v := .int (u_9.1 3)) (C := RX4) (T := TX4) (N := 4) hx hb hts hin_X4 hown hK hP 0 rfl rfl 3 (by decide) lk_0 (fun _ h9 => h9) rfl dX4_parse_37 ?_
      refine lv_aload_n hx hb dX4_parse_40 rfl (lv_at hl 1 rfl) ?_
      refine va_get (D := (dC, dI)) (ci := 4) (v := .int (u_9.1 0)) (C := RX4) (T := TX4) (N := 4) hx hb hts hin_X4 hown hK hP 0 rfl rfl 0 (by decide) lk_1 (fun _ h9 => h9) rfl dX4_parse_41 ?_
      refine lv_icmp_lt (tgt := 51) hx hb dX4_parse_44 (by decide) (fun hc_10 => ?_) (fun hc_10 => ?_)
      · replace h := h.1 hc_10
        refine lv_aload_n hx hb dX4_parse_51 rfl (lv_at hl 1 rfl) ?_
        refine va_get (D := (dC, dI)) (ci := 4) (v := .ref (a 3)) (C := RX4) (T := TX4) (N := 4) hx hb hts hin_X4 hown hK hP 0 rfl rfl 2 (by decide) lk_2 (fun _ h9 => h9) rfl dX4_parse_52 ?_
        refine lv_aload_n hx hb dX4_parse_55 rfl (lv_at hl 1 rfl) ?_
        refine va_get (D := (dC, dI)) (ci := 4) (v := .int (u_9.1 3)) (C := RX4) (T := TX4) (N := 4) hx hb hts hin_X4 hown hK hP 0 rfl rfl 3 (by decide) lk_0 (fun _ h9 => h9) rfl dX4_parse_56 ?_
        obtain ⟨hi_11, h⟩ := h
        refine va_bald (D := (dC, dI)) (cl := vwCl) (i := (u_9.1 3)) hx hb hK hP 2 1 rfl rfl hi_11 dX4_parse_59 ?_
        refine lv_bipush (v := 59) hx hb dX4_parse_60 (by decide) ?_
        refine jn0_ind (GG := (∀ (H : Heap) (locs : List Loc) (ls : Array Slot), va_P (dC, dI) vwCl (wd_X4 a ca u_9) H → va_D A (wd_X4 a ca u_9) → va_S A s.heap H locs → lv_has ls 3 [(0, .ref (a 0))] → W p l e (headSpec wsX4_parse rm_X4_parse).room s m args below meth c H locs 0 0 Q (F0 m 73 ls []))) h (fun  h H locs ls hP hD hS hl => ?_) (fun JJ_12 ih_JJ_12 h => ?_)
        · refine lv_bipush (v := (-20)) hx hb dX4_parse_73 (by decide) ?_
          refine lv_aload_n hx hb dX4_parse_75 rfl (lv_at hl 0 rfl) ?_
          refine va_get (D := (dC, dI)) (ci := 4) (v := .int (u_9.1 3)) (C := RX4) (T := TX4) (N := 4) hx hb hts hin_X4 hown hK hP 0 rfl rfl 3 (by decide) lk_0 (fun _ h9 => h9) rfl dX4_parse_76 ?_
          refine lv_isub hx hb dX4_parse_79 ?_
          subst hQ
          exact W.iret (v := ((-20) - (u_9.1 3))) hx hb hr (fun t ht hW => ⟨⟨_, u_9, rfl, h, by rw [ht]; exact hP, hD⟩, hS.F ht⟩) hS.2.2 dX4_parse_80
        · refine lv_icmp_ne (tgt := 73) hx hb dX4_parse_62 (by decide) (fun hc_13 => ?_) (fun hc_13 => ?_)
          · replace h := h.1 hc_13
            exact ih_JJ_12 h _ _ _ hP hD hS (lv_sub hl [1] rfl)
          · replace h := h.2 hc_13
            refine lv_iload_n hx hb dX4_parse_65 rfl (lv_at hl 0 rfl) ?_
            refine lv_iconst (v := 1) hx hb dX4_parse_66 (by decide) ?_
            refine lv_iadd hx hb dX4_parse_67 ?_
            refine lv_bipush (v := 20) hx hb dX4_parse_68 (by decide) ?_
            refine lv_icmp_ne (tgt := 81) hx hb dX4_parse_70 (by decide) (fun hc_14 => ?_) (fun hc_14 => ?_)
            · replace h := h.1 hc_14
              refine lv_aload_n hx hb dX4_parse_81 rfl (lv_at hl 1 rfl) ?_
              refine lv_dup hx hb dX4_parse_82 rfl ?_
              refine va_get (D := (dC, dI)) (ci := 4) (v := .int (u_9.1 3)) (C := RX4) (T := TX4) (N := 4) hx hb hts hin_X4 hown hK hP 0 rfl rfl 3 (by decide) lk_0 (fun _ h9 => h9) rfl dX4_parse_83 ?_
              refine lv_iconst (v := 1) hx hb dX4_parse_86 (by decide) ?_
              refine lv_iadd hx hb dX4_parse_87 ?_
              refine va_put (D := (dC, dI)) (ci := 4) (v := .int ((u_9.1 3) + 1)) (ty := .int) (C := RX4) (T := TX4) (N := 4) hx hb hts hin_X4 tyX4 tyX4_ok nmX4 hown hK hP hD hS 0 rfl rfl 3 (by decide) lk_0 (fun _ h9 => h9) rfl (by decide +kernel) rfl rfl (Nat.le_of_ble_eq_true rfl) dX4_parse_88 (fun H locs hP hD hS => ?_)
              obtain ⟨u_15, eu_15⟩ : ∃ z : Ob, z = fs_i u_9 3 ((u_9.1 3) + 1) := ⟨_, rfl⟩
              replace h := h u_15 eu_15
              replace hP : va_P (dC, dI) vwCl (wd_X4 a ca u_15) H := by rw [eu_15]; exact hP
              replace hD : va_D A (wd_X4 a ca u_15) := by rw [eu_15]; exact hD
              refine lv_iinc (v := (v2_3 + 1)) (lv' := [(2, .int (v2_3 + 1)), (0, .ref (a 0)), (1, .int x1)]) hx hb dX4_parse_91 hl (k := 0) rfl rfl (by decide) rfl (fun ls hl => ?_)
              refine lv_goto (tgt := 7) hx hb dX4_parse_94 (by decide) ?_
              exact ih_LL_2 _ _ h _ _ _ hP hD hS (lv_sub hl [0, 1, 2] rfl)
            · replace h := h.2 hc_14
              exact ih_JJ_12 h _ _ _ hP hD hS (lv_sub hl [1] rfl)
      · replace h := h.2 hc_10
        refine lv_iload_n hx hb dX4_parse_47 rfl (lv_at hl 0 rfl) ?_
        refine lv_iconst (v := 1) hx hb dX4_parse_48 (by decide) ?_
        refine lv_iadd hx hb dX4_parse_49 ?_
        subst hQ
        exact W.iret (v := (v2_3 + 1)) hx hb hr (fun t ht hW => ⟨⟨_, u_9, rfl, h, by rw [ht]; exact hP, hD⟩, hS.F ht⟩) hS.2.2 dX4_parse_50
    · replace h := h.2 hc_8
      refine lv_bipush (v := (-20)) hx hb dX4_parse_24 (by decide) ?_
      refine lv_aload_n hx hb dX4_parse_26 rfl (lv_at hl 1 rfl) ?_
      refine va_get (D := (dC, dI)) (ci := 4) (v := .int (u_7.1 3)) (C := RX4) (T := TX4) (N := 4) hx hb hts hin_X4 hown hK hP 0 rfl rfl 3 (by decide) lk_0 (fun _ h9 => h9) rfl dX4_parse_27 ?_
      refine lv_isub hx hb dX4_parse_30 ?_
      subst hQ
      exact W.iret (v := ((-20) - (u_7.1 3))) hx hb hr (fun t ht hW => ⟨⟨_, u_7, rfl, h, by rw [ht]; exact hP, hD⟩, hS.F ht⟩) hS.2.2 dX4_parse_31
