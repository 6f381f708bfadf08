def iu_X2 : Ob := (fun k => 0, fun k => fun _ => 0, fun _ _ => 0)
abbrev rm_X2_init : Room := { frames := 1, cells := 6, slots := 480, locals := 20 }
set_option maxHeartbeats 4000000 in
set_option maxRecDepth 100000 in
theorem c_X2_init (l : Launch) (dC : Nat → ClassId) (dI : Nat → Nat → Nat) (h0 sz : Nat) : Met l yX2_init wsX2_init rm_X2_init (va_Pc [.ref h0] (fun U => U.heap.size = sz ∧ va_P (dC, dI) vwCl [(h0, .inr (2, [.int 0, .int 0, .null, .null, .null, .null, .null, .null]))] U.heap ∧ va_K (dC, dI) vwCl [] U ∧ va_D (fun _ => True) [(h0, .inr (2, [.int 0, .int 0, .null, .null, .null, .null, .null, .null]))])) (va_Qv (fun zz : (Nat → Nat) × (Nat → ClassId) => zz.1 0 = h0) (fun (zz : (Nat → Nat) × (Nat → ClassId)) (t : State) => va_P (dC, dI) vwCl (wd_X2 zz.1 zz.2 iu_X2) t.heap ∧ va_K (dC, dI) vwCl (ty_X2 zz.2) t ∧ va_D (va_A [(h0, .inr (2, [.int 0, .int 0, .null, .null, .null, .null, .null, .null]))] sz) (wd_X2 zz.1 zz.2 iu_X2)) (va_A [(h0, .inr (2, [.int 0, .int 0, .null, .null, .null, .null, .null, .null]))] sz)) 6 480 (va_A [(h0, .inr (2, [.int 0, .int 0, .null, .null, .null, .null, .null, .null]))] sz) := by
  refine Met.ofW (cc := cX2_init) (maxL := 1) (ret := none) (by decide) rfl ?_
  intro p e s m args below meth c s₁ B hml hv
  obtain ⟨rfl, hsz, hP, hK, hD0⟩ := hv
  have hx := B.exec
  have hb := B.bytes
  have hr := B.returns
  have hts := atoms_spec (ws := wsX2_init) B.pre
  have hown : s.vm.findClass RX2 = some m.cls := findClass_of_methodNamed B.named
  have hlocks := B.notSynchronized
  have hin : meth.name = "<init>" := (name_of_methodNamed B.named B.method).1
  subst hsz
  have hD := hD0.self (sz := s.heap.size)
  generalize hAe : va_A [(h0, .inr (2, [.int 0, .int 0, .null, .null, .null, .null, .null, .null]))] s.heap.size = A at hD ⊢
  have hA : ∀ q : Nat, s.heap.size ≤ q → A q := fun q h => by rw [← hAe]; exact Or.inr h
  have hS : va_S A s.heap s.heap [] := va_S.rf
  have hl := lv_entry ([.ref h0]) (n := 1) (Nat.le_of_ble_eq_true rfl)
  rw [lg_entry_eq]
  generalize (lg_sl ([.ref h0]) ++ List.replicate (1 - (lg_sl ([.ref h0])).length) Slot.unset).toArray = ls at hl ⊢
  have hl : lv_has ls 1 [(0, .ref h0)] := hl
  have hin_X : ∀ w ∈ wsX20, w ∈ wsX2_init := by decide +kernel
  refine lv_aload_n hx hb dX2_init_0 rfl (lv_at hl 0 rfl) ?_
  refine W.objInit hx hb hown (hts (.methodLink RX2 3 objectInit) (by decide +kernel)) (hts (.instanceMethod objectInit) (by decide +kernel)) (hts (.code objectInit ⟨#[0xb1]⟩ 1 none) (List.mem_of_getElem? (i := 3) rfl)) rfl (by rw [hml]; exact hl.1) rfl dX2_init_1 (Nat.le_of_ble_eq_true rfl) (Nat.le_of_ble_eq_true rfl) ?_
  refine W.eq (g2 := F0 m 4 ls []) rfl ?_
  refine lv_aload_n hx hb dX2_init_4 rfl (lv_at hl 0 rfl) ?_
  refine lv_bipush (v := 80) hx hb dX2_init_5 (by decide) ?_
  refine va_newa (atype := .int) (ty := .int) (n := 80) (N' := 80) (a0 := (80, .inl (fun _ => 0))) hx hb (hts (.arrayClass .int) (by decide +kernel)) rfl hK hP hD hS hA (fun _ => rfl) (by decide +kernel) (by decide +kernel) (by decide +kernel) (Nat.le_of_ble_eq_true rfl) (Nat.le_of_ble_eq_true rfl) dX2_init_7 (fun q7 cA7 H hK hP hD hS => ?_)
  have hP : va_P (dC, dI) vwCl [(h0, .inr (2, [.int 0, .int 0, .null, .null, .null, .null, .null, .null])), (q7, .inl (cA7, 80, .inl (fun _ => 0)))] H := hP
  have hD : va_D A [(h0, .inr (2, [.int 0, .int 0, .null, .null, .null, .null, .null, .null])), (q7, .inl (cA7, 80, .inl (fun _ => 0)))] := hD
  have hK : va_K (dC, dI) vwCl [(cA7, .int)] s := hK
  refine va_putF (D := (dC, dI)) (ci := 2) (v := .ref q7) (ty := .array .int) (C := RX2) (T := TX2) (N := 8) hx hb hts hin_X tyX2 tyX2_ok nmX2 hown hK hP hD hS 0 rfl rfl 2 (by decide) (hts (.fieldLink RX2 9 "ForgettingLines$Search" "rounds" "[I") (by decide +kernel)) (fun _ h9 => h9) rfl hin rfl (by decide +kernel) rfl rfl (Nat.le_of_ble_eq_true rfl) dX2_init_9 (fun H locs hP hD hS => ?_)
  have hP : va_P (dC, dI) vwCl [(h0, .inr (2, [.int 0, .int 0, .ref q7, .null, .null, .null, .null, .null])), (q7, .inl (cA7, 80, .inl (fun _ => 0)))] H := hP
  have hD : va_D A [(h0, .inr (2, [.int 0, .int 0, .ref q7, .null, .null, .null, .null, .null])), (q7, .inl (cA7, 80, .inl (fun _ => 0)))] := hD
  refine lv_aload_n hx hb dX2_init_12 rfl (lv_at hl 0 rfl) ?_
  refine lv_bipush (v := 80) hx hb dX2_init_13 (by decide) ?_
  refine va_newa (atype := .int) (ty := .int) (n := 80) (N' := 80) (a0 := (80, .inl (fun _ => 0))) hx hb (hts (.arrayClass .int) (by decide +kernel)) rfl hK hP hD hS hA (fun _ => rfl) (by decide +kernel) (by decide +kernel) (by decide +kernel) (Nat.le_of_ble_eq_true rfl) (Nat.le_of_ble_eq_true rfl) dX2_init_15 (fun q15 cA15 H hK hP hD hS => ?_)
  have hP : va_P (dC, dI) vwCl [(h0, .inr (2, [.int 0, .int 0, .ref q7, .null, .null, .null, .null, .null])), (q7, .inl (cA7, 80, .inl (fun _ => 0))), (q15, .inl (cA15, 80, .inl (fun _ => 0)))] H := hP
  have hD : va_D A [(h0, .inr (2, [.int 0, .int 0, .ref q7, .null, .null, .null, .null, .null])), (q7, .inl (cA7, 80, .inl (fun _ => 0))), (q15, .inl (cA15, 80, .inl (fun _ => 0)))] := hD
  have hK : va_K (dC, dI) vwCl [(cA7, .int), (cA15, .int)] s := hK
  refine va_putF (D := (dC, dI)) (ci := 2) (v := .ref q15) (ty := .array .int) (C := RX2) (T := TX2) (N := 8) hx hb hts hin_X tyX2 tyX2_ok nmX2 hown hK hP hD hS 0 rfl rfl 3 (by decide) (hts (.fieldLink RX2 15 "ForgettingLines$Search" "states" "[I") (by decide +kernel)) (fun _ h9 => h9) rfl hin rfl (by decide +kernel) rfl rfl (Nat.le_of_ble_eq_true rfl) dX2_init_17 (fun H locs hP hD hS => ?_)
  have hP : va_P (dC, dI) vwCl [(h0, .inr (2, [.int 0, .int 0, .ref q7, .ref q15, .null, .null, .null, .null])), (q7, .inl (cA7, 80, .inl (fun _ => 0))), (q15, .inl (cA15, 80, .inl (fun _ => 0)))] H := hP
  have hD : va_D A [(h0, .inr (2, [.int 0, .int 0, .ref q7, .ref q15, .null, .null, .null, .null])), (q7, .inl (cA7, 80, .inl (fun _ => 0))), (q15, .inl (cA15, 80, .inl (fun _ => 0)))] := hD
  refine lv_aload_n hx hb dX2_init_20 rfl (lv_at hl 0 rfl) ?_
  refine lv_bipush (v := 80) hx hb dX2_init_21 (by decide) ?_
  refine va_newa (atype := .int) (ty := .int) (n := 80) (N' := 80) (a0 := (80, .inl (fun _ => 0))) hx hb (hts (.arrayClass .int) (by decide +kernel)) rfl hK hP hD hS hA (fun _ => rfl) (by decide +kernel) (by decide +kernel) (by decide +kernel) (Nat.le_of_ble_eq_true rfl) (Nat.le_of_ble_eq_true rfl) dX2_init_23 (fun q23 cA23 H hK hP hD hS => ?_)
  have hP : va_P (dC, dI) vwCl [(h0, .inr (2, [.int 0, .int 0, .ref q7, .ref q15, .null, .null, .null, .null])), (q7, .inl (cA7, 80, .inl (fun _ => 0))), (q15, .inl (cA15, 80, .inl (fun _ => 0))), (q23, .inl (cA23, 80, .inl (fun _ => 0)))] H := hP
  have hD : va_D A [(h0, .inr (2, [.int 0, .int 0, .ref q7, .ref q15, .null, .null, .null, .null])), (q7, .inl (cA7, 80, .inl (fun _ => 0))), (q15, .inl (cA15, 80, .inl (fun _ => 0))), (q23, .inl (cA23, 80, .inl (fun _ => 0)))] := hD
  have hK : va_K (dC, dI) vwCl [(cA7, .int), (cA15, .int), (cA23, .int)] s := hK
  refine va_putF (D := (dC, dI)) (ci := 2) (v := .ref q23) (ty := .array .int) (C := RX2) (T := TX2) (N := 8) hx hb hts hin_X tyX2 tyX2_ok nmX2 hown hK hP hD hS 0 rfl rfl 4 (by decide) (hts (.fieldLink RX2 18 "ForgettingLines$Search" "words0" "[I") (by decide +kernel)) (fun _ h9 => h9) rfl hin rfl (by decide +kernel) rfl rfl (Nat.le_of_ble_eq_true rfl) dX2_init_25 (fun H locs hP hD hS => ?_)
  have hP : va_P (dC, dI) vwCl [(h0, .inr (2, [.int 0, .int 0, .ref q7, .ref q15, .ref q23, .null, .null, .null])), (q7, .inl (cA7, 80, .inl (fun _ => 0))), (q15, .inl (cA15, 80, .inl (fun _ => 0))), (q23, .inl (cA23, 80, .inl (fun _ => 0)))] H := hP
  have hD : va_D A [(h0, .inr (2, [.int 0, .int 0, .ref q7, .ref q15, .ref q23, .null, .null, .null])), (q7, .inl (cA7, 80, .inl (fun _ => 0))), (q15, .inl (cA15, 80, .inl (fun _ => 0))), (q23, .inl (cA23, 80, .inl (fun _ => 0)))] := hD
  refine lv_aload_n hx hb dX2_init_28 rfl (lv_at hl 0 rfl) ?_
  refine lv_bipush (v := 80) hx hb dX2_init_29 (by decide) ?_
  refine va_newa (atype := .int) (ty := .int) (n := 80) (N' := 80) (a0 := (80, .inl (fun _ => 0))) hx hb (hts (.arrayClass .int) (by decide +kernel)) rfl hK hP hD hS hA (fun _ => rfl) (by decide +kernel) (by decide +kernel) (by decide +kernel) (Nat.le_of_ble_eq_true rfl) (Nat.le_of_ble_eq_true rfl) dX2_init_31 (fun q31 cA31 H hK hP hD hS => ?_)
  have hP : va_P (dC, dI) vwCl [(h0, .inr (2, [.int 0, .int 0, .ref q7, .ref q15, .ref q23, .null, .null, .null])), (q7, .inl (cA7, 80, .inl (fun _ => 0))), (q15, .inl (cA15, 80, .inl (fun _ => 0))), (q23, .inl (cA23, 80, .inl (fun _ => 0))), (q31, .inl (cA31, 80, .inl (fun _ => 0)))] H := hP
  have hD : va_D A [(h0, .inr (2, [.int 0, .int 0, .ref q7, .ref q15, .ref q23, .null, .null, .null])), (q7, .inl (cA7, 80, .inl (fun _ => 0))), (q15, .inl (cA15, 80, .inl (fun _ => 0))), (q23, .inl (cA23, 80, .inl (fun _ => 0))), (q31, .inl (cA31, 80, .inl (fun _ => 0)))] := hD
  have hK : va_K (dC, dI) vwCl [(cA7, .int), (cA15, .int), (cA23, .int), (cA31, .int)] s := hK
  refine va_putF (D := (dC, dI)) (ci := 2) (v := .ref q31) (ty := .array .int) (C := RX2) (T := TX2) (N := 8) hx hb hts hin_X tyX2 tyX2_ok nmX2 hown hK hP hD hS 0 rfl rfl 5 (by decide) (hts (.fieldLink RX2 21 "ForgettingLines$Search" "words1" "[I") (by decide +kernel)) (fun _ h9 => h9) rfl hin rfl (by decide +kernel) rfl rfl (Nat.le_of_ble_eq_true rfl) dX2_init_33 (fun H locs hP hD hS => ?_)
  have hP : va_P (dC, dI) vwCl [(h0, .inr (2, [.int 0, .int 0, .ref q7, .ref q15, .ref q23, .ref q31, .null, .null])), (q7, .inl (cA7, 80, .inl (fun _ => 0))), (q15, .inl (cA15, 80, .inl (fun _ => 0))), (q23, .inl (cA23, 80, .inl (fun _ => 0))), (q31, .inl (cA31, 80, .inl (fun _ => 0)))] H := hP
  have hD : va_D A [(h0, .inr (2, [.int 0, .int 0, .ref q7, .ref q15, .ref q23, .ref q31, .null, .null])), (q7, .inl (cA7, 80, .inl (fun _ => 0))), (q15, .inl (cA15, 80, .inl (fun _ => 0))), (q23, .inl (cA23, 80, .inl (fun _ => 0))), (q31, .inl (cA31, 80, .inl (fun _ => 0)))] := hD
  refine lv_aload_n hx hb dX2_init_36 rfl (lv_at hl 0 rfl) ?_
  refine lv_bipush (v := 80) hx hb dX2_init_37 (by decide) ?_
  refine va_newa (atype := .int) (ty := .int) (n := 80) (N' := 80) (a0 := (80, .inl (fun _ => 0))) hx hb (hts (.arrayClass .int) (by decide +kernel)) rfl hK hP hD hS hA (fun _ => rfl) (by decide +kernel) (by decide +kernel) (by decide +kernel) (Nat.le_of_ble_eq_true rfl) (Nat.le_of_ble_eq_true rfl) dX2_init_39 (fun q39 cA39 H hK hP hD hS => ?_)
  have hP : va_P (dC, dI) vwCl [(h0, .inr (2, [.int 0, .int 0, .ref q7, .ref q15, .ref q23, .ref q31, .null, .null])), (q7, .inl (cA7, 80, .inl (fun _ => 0))), (q15, .inl (cA15, 80, .inl (fun _ => 0))), (q23, .inl (cA23, 80, .inl (fun _ => 0))), (q31, .inl (cA31, 80, .inl (fun _ => 0))), (q39, .inl (cA39, 80, .inl (fun _ => 0)))] H := hP
  have hD : va_D A [(h0, .inr (2, [.int 0, .int 0, .ref q7, .ref q15, .ref q23, .ref q31, .null, .null])), (q7, .inl (cA7, 80, .inl (fun _ => 0))), (q15, .inl (cA15, 80, .inl (fun _ => 0))), (q23, .inl (cA23, 80, .inl (fun _ => 0))), (q31, .inl (cA31, 80, .inl (fun _ => 0))), (q39, .inl (cA39, 80, .inl (fun _ => 0)))] := hD
  have hK : va_K (dC, dI) vwCl [(cA7, .int), (cA15, .int), (cA23, .int), (cA31, .int), (cA39, .int)] s := hK
  refine va_putF (D := (dC, dI)) (ci := 2) (v := .ref q39) (ty := .array .int) (C := RX2) (T := TX2) (N := 8) hx hb hts hin_X tyX2 tyX2_ok nmX2 hown hK hP hD hS 0 rfl rfl 6 (by decide) (hts (.fieldLink RX2 24 "ForgettingLines$Search" "arcs" "[I") (by decide +kernel)) (fun _ h9 => h9) rfl hin rfl (by decide +kernel) rfl rfl (Nat.le_of_ble_eq_true rfl) dX2_init_41 (fun H locs hP hD hS => ?_)
  have hP : va_P (dC, dI) vwCl [(h0, .inr (2, [.int 0, .int 0, .ref q7, .ref q15, .ref q23, .ref q31, .ref q39, .null])), (q7, .inl (cA7, 80, .inl (fun _ => 0))), (q15, .inl (cA15, 80, .inl (fun _ => 0))), (q23, .inl (cA23, 80, .inl (fun _ => 0))), (q31, .inl (cA31, 80, .inl (fun _ => 0))), (q39, .inl (cA39, 80, .inl (fun _ => 0)))] H := hP
  have hD : va_D A [(h0, .inr (2, [.int 0, .int 0, .ref q7, .ref q15, .ref q23, .ref q31, .ref q39, .null])), (q7, .inl (cA7, 80, .inl (fun _ => 0))), (q15, .inl (cA15, 80, .inl (fun _ => 0))), (q23, .inl (cA23, 80, .inl (fun _ => 0))), (q31, .inl (cA31, 80, .inl (fun _ => 0))), (q39, .inl (cA39, 80, .inl (fun _ => 0)))] := hD
  refine lv_aload_n hx hb dX2_init_44 rfl (lv_at hl 0 rfl) ?_
  refine lv_bipush (v := 80) hx hb dX2_init_45 (by decide) ?_
  refine va_newa (atype := .int) (ty := .int) (n := 80) (N' := 80) (a0 := (80, .inl (fun _ => 0))) hx hb (hts (.arrayClass .int) (by decide +kernel)) rfl hK hP hD hS hA (fun _ => rfl) (by decide +kernel) (by decide +kernel) (by decide +kernel) (Nat.le_of_ble_eq_true rfl) (Nat.le_of_ble_eq_true rfl) dX2_init_47 (fun q47 cA47 H hK hP hD hS => ?_)
  have hP : va_P (dC, dI) vwCl [(h0, .inr (2, [.int 0, .int 0, .ref q7, .ref q15, .ref q23, .ref q31, .ref q39, .null])), (q7, .inl (cA7, 80, .inl (fun _ => 0))), (q15, .inl (cA15, 80, .inl (fun _ => 0))), (q23, .inl (cA23, 80, .inl (fun _ => 0))), (q31, .inl (cA31, 80, .inl (fun _ => 0))), (q39, .inl (cA39, 80, .inl (fun _ => 0))), (q47, .inl (cA47, 80, .inl (fun _ => 0)))] H := hP
  have hD : va_D A [(h0, .inr (2, [.int 0, .int 0, .ref q7, .ref q15, .ref q23, .ref q31, .ref q39, .null])), (q7, .inl (cA7, 80, .inl (fun _ => 0))), (q15, .inl (cA15, 80, .inl (fun _ => 0))), (q23, .inl (cA23, 80, .inl (fun _ => 0))), (q31, .inl (cA31, 80, .inl (fun _ => 0))), (q39, .inl (cA39, 80, .inl (fun _ => 0))), (q47, .inl (cA47, 80, .inl (fun _ => 0)))] := hD
  have hK : va_K (dC, dI) vwCl [(cA7, .int), (cA15, .int), (cA23, .int), (cA31, .int), (cA39, .int), (cA47, .int)] s := hK
  refine va_putF (D := (dC, dI)) (ci := 2) (v := .ref q47) (ty := .array .int) (C := RX2) (T := TX2) (N := 8) hx hb hts hin_X tyX2 tyX2_ok nmX2 hown hK hP hD hS 0 rfl rfl 7 (by decide) (hts (.fieldLink RX2 27 "ForgettingLines$Search" "origins" "[I") (by decide +kernel)) (fun _ h9 => h9) rfl hin rfl (by decide +kernel) rfl rfl (Nat.le_of_ble_eq_true rfl) dX2_init_49 (fun H locs hP hD hS => ?_)
  have hP : va_P (dC, dI) vwCl [(h0, .inr (2, [.int 0, .int 0, .ref q7, .ref q15, .ref q23, .ref q31, .ref q39, .ref q47])), (q7, .inl (cA7, 80, .inl (fun _ => 0))), (q15, .inl (cA15, 80, .inl (fun _ => 0))), (q23, .inl (cA23, 80, .inl (fun _ => 0))), (q31, .inl (cA31, 80, .inl (fun _ => 0))), (q39, .inl (cA39, 80, .inl (fun _ => 0))), (q47, .inl (cA47, 80, .inl (fun _ => 0)))] H := hP
  have hD : va_D A [(h0, .inr (2, [.int 0, .int 0, .ref q7, .ref q15, .ref q23, .ref q31, .ref q39, .ref q47])), (q7, .inl (cA7, 80, .inl (fun _ => 0))), (q15, .inl (cA15, 80, .inl (fun _ => 0))), (q23, .inl (cA23, 80, .inl (fun _ => 0))), (q31, .inl (cA31, 80, .inl (fun _ => 0))), (q39, .inl (cA39, 80, .inl (fun _ => 0))), (q47, .inl (cA47, 80, .inl (fun _ => 0)))] := hD
  refine W.widen (k := 6) (n := 480) (Nat.le_of_ble_eq_true rfl) (Nat.le_of_ble_eq_true rfl) ?_
  have hP9 : va_P (dC, dI) vwCl (wd_X2 (fun k => if k = 0 then h0 else if k = 3 then q7 else if k = 4 then q15 else if k = 5 then q23 else if k = 6 then q31 else if k = 7 then q39 else q47) (fun k => if k = 3 then cA7 else if k = 4 then cA15 else if k = 5 then cA23 else if k = 6 then cA31 else if k = 7 then cA39 else cA47) iu_X2) H := hP
  have hD9 : va_D A (wd_X2 (fun k => if k = 0 then h0 else if k = 3 then q7 else if k = 4 then q15 else if k = 5 then q23 else if k = 6 then q31 else if k = 7 then q39 else q47) (fun k => if k = 3 then cA7 else if k = 4 then cA15 else if k = 5 then cA23 else if k = 6 then cA31 else if k = 7 then cA39 else cA47) iu_X2) := hD
  have hK9 : va_K (dC, dI) vwCl (ty_X2 (fun k => if k = 3 then cA7 else if k = 4 then cA15 else if k = 5 then cA23 else if k = 6 then cA31 else if k = 7 then cA39 else cA47)) s := hK
  exact W.vret hx hb hr (fun t ht hW => ⟨⟨((fun k => if k = 0 then h0 else if k = 3 then q7 else if k = 4 then q15 else if k = 5 then q23 else if k = 6 then q31 else if k = 7 then q39 else q47), (fun k => if k = 3 then cA7 else if k = 4 then cA15 else if k = 5 then cA23 else if k = 6 then cA31 else if k = 7 then cA39 else cA47)), rfl, rfl, by rw [ht]; exact hP9, va_K.moved hW.alike hK9, hD9⟩, hS.F ht⟩) hS.2.2 dX2_init_52
