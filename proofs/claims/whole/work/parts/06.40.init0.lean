def iu_X0 : Ob := (fun k => if k = 0 then 4 else 0, fun k => fun _ => 0, fun _ _ => 0)
abbrev rm_X0_init : Room := { frames := 1, cells := 2, slots := 102, locals := 20 }
set_option maxHeartbeats 4000000 in
set_option maxRecDepth 100000 in
theorem c_X0_init (l : Launch) (dC : Nat → ClassId) (dI : Nat → Nat → Nat) (h0 sz : Nat) : Met l yX0_init wsX0_init rm_X0_init (va_Pc [.ref h0] (fun U => U.heap.size = sz ∧ va_P (dC, dI) vwCl [(h0, .inr (0, [.int 0, .int 0, .null, .null]))] U.heap ∧ va_K (dC, dI) vwCl [] U ∧ va_D (fun _ => True) [(h0, .inr (0, [.int 0, .int 0, .null, .null]))])) (va_Qv (fun zz : (Nat → Nat) × (Nat → ClassId) => zz.1 0 = h0) (fun (zz : (Nat → Nat) × (Nat → ClassId)) (t : State) => va_P (dC, dI) vwCl (wd_X0 zz.1 zz.2 iu_X0) t.heap ∧ va_K (dC, dI) vwCl (ty_X0 zz.2) t ∧ va_D (va_A [(h0, .inr (0, [.int 0, .int 0, .null, .null]))] sz) (wd_X0 zz.1 zz.2 iu_X0)) (va_A [(h0, .inr (0, [.int 0, .int 0, .null, .null]))] sz)) 2 102 (va_A [(h0, .inr (0, [.int 0, .int 0, .null, .null]))] sz) := by
  refine Met.ofW (cc := cX0_init) (maxL := 1) (ret := none) (by decide) rfl ?_
  intro p e s m args below meth c s₁ B hml hv
  obtain ⟨rfl, hsz, hP, hK, hD0⟩ := hv
  have hx := B.exec
  have hb := B.bytes
  have hr := B.returns
  have hts := atoms_spec (ws := wsX0_init) B.pre
  have hown : s.vm.findClass RX0 = some m.cls := findClass_of_methodNamed B.named
  have hlocks := B.notSynchronized
  have hin : meth.name = "<init>" := (name_of_methodNamed B.named B.method).1
  subst hsz
  have hD := hD0.self (sz := s.heap.size)
  generalize hAe : va_A [(h0, .inr (0, [.int 0, .int 0, .null, .null]))] s.heap.size = A at hD ⊢
  have hA : ∀ q : Nat, s.heap.size ≤ q → A q := fun q h => by rw [← hAe]; exact Or.inr h
  have hS : va_S A s.heap s.heap [] := va_S.rf
  have hl := lv_entry ([.ref h0]) (n := 1) (Nat.le_of_ble_eq_true rfl)
  rw [lg_entry_eq]
  generalize (lg_sl ([.ref h0]) ++ List.replicate (1 - (lg_sl ([.ref h0])).length) Slot.unset).toArray = ls at hl ⊢
  have hl : lv_has ls 1 [(0, .ref h0)] := hl
  have hin_X : ∀ w ∈ wsX00, w ∈ wsX0_init := by decide +kernel
  refine lv_aload_n hx hb dX0_init_0 rfl (lv_at hl 0 rfl) ?_
  refine W.objInit hx hb hown (hts (.methodLink RX0 3 objectInit) (by decide +kernel)) (hts (.instanceMethod objectInit) (by decide +kernel)) (hts (.code objectInit ⟨#[0xb1]⟩ 1 none) (List.mem_of_getElem? (i := 3) rfl)) rfl (by rw [hml]; exact hl.1) rfl dX0_init_1 (Nat.le_of_ble_eq_true rfl) (Nat.le_of_ble_eq_true rfl) ?_
  refine W.eq (g2 := F0 m 4 ls []) rfl ?_
  refine lv_aload_n hx hb dX0_init_4 rfl (lv_at hl 0 rfl) ?_
  refine lv_iconst (v := 4) hx hb dX0_init_5 (by decide) ?_
  refine va_put (D := (dC, dI)) (ci := 0) (v := .int 4) (ty := .int) (C := RX0) (T := TX0) (N := 4) hx hb hts hin_X tyX0 tyX0_ok nmX0 hown hK hP hD hS 0 rfl rfl 0 (by decide) (hts (.fieldLink RX0 9 "ForgettingLines$Machine" "states" "I") (by decide +kernel)) (fun _ h9 => h9) rfl (by decide +kernel) rfl rfl (Nat.le_of_ble_eq_true rfl) dX0_init_6 (fun H locs hP hD hS => ?_)
  have hP : va_P (dC, dI) vwCl [(h0, .inr (0, [.int 4, .int 0, .null, .null]))] H := hP
  have hD : va_D A [(h0, .inr (0, [.int 4, .int 0, .null, .null]))] := hD
  refine lv_aload_n hx hb dX0_init_9 rfl (lv_at hl 0 rfl) ?_
  refine lv_iconst (v := 2) hx hb dX0_init_10 (by decide) ?_
  refine va_newa (atype := .boolean) (ty := .boolean) (n := 2) (N' := 2) (a0 := (2, .inl (fun _ => 0))) hx hb (hts (.arrayClass .boolean) (by decide +kernel)) rfl hK hP hD hS hA (fun _ => rfl) (by decide +kernel) (by decide +kernel) (by decide +kernel) (Nat.le_of_ble_eq_true rfl) (Nat.le_of_ble_eq_true rfl) dX0_init_11 (fun q11 cA11 H hK hP hD hS => ?_)
  have hP : va_P (dC, dI) vwCl [(h0, .inr (0, [.int 4, .int 0, .null, .null])), (q11, .inl (cA11, 2, .inl (fun _ => 0)))] H := hP
  have hD : va_D A [(h0, .inr (0, [.int 4, .int 0, .null, .null])), (q11, .inl (cA11, 2, .inl (fun _ => 0)))] := hD
  have hK : va_K (dC, dI) vwCl [(cA11, .boolean)] s := hK
  refine va_putF (D := (dC, dI)) (ci := 0) (v := .ref q11) (ty := .array .boolean) (C := RX0) (T := TX0) (N := 4) hx hb hts hin_X tyX0 tyX0_ok nmX0 hown hK hP hD hS 0 rfl rfl 2 (by decide) (hts (.fieldLink RX0 15 "ForgettingLines$Machine" "isBag" "[Z") (by decide +kernel)) (fun _ h9 => h9) rfl hin rfl (by decide +kernel) rfl rfl (Nat.le_of_ble_eq_true rfl) dX0_init_13 (fun H locs hP hD hS => ?_)
  have hP : va_P (dC, dI) vwCl [(h0, .inr (0, [.int 4, .int 0, .ref q11, .null])), (q11, .inl (cA11, 2, .inl (fun _ => 0)))] H := hP
  have hD : va_D A [(h0, .inr (0, [.int 4, .int 0, .ref q11, .null])), (q11, .inl (cA11, 2, .inl (fun _ => 0)))] := hD
  refine lv_aload_n hx hb dX0_init_16 rfl (lv_at hl 0 rfl) ?_
  refine lv_bipush (v := 100) hx hb dX0_init_17 (by decide) ?_
  refine va_newa (atype := .int) (ty := .int) (n := 100) (N' := 100) (a0 := (100, .inl (fun _ => 0))) hx hb (hts (.arrayClass .int) (by decide +kernel)) rfl hK hP hD hS hA (fun _ => rfl) (by decide +kernel) (by decide +kernel) (by decide +kernel) (Nat.le_of_ble_eq_true rfl) (Nat.le_of_ble_eq_true rfl) dX0_init_19 (fun q19 cA19 H hK hP hD hS => ?_)
  have hP : va_P (dC, dI) vwCl [(h0, .inr (0, [.int 4, .int 0, .ref q11, .null])), (q11, .inl (cA11, 2, .inl (fun _ => 0))), (q19, .inl (cA19, 100, .inl (fun _ => 0)))] H := hP
  have hD : va_D A [(h0, .inr (0, [.int 4, .int 0, .ref q11, .null])), (q11, .inl (cA11, 2, .inl (fun _ => 0))), (q19, .inl (cA19, 100, .inl (fun _ => 0)))] := hD
  have hK : va_K (dC, dI) vwCl [(cA11, .boolean), (cA19, .int)] s := hK
  refine va_putF (D := (dC, dI)) (ci := 0) (v := .ref q19) (ty := .array .int) (C := RX0) (T := TX0) (N := 4) hx hb hts hin_X tyX0 tyX0_ok nmX0 hown hK hP hD hS 0 rfl rfl 3 (by decide) (hts (.fieldLink RX0 19 "ForgettingLines$Machine" "rows" "[I") (by decide +kernel)) (fun _ h9 => h9) rfl hin rfl (by decide +kernel) rfl rfl (Nat.le_of_ble_eq_true rfl) dX0_init_21 (fun H locs hP hD hS => ?_)
  have hP : va_P (dC, dI) vwCl [(h0, .inr (0, [.int 4, .int 0, .ref q11, .ref q19])), (q11, .inl (cA11, 2, .inl (fun _ => 0))), (q19, .inl (cA19, 100, .inl (fun _ => 0)))] H := hP
  have hD : va_D A [(h0, .inr (0, [.int 4, .int 0, .ref q11, .ref q19])), (q11, .inl (cA11, 2, .inl (fun _ => 0))), (q19, .inl (cA19, 100, .inl (fun _ => 0)))] := hD
  refine W.widen (k := 2) (n := 102) (Nat.le_of_ble_eq_true rfl) (Nat.le_of_ble_eq_true rfl) ?_
  have hP9 : va_P (dC, dI) vwCl (wd_X0 (fun k => if k = 0 then h0 else if k = 3 then q11 else q19) (fun k => if k = 3 then cA11 else cA19) iu_X0) H := hP
  have hD9 : va_D A (wd_X0 (fun k => if k = 0 then h0 else if k = 3 then q11 else q19) (fun k => if k = 3 then cA11 else cA19) iu_X0) := hD
  have hK9 : va_K (dC, dI) vwCl (ty_X0 (fun k => if k = 3 then cA11 else cA19)) s := hK
  exact W.vret hx hb hr (fun t ht hW => ⟨⟨((fun k => if k = 0 then h0 else if k = 3 then q11 else q19), (fun k => if k = 3 then cA11 else cA19)), rfl, rfl, by rw [ht]; exact hP9, va_K.moved hW.alike hK9, hD9⟩, hS.F ht⟩) hS.2.2 dX0_init_24
