def iu_X5 : Ob := (fun k => 0, fun k => fun _ => 0, fun _ _ => 0)
abbrev rm_X5_init : Room := { frames := 1, cells := 2, slots := 13312, locals := 20 }
set_option maxHeartbeats 4000000 in
set_option maxRecDepth 100000 in
theorem c_X5_init (l : Launch) (dC : Nat → ClassId) (dI : Nat → Nat → Nat) (h0 sz : Nat) : Met l yX5_init wsX5_init rm_X5_init (va_Pc [.ref h0] (fun U => U.heap.size = sz ∧ va_P (dC, dI) vwCl [(h0, .inr (5, [.null, .null, .int 0]))] U.heap ∧ va_K (dC, dI) vwCl [] U ∧ va_D (fun _ => True) [(h0, .inr (5, [.null, .null, .int 0]))])) (va_Qv (fun zz : (Nat → Nat) × (Nat → ClassId) => zz.1 0 = h0) (fun (zz : (Nat → Nat) × (Nat → ClassId)) (t : State) => va_P (dC, dI) vwCl (wd_X5 zz.1 zz.2 iu_X5) t.heap ∧ va_K (dC, dI) vwCl (ty_X5 zz.2) t ∧ va_D (va_A [(h0, .inr (5, [.null, .null, .int 0]))] sz) (wd_X5 zz.1 zz.2 iu_X5)) (va_A [(h0, .inr (5, [.null, .null, .int 0]))] sz)) 2 13312 (va_A [(h0, .inr (5, [.null, .null, .int 0]))] sz) := by
  refine Met.ofW (cc := cX5_init) (maxL := 1) (ret := none) (by decide) rfl ?_
  intro p e s m args below meth c s₁ B hml hv
  obtain ⟨rfl, hsz, hP, hK, hD0⟩ := hv
  have hx := B.exec
  have hb := B.bytes
  have hr := B.returns
  have hts := atoms_spec (ws := wsX5_init) B.pre
  have hown : s.vm.findClass RX5 = some m.cls := findClass_of_methodNamed B.named
  have hlocks := B.notSynchronized
  have hin : meth.name = "<init>" := (name_of_methodNamed B.named B.method).1
  subst hsz
  have hD := hD0.self (sz := s.heap.size)
  generalize hAe : va_A [(h0, .inr (5, [.null, .null, .int 0]))] s.heap.size = A at hD ⊢
  have hA : ∀ q : Nat, s.heap.size ≤ q → A q := fun q h => by rw [← hAe]; exact Or.inr h
  have hS : va_S A s.heap s.heap [] := va_S.rf
  have hl := lv_entry ([.ref h0]) (n := 1) (Nat.le_of_ble_eq_true rfl)
  rw [lg_entry_eq]
  generalize (lg_sl ([.ref h0]) ++ List.replicate (1 - (lg_sl ([.ref h0])).length) Slot.unset).toArray = ls at hl ⊢
  have hl : lv_has ls 1 [(0, .ref h0)] := hl
  have hin_X : ∀ w ∈ wsX50, w ∈ wsX5_init := by decide +kernel
  refine lv_aload_n hx hb dX5_init_0 rfl (lv_at hl 0 rfl) ?_
  refine W.objInit hx hb hown (hts (.methodLink RX5 5 objectInit) (by decide +kernel)) (hts (.instanceMethod objectInit) (by decide +kernel)) (hts (.code objectInit ⟨#[0xb1]⟩ 1 none) (List.mem_of_getElem? (i := 3) rfl)) rfl (by rw [hml]; exact hl.1) rfl dX5_init_1 (Nat.le_of_ble_eq_true rfl) (Nat.le_of_ble_eq_true rfl) ?_
  refine W.eq (g2 := F0 m 4 ls []) rfl ?_
  refine lv_aload_n hx hb dX5_init_4 rfl (lv_at hl 0 rfl) ?_
  refine lv_sipush (v := 512) hx hb dX5_init_5 (by decide) ?_
  refine va_newa (atype := .long) (ty := .long) (n := 512) (N' := 512) (a0 := (512, .inr (.inl (fun _ => 0)))) hx hb (hts (.arrayClass .long) (by decide +kernel)) rfl hK hP hD hS hA (fun _ => rfl) (by decide +kernel) (by decide +kernel) (by decide +kernel) (Nat.le_of_ble_eq_true rfl) (Nat.le_of_ble_eq_true rfl) dX5_init_8 (fun q8 cA8 H hK hP hD hS => ?_)
  have hP : va_P (dC, dI) vwCl [(h0, .inr (5, [.null, .null, .int 0])), (q8, .inl (cA8, 512, .inr (.inl (fun _ => 0))))] H := hP
  have hD : va_D A [(h0, .inr (5, [.null, .null, .int 0])), (q8, .inl (cA8, 512, .inr (.inl (fun _ => 0))))] := hD
  have hK : va_K (dC, dI) vwCl [(cA8, .long)] s := hK
  refine va_putF (D := (dC, dI)) (ci := 5) (v := .ref q8) (ty := .array .long) (C := RX5) (T := TX5) (N := 3) hx hb hts hin_X tyX5 tyX5_ok nmX5 hown hK hP hD hS 0 rfl rfl 0 (by decide) (hts (.fieldLink RX5 11 "ForgettingLines$Walk" "seen" "[J") (by decide +kernel)) (fun _ h9 => h9) rfl hin rfl (by decide +kernel) rfl rfl (Nat.le_of_ble_eq_true rfl) dX5_init_10 (fun H locs hP hD hS => ?_)
  have hP : va_P (dC, dI) vwCl [(h0, .inr (5, [.ref q8, .null, .int 0])), (q8, .inl (cA8, 512, .inr (.inl (fun _ => 0))))] H := hP
  have hD : va_D A [(h0, .inr (5, [.ref q8, .null, .int 0])), (q8, .inl (cA8, 512, .inr (.inl (fun _ => 0))))] := hD
  refine lv_aload_n hx hb dX5_init_13 rfl (lv_at hl 0 rfl) ?_
  refine lv_sipush (v := 12800) hx hb dX5_init_14 (by decide) ?_
  refine va_newa (atype := .int) (ty := .int) (n := 12800) (N' := 12800) (a0 := (12800, .inl (fun _ => 0))) hx hb (hts (.arrayClass .int) (by decide +kernel)) rfl hK hP hD hS hA (fun _ => rfl) (by decide +kernel) (by decide +kernel) (by decide +kernel) (Nat.le_of_ble_eq_true rfl) (Nat.le_of_ble_eq_true rfl) dX5_init_17 (fun q17 cA17 H hK hP hD hS => ?_)
  have hP : va_P (dC, dI) vwCl [(h0, .inr (5, [.ref q8, .null, .int 0])), (q8, .inl (cA8, 512, .inr (.inl (fun _ => 0)))), (q17, .inl (cA17, 12800, .inl (fun _ => 0)))] H := hP
  have hD : va_D A [(h0, .inr (5, [.ref q8, .null, .int 0])), (q8, .inl (cA8, 512, .inr (.inl (fun _ => 0)))), (q17, .inl (cA17, 12800, .inl (fun _ => 0)))] := hD
  have hK : va_K (dC, dI) vwCl [(cA8, .long), (cA17, .int)] s := hK
  refine va_putF (D := (dC, dI)) (ci := 5) (v := .ref q17) (ty := .array .int) (C := RX5) (T := TX5) (N := 3) hx hb hts hin_X tyX5 tyX5_ok nmX5 hown hK hP hD hS 0 rfl rfl 1 (by decide) (hts (.fieldLink RX5 15 "ForgettingLines$Walk" "queue" "[I") (by decide +kernel)) (fun _ h9 => h9) rfl hin rfl (by decide +kernel) rfl rfl (Nat.le_of_ble_eq_true rfl) dX5_init_19 (fun H locs hP hD hS => ?_)
  have hP : va_P (dC, dI) vwCl [(h0, .inr (5, [.ref q8, .ref q17, .int 0])), (q8, .inl (cA8, 512, .inr (.inl (fun _ => 0)))), (q17, .inl (cA17, 12800, .inl (fun _ => 0)))] H := hP
  have hD : va_D A [(h0, .inr (5, [.ref q8, .ref q17, .int 0])), (q8, .inl (cA8, 512, .inr (.inl (fun _ => 0)))), (q17, .inl (cA17, 12800, .inl (fun _ => 0)))] := hD
  refine W.widen (k := 2) (n := 13312) (Nat.le_of_ble_eq_true rfl) (Nat.le_of_ble_eq_true rfl) ?_
  have hP9 : va_P (dC, dI) vwCl (wd_X5 (fun k => if k = 0 then h0 else if k = 1 then q8 else q17) (fun k => if k = 1 then cA8 else cA17) iu_X5) H := hP
  have hD9 : va_D A (wd_X5 (fun k => if k = 0 then h0 else if k = 1 then q8 else q17) (fun k => if k = 1 then cA8 else cA17) iu_X5) := hD
  have hK9 : va_K (dC, dI) vwCl (ty_X5 (fun k => if k = 1 then cA8 else cA17)) s := hK
  exact W.vret hx hb hr (fun t ht hW => ⟨⟨((fun k => if k = 0 then h0 else if k = 1 then q8 else q17), (fun k => if k = 1 then cA8 else cA17)), rfl, rfl, by rw [ht]; exact hP9, va_K.moved hW.alike hK9, hD9⟩, hS.F ht⟩) hS.2.2 dX5_init_22
