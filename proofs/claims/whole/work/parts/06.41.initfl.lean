def iu_X7 : Ob := (fun _ => 0, fun _ _ => 0, fun _ _ => 0)
abbrev rm_X7_init : Room := { frames := 2, cells := 25, slots := 14281, locals := 40 }
theorem sh_f_eq (AA : Nat → Nat → Nat) (x y : Nat) (h7 : AA 7 0 = x) (h8 : AA 8 0 = y) : va_up (va_up (fun _ => none) (0 : Int32).toNatClampNeg (some x)) (1 : Int32).toNatClampNeg (some y) = sh_f AA := by
  have e0 : (0 : Int32).toNatClampNeg = 0 := rfl
  have e1 : (1 : Int32).toNatClampNeg = 1 := rfl
  funext j
  rw [e0, e1]
  unfold va_up sh_f
  rw [h7, h8]
  by_cases hj : j = 1
  · subst hj; simp
  · by_cases hj0 : j = 0
    · subst hj0; simp
    · simp [hj, hj0]
set_option maxHeartbeats 4000000 in
set_option maxRecDepth 100000 in
theorem c_X7_init (l : Launch) (dC : Nat → ClassId) (dI : Nat → Nat → Nat) (h0 sz : Nat) : Met l yX7_init wsX7_init rm_X7_init (va_Pc [.ref h0] (fun U => U.heap.size = sz ∧ va_P (dC, dI) vwCl [(h0, .inr (6, [.null, .null, .null, .null, .null, .null, .null, .int 0]))] U.heap ∧ va_K (dC, dI) vwCl [] U ∧ va_D (fun _ => True) [(h0, .inr (6, [.null, .null, .null, .null, .null, .null, .null, .int 0]))] ∧ nw_ok U ∧ va_AO "ForgettingLines$Sheet" U)) (va_Qv (fun zz : (Nat → Nat → Nat) × (Nat → Nat → ClassId) => zz.1 0 0 = h0) (fun (zz : (Nat → Nat → Nat) × (Nat → Nat → ClassId)) (t : State) => va_P (dC, dI) vwCl (wd_X7 zz.1 zz.2 iu_X7 iu_X0 iu_X4 iu_X1 iu_X1 iu_X2 iu_X5 iu_X3 iu_X3) t.heap ∧ va_K (dC, dI) vwCl (ty_X7 zz.2) t ∧ va_D (va_A [(h0, .inr (6, [.null, .null, .null, .null, .null, .null, .null, .int 0]))] sz) (wd_X7 zz.1 zz.2 iu_X7 iu_X0 iu_X4 iu_X1 iu_X1 iu_X2 iu_X5 iu_X3 iu_X3)) (va_A [(h0, .inr (6, [.null, .null, .null, .null, .null, .null, .null, .int 0]))] sz)) 25 14281 (va_A [(h0, .inr (6, [.null, .null, .null, .null, .null, .null, .null, .int 0]))] sz) := by
  refine Met.ofW (cc := cX7_init) (maxL := 1) (ret := none) (by decide) rfl ?_
  intro p e s m args below meth c s₁ B hml hv
  obtain ⟨rfl, hsz, hP, hK, hD0, hN, hAO⟩ := hv
  have hx := B.exec
  have hb := B.bytes
  have hr := B.returns
  have hts := atoms_spec (ws := wsX7_init) B.pre
  have hown : s.vm.findClass RX7 = some m.cls := findClass_of_methodNamed B.named
  have hlocks := B.notSynchronized
  have hin : meth.name = "<init>" := (name_of_methodNamed B.named B.method).1
  subst hsz
  have hD := hD0.self (sz := s.heap.size)
  generalize hAe : va_A [(h0, .inr (6, [.null, .null, .null, .null, .null, .null, .null, .int 0]))] s.heap.size = A at hD ⊢
  have hA : ∀ q : Nat, s.heap.size ≤ q → A q := fun q h => by rw [← hAe]; exact Or.inr h
  have hS : va_S A s.heap s.heap [] := va_S.rf
  have hl := lv_entry ([.ref h0]) (n := 1) (Nat.le_of_ble_eq_true rfl)
  rw [lg_entry_eq]
  generalize (lg_sl ([.ref h0]) ++ List.replicate (1 - (lg_sl ([.ref h0])).length) Slot.unset).toArray = ls at hl ⊢
  have hl : lv_has ls 1 [(0, .ref h0)] := hl
  have hin_X0 : ∀ w ∈ wsX00, w ∈ wsX7_init := by decide +kernel
  have hin_X1 : ∀ w ∈ wsX10, w ∈ wsX7_init := by decide +kernel
  have hin_X2 : ∀ w ∈ wsX20, w ∈ wsX7_init := by decide +kernel
  have hin_X3 : ∀ w ∈ wsX30, w ∈ wsX7_init := by decide +kernel
  have hin_X4 : ∀ w ∈ wsX40, w ∈ wsX7_init := by decide +kernel
  have hin_X5 : ∀ w ∈ wsX50, w ∈ wsX7_init := by decide +kernel
  have hin_X7 : ∀ w ∈ wsX70, w ∈ wsX7_init := by decide +kernel
  refine lv_aload_n hx hb dX7_init_0 rfl (lv_at hl 0 rfl) ?_
  refine W.objInit hx hb hown (hts (.methodLink RX7 1 objectInit) (by decide +kernel)) (hts (.instanceMethod objectInit) (by decide +kernel)) (hts (.code objectInit ⟨#[0xb1]⟩ 1 none) (List.mem_of_getElem? (i := 3) rfl)) rfl (by rw [hml]; exact hl.1) rfl dX7_init_1 (Nat.le_of_ble_eq_true rfl) (Nat.le_of_ble_eq_true rfl) ?_
  refine W.eq (g2 := F0 m 4 ls []) rfl ?_
  refine lv_aload_n hx hb dX7_init_4 rfl (lv_at hl 0 rfl) ?_
  refine va_new (ci := 0) (fs := [.int 0, .int 0, .null, .null]) (C := RX0) (T := TX0) (N := 4) hx hb hts hin_X0 tyX0 tyX0_ok hown (hts (.classLink RX7 7 RX0) (by decide +kernel)) (hts (.instantiable RX0 4) (by decide +kernel)) (hts (.initialized RX0) (by decide +kernel)) hK hP hD hS hA rfl (fun j hj => by rcases (show j = 0 ∨ j = 1 ∨ j = 2 ∨ j = 3 by omega) with rfl | rfl | rfl | rfl <;> rfl) (Nat.le_of_ble_eq_true rfl) (Nat.le_of_ble_eq_true rfl) dX7_init_5 (fun q5 H hP hD hS => ?_)
  have hP : va_P (dC, dI) vwCl ([(h0, .inr (6, [.null, .null, .null, .null, .null, .null, .null, .int 0]))] ++ ([(q5, .inr (0, [.int 0, .int 0, .null, .null]))] ++ ([]))) H := hP
  have hD : va_D A ([(h0, .inr (6, [.null, .null, .null, .null, .null, .null, .null, .int 0]))] ++ ([(q5, .inr (0, [.int 0, .int 0, .null, .null]))] ++ ([]))) := hD
  refine W.widen (k := 1) (n := 4) (Nat.le_of_ble_eq_true rfl) (Nat.le_of_ble_eq_true rfl) ?_
  refine lv_dup hx hb dX7_init_8 rfl ?_
  have hPc := hP.sub (ws' := [(q5, .inr (0, [.int 0, .int 0, .null, .null]))]) [1] rfl
  have hDc := hD.sub (ws' := [(q5, .inr (0, [.int 0, .int 0, .null, .null]))]) [1] (by decide) rfl
  have hKc := hK.sub (tys' := []) [] rfl
  have hFc := va_free (wc := [(q5, .inr (0, [.int 0, .int 0, .null, .null]))]) hD hS hA [1] rfl
  refine va_callv (va_runIN (As := []) (rest := [.ref q5, .ref h0]) ⟨hx, hb, hml, hown, hts⟩ (c_X0_init l dC dI q5 H.size) ⟨va_cnB 0 hts gX7_init_X0_init_n9 rfl rfl rfl (hN _ (List.mem_of_getElem? (i := 0) rfl)) (hts (.initialized RX0) (by decide +kernel)) (by decide +kernel) ⟨Nat.le_of_ble_eq_true rfl, Nat.le_of_ble_eq_true rfl⟩, rfl, hts (.instanceMethod yX0_init) (by decide +kernel)⟩ ⟨fun a U g mk q => by obtain ⟨q0, q1, qP, qK, qD⟩ := q; exact ⟨q0, q1, qP, va_K.moved (u := U) (U := U.calling g mk a) (Vm.Alike.refl U.vm) qK, qD⟩, fun U hU hW => ⟨rfl, by rw [hU], by rw [hU]; exact hPc, va_K.moved hW.alike hKc, hDc.weaken (fun _ _ _ _ => trivial)⟩⟩ rfl rfl hl.1 rfl (lv_room (Nat.le_of_ble_eq_true rfl)) dX7_init_9 ⟨Nat.le_of_ble_eq_true rfl, Nat.le_of_ble_eq_true rfl⟩) hS (fun q _ h => hFc q h) hFc (fun z1 t H1 locs ht hvm hw hB hz1 hk1 hS => ?_)
  obtain ⟨hP1, hK1, hD1⟩ := hB
  rw [ht] at hP1
  have hK1 := va_K.moved hvm.symm hK1
  subst hw
  obtain ⟨hP, hD⟩ := va_join (wr := ([(h0, .inr (6, [.null, .null, .null, .null, .null, .null, .null, .int 0]))] ++ ([]))) (w1 := wd_X0 z1.1 z1.2 iu_X0) hP hD [1] [0] rfl rfl (by decide) (by decide) hk1 hFc hP1 hD1
  have hK := hK.app hK1
  have hK : va_K (dC, dI) vwCl (ty_X0 z1.2 ++ ([])) s := hK
  have hP : va_P (dC, dI) vwCl ([(h0, .inr (6, [.null, .null, .null, .null, .null, .null, .null, .int 0]))] ++ (wd_X0 z1.1 z1.2 iu_X0 ++ ([]))) H1 := hP
  have hD : va_D A ([(h0, .inr (6, [.null, .null, .null, .null, .null, .null, .null, .int 0]))] ++ (wd_X0 z1.1 z1.2 iu_X0 ++ ([]))) := hD
  generalize H1 = H at hP hS ⊢
  refine W.widen (k := 3) (n := 106) (Nat.le_of_ble_eq_true rfl) (Nat.le_of_ble_eq_true rfl) ?_
  refine va_putF (D := (dC, dI)) (ci := 6) (v := .ref (z1.1 0)) (ty := .object "ForgettingLines$Machine") (C := RX7) (T := TX7) (N := 8) hx hb hts hin_X7 tyX7 tyX7_ok nmX7 hown hK hP hD hS 0 rfl rfl 0 (by decide) (hts (.fieldLink RX7 10 "ForgettingLines" "machine" "LForgettingLines$Machine;") (by decide +kernel)) (fun _ h9 => h9) rfl hin rfl (by decide +kernel) rfl rfl (Nat.le_of_ble_eq_true rfl) dX7_init_12 (fun H locs hP hD hS => ?_)
  have hP : va_P (dC, dI) vwCl ([(h0, .inr (6, [.ref (z1.1 0), .null, .null, .null, .null, .null, .null, .int 0]))] ++ (wd_X0 z1.1 z1.2 iu_X0 ++ ([]))) H := hP
  have hD : va_D A ([(h0, .inr (6, [.ref (z1.1 0), .null, .null, .null, .null, .null, .null, .int 0]))] ++ (wd_X0 z1.1 z1.2 iu_X0 ++ ([]))) := hD
  refine lv_aload_n hx hb dX7_init_15 rfl (lv_at hl 0 rfl) ?_
  refine va_new (ci := 4) (fs := [.int 0, .null, .null, .int 0]) (C := RX4) (T := TX4) (N := 4) hx hb hts hin_X4 tyX4 tyX4_ok hown (hts (.classLink RX7 16 RX4) (by decide +kernel)) (hts (.instantiable RX4 4) (by decide +kernel)) (hts (.initialized RX4) (by decide +kernel)) hK hP hD hS hA rfl (fun j hj => by rcases (show j = 0 ∨ j = 1 ∨ j = 2 ∨ j = 3 by omega) with rfl | rfl | rfl | rfl <;> rfl) (Nat.le_of_ble_eq_true rfl) (Nat.le_of_ble_eq_true rfl) dX7_init_16 (fun q16 H hP hD hS => ?_)
  have hP : va_P (dC, dI) vwCl ([(h0, .inr (6, [.ref (z1.1 0), .null, .null, .null, .null, .null, .null, .int 0]))] ++ (wd_X0 z1.1 z1.2 iu_X0 ++ ([(q16, .inr (4, [.int 0, .null, .null, .int 0]))] ++ ([])))) H := hP
  have hD : va_D A ([(h0, .inr (6, [.ref (z1.1 0), .null, .null, .null, .null, .null, .null, .int 0]))] ++ (wd_X0 z1.1 z1.2 iu_X0 ++ ([(q16, .inr (4, [.int 0, .null, .null, .int 0]))] ++ ([])))) := hD
  refine W.widen (k := 4) (n := 110) (Nat.le_of_ble_eq_true rfl) (Nat.le_of_ble_eq_true rfl) ?_
  refine lv_dup hx hb dX7_init_19 rfl ?_
  have hPc := hP.sub (ws' := [(q16, .inr (4, [.int 0, .null, .null, .int 0]))]) [4] rfl
  have hDc := hD.sub (ws' := [(q16, .inr (4, [.int 0, .null, .null, .int 0]))]) [4] (by decide) rfl
  have hKc := hK.sub (tys' := []) [] rfl
  have hFc := va_free (wc := [(q16, .inr (4, [.int 0, .null, .null, .int 0]))]) hD hS hA [4] rfl
  refine va_callv (va_runIN (As := []) (rest := [.ref q16, .ref h0]) ⟨hx, hb, hml, hown, hts⟩ (c_X4_init l dC dI q16 H.size) ⟨va_cnB 0 hts gX7_init_X4_init_n18 rfl rfl rfl (hN _ (List.mem_of_getElem? (i := 1) rfl)) (hts (.initialized RX4) (by decide +kernel)) (by decide +kernel) ⟨Nat.le_of_ble_eq_true rfl, Nat.le_of_ble_eq_true rfl⟩, rfl, hts (.instanceMethod yX4_init) (by decide +kernel)⟩ ⟨fun a U g mk q => by obtain ⟨q0, q1, qP, qK, qD⟩ := q; exact ⟨q0, q1, qP, va_K.moved (u := U) (U := U.calling g mk a) (Vm.Alike.refl U.vm) qK, qD⟩, fun U hU hW => ⟨rfl, by rw [hU], by rw [hU]; exact hPc, va_K.moved hW.alike hKc, hDc.weaken (fun _ _ _ _ => trivial)⟩⟩ rfl rfl hl.1 rfl (lv_room (Nat.le_of_ble_eq_true rfl)) dX7_init_20 ⟨Nat.le_of_ble_eq_true rfl, Nat.le_of_ble_eq_true rfl⟩) hS (fun q _ h => hFc q h) hFc (fun z2 t H1 locs ht hvm hw hB hz1 hk1 hS => ?_)
  obtain ⟨hP1, hK1, hD1⟩ := hB
  rw [ht] at hP1
  have hK1 := va_K.moved hvm.symm hK1
  subst hw
  obtain ⟨hP, hD⟩ := va_join (wr := ([(h0, .inr (6, [.ref (z1.1 0), .null, .null, .null, .null, .null, .null, .int 0]))] ++ (wd_X0 z1.1 z1.2 iu_X0 ++ ([])))) (w1 := wd_X4 z2.1 z2.2 iu_X4) hP hD [4] [0, 1, 2, 3] rfl rfl (by decide) (by decide) hk1 hFc hP1 hD1
  have hK := hK.app hK1
  have hK : va_K (dC, dI) vwCl (ty_X0 z1.2 ++ (ty_X4 z2.2 ++ ([]))) s := hK
  have hP : va_P (dC, dI) vwCl ([(h0, .inr (6, [.ref (z1.1 0), .null, .null, .null, .null, .null, .null, .int 0]))] ++ (wd_X0 z1.1 z1.2 iu_X0 ++ (wd_X4 z2.1 z2.2 iu_X4 ++ ([])))) H1 := hP
  have hD : va_D A ([(h0, .inr (6, [.ref (z1.1 0), .null, .null, .null, .null, .null, .null, .int 0]))] ++ (wd_X0 z1.1 z1.2 iu_X0 ++ (wd_X4 z2.1 z2.2 iu_X4 ++ ([])))) := hD
  generalize H1 = H at hP hS ⊢
  refine W.widen (k := 6) (n := 340) (Nat.le_of_ble_eq_true rfl) (Nat.le_of_ble_eq_true rfl) ?_
  refine va_putF (D := (dC, dI)) (ci := 6) (v := .ref (z2.1 0)) (ty := .object "ForgettingLines$Tape") (C := RX7) (T := TX7) (N := 8) hx hb hts hin_X7 tyX7 tyX7_ok nmX7 hown hK hP hD hS 0 rfl rfl 1 (by decide) (hts (.fieldLink RX7 19 "ForgettingLines" "tape" "LForgettingLines$Tape;") (by decide +kernel)) (fun _ h9 => h9) rfl hin rfl (by decide +kernel) rfl rfl (Nat.le_of_ble_eq_true rfl) dX7_init_23 (fun H locs hP hD hS => ?_)
  have hP : va_P (dC, dI) vwCl ([(h0, .inr (6, [.ref (z1.1 0), .ref (z2.1 0), .null, .null, .null, .null, .null, .int 0]))] ++ (wd_X0 z1.1 z1.2 iu_X0 ++ (wd_X4 z2.1 z2.2 iu_X4 ++ ([])))) H := hP
  have hD : va_D A ([(h0, .inr (6, [.ref (z1.1 0), .ref (z2.1 0), .null, .null, .null, .null, .null, .int 0]))] ++ (wd_X0 z1.1 z1.2 iu_X0 ++ (wd_X4 z2.1 z2.2 iu_X4 ++ ([])))) := hD
  refine lv_aload_n hx hb dX7_init_26 rfl (lv_at hl 0 rfl) ?_
  refine va_new (ci := 1) (fs := [.int 0, .null]) (C := RX1) (T := TX1) (N := 2) hx hb hts hin_X1 tyX1 tyX1_ok hown (hts (.classLink RX7 23 RX1) (by decide +kernel)) (hts (.instantiable RX1 2) (by decide +kernel)) (hts (.initialized RX1) (by decide +kernel)) hK hP hD hS hA rfl (fun j hj => by rcases (show j = 0 ∨ j = 1 by omega) with rfl | rfl <;> rfl) (Nat.le_of_ble_eq_true rfl) (Nat.le_of_ble_eq_true rfl) dX7_init_27 (fun q27 H hP hD hS => ?_)
  have hP : va_P (dC, dI) vwCl ([(h0, .inr (6, [.ref (z1.1 0), .ref (z2.1 0), .null, .null, .null, .null, .null, .int 0]))] ++ (wd_X0 z1.1 z1.2 iu_X0 ++ (wd_X4 z2.1 z2.2 iu_X4 ++ ([(q27, .inr (1, [.int 0, .null]))] ++ ([]))))) H := hP
  have hD : va_D A ([(h0, .inr (6, [.ref (z1.1 0), .ref (z2.1 0), .null, .null, .null, .null, .null, .int 0]))] ++ (wd_X0 z1.1 z1.2 iu_X0 ++ (wd_X4 z2.1 z2.2 iu_X4 ++ ([(q27, .inr (1, [.int 0, .null]))] ++ ([]))))) := hD
  refine W.widen (k := 7) (n := 342) (Nat.le_of_ble_eq_true rfl) (Nat.le_of_ble_eq_true rfl) ?_
  refine lv_dup hx hb dX7_init_30 rfl ?_
  have hPc := hP.sub (ws' := [(q27, .inr (1, [.int 0, .null]))]) [7] rfl
  have hDc := hD.sub (ws' := [(q27, .inr (1, [.int 0, .null]))]) [7] (by decide) rfl
  have hKc := hK.sub (tys' := []) [] rfl
  have hFc := va_free (wc := [(q27, .inr (1, [.int 0, .null]))]) hD hS hA [7] rfl
  refine va_callv (va_runIN (As := []) (rest := [.ref q27, .ref h0]) ⟨hx, hb, hml, hown, hts⟩ (c_X1_init l dC dI q27 H.size) ⟨va_cnB 0 hts gX7_init_X1_init_n25 rfl rfl rfl (hN _ (List.mem_of_getElem? (i := 2) rfl)) (hts (.initialized RX1) (by decide +kernel)) (by decide +kernel) ⟨Nat.le_of_ble_eq_true rfl, Nat.le_of_ble_eq_true rfl⟩, rfl, hts (.instanceMethod yX1_init) (by decide +kernel)⟩ ⟨fun a U g mk q => by obtain ⟨q0, q1, qP, qK, qD⟩ := q; exact ⟨q0, q1, qP, va_K.moved (u := U) (U := U.calling g mk a) (Vm.Alike.refl U.vm) qK, qD⟩, fun U hU hW => ⟨rfl, by rw [hU], by rw [hU]; exact hPc, va_K.moved hW.alike hKc, hDc.weaken (fun _ _ _ _ => trivial)⟩⟩ rfl rfl hl.1 rfl (lv_room (Nat.le_of_ble_eq_true rfl)) dX7_init_31 ⟨Nat.le_of_ble_eq_true rfl, Nat.le_of_ble_eq_true rfl⟩) hS (fun q _ h => hFc q h) hFc (fun z3 t H1 locs ht hvm hw hB hz1 hk1 hS => ?_)
  obtain ⟨hP1, hK1, hD1⟩ := hB
  rw [ht] at hP1
  have hK1 := va_K.moved hvm.symm hK1
  subst hw
  obtain ⟨hP, hD⟩ := va_join (wr := ([(h0, .inr (6, [.ref (z1.1 0), .ref (z2.1 0), .null, .null, .null, .null, .null, .int 0]))] ++ (wd_X0 z1.1 z1.2 iu_X0 ++ (wd_X4 z2.1 z2.2 iu_X4 ++ ([]))))) (w1 := wd_X1 z3.1 z3.2 iu_X1) hP hD [7] [0, 1, 2, 3, 4, 5, 6] rfl rfl (by decide) (by decide) hk1 hFc hP1 hD1
  have hK := hK.app hK1
  have hK : va_K (dC, dI) vwCl (ty_X0 z1.2 ++ (ty_X4 z2.2 ++ (ty_X1 z3.2 ++ ([])))) s := hK
  have hP : va_P (dC, dI) vwCl ([(h0, .inr (6, [.ref (z1.1 0), .ref (z2.1 0), .null, .null, .null, .null, .null, .int 0]))] ++ (wd_X0 z1.1 z1.2 iu_X0 ++ (wd_X4 z2.1 z2.2 iu_X4 ++ (wd_X1 z3.1 z3.2 iu_X1 ++ ([]))))) H1 := hP
  have hD : va_D A ([(h0, .inr (6, [.ref (z1.1 0), .ref (z2.1 0), .null, .null, .null, .null, .null, .int 0]))] ++ (wd_X0 z1.1 z1.2 iu_X0 ++ (wd_X4 z2.1 z2.2 iu_X4 ++ (wd_X1 z3.1 z3.2 iu_X1 ++ ([]))))) := hD
  generalize H1 = H at hP hS ⊢
  refine W.widen (k := 8) (n := 344) (Nat.le_of_ble_eq_true rfl) (Nat.le_of_ble_eq_true rfl) ?_
  refine va_putF (D := (dC, dI)) (ci := 6) (v := .ref (z3.1 0)) (ty := .object "ForgettingLines$Place") (C := RX7) (T := TX7) (N := 8) hx hb hts hin_X7 tyX7 tyX7_ok nmX7 hown hK hP hD hS 0 rfl rfl 2 (by decide) (hts (.fieldLink RX7 26 "ForgettingLines" "here" "LForgettingLines$Place;") (by decide +kernel)) (fun _ h9 => h9) rfl hin rfl (by decide +kernel) rfl rfl (Nat.le_of_ble_eq_true rfl) dX7_init_34 (fun H locs hP hD hS => ?_)
  have hP : va_P (dC, dI) vwCl ([(h0, .inr (6, [.ref (z1.1 0), .ref (z2.1 0), .ref (z3.1 0), .null, .null, .null, .null, .int 0]))] ++ (wd_X0 z1.1 z1.2 iu_X0 ++ (wd_X4 z2.1 z2.2 iu_X4 ++ (wd_X1 z3.1 z3.2 iu_X1 ++ ([]))))) H := hP
  have hD : va_D A ([(h0, .inr (6, [.ref (z1.1 0), .ref (z2.1 0), .ref (z3.1 0), .null, .null, .null, .null, .int 0]))] ++ (wd_X0 z1.1 z1.2 iu_X0 ++ (wd_X4 z2.1 z2.2 iu_X4 ++ (wd_X1 z3.1 z3.2 iu_X1 ++ ([]))))) := hD
  refine lv_aload_n hx hb dX7_init_37 rfl (lv_at hl 0 rfl) ?_
  refine va_new (ci := 1) (fs := [.int 0, .null]) (C := RX1) (T := TX1) (N := 2) hx hb hts hin_X1 tyX1 tyX1_ok hown (hts (.classLink RX7 23 RX1) (by decide +kernel)) (hts (.instantiable RX1 2) (by decide +kernel)) (hts (.initialized RX1) (by decide +kernel)) hK hP hD hS hA rfl (fun j hj => by rcases (show j = 0 ∨ j = 1 by omega) with rfl | rfl <;> rfl) (Nat.le_of_ble_eq_true rfl) (Nat.le_of_ble_eq_true rfl) dX7_init_38 (fun q38 H hP hD hS => ?_)
  have hP : va_P (dC, dI) vwCl ([(h0, .inr (6, [.ref (z1.1 0), .ref (z2.1 0), .ref (z3.1 0), .null, .null, .null, .null, .int 0]))] ++ (wd_X0 z1.1 z1.2 iu_X0 ++ (wd_X4 z2.1 z2.2 iu_X4 ++ (wd_X1 z3.1 z3.2 iu_X1 ++ ([(q38, .inr (1, [.int 0, .null]))] ++ ([])))))) H := hP
  have hD : va_D A ([(h0, .inr (6, [.ref (z1.1 0), .ref (z2.1 0), .ref (z3.1 0), .null, .null, .null, .null, .int 0]))] ++ (wd_X0 z1.1 z1.2 iu_X0 ++ (wd_X4 z2.1 z2.2 iu_X4 ++ (wd_X1 z3.1 z3.2 iu_X1 ++ ([(q38, .inr (1, [.int 0, .null]))] ++ ([])))))) := hD
  refine W.widen (k := 9) (n := 346) (Nat.le_of_ble_eq_true rfl) (Nat.le_of_ble_eq_true rfl) ?_
  refine lv_dup hx hb dX7_init_41 rfl ?_
  have hPc := hP.sub (ws' := [(q38, .inr (1, [.int 0, .null]))]) [9] rfl
  have hDc := hD.sub (ws' := [(q38, .inr (1, [.int 0, .null]))]) [9] (by decide) rfl
  have hKc := hK.sub (tys' := []) [] rfl
  have hFc := va_free (wc := [(q38, .inr (1, [.int 0, .null]))]) hD hS hA [9] rfl
  refine va_callv (va_runIN (As := []) (rest := [.ref q38, .ref h0]) ⟨hx, hb, hml, hown, hts⟩ (c_X1_init l dC dI q38 H.size) ⟨va_cnB 0 hts gX7_init_X1_init_n25 rfl rfl rfl (hN _ (List.mem_of_getElem? (i := 2) rfl)) (hts (.initialized RX1) (by decide +kernel)) (by decide +kernel) ⟨Nat.le_of_ble_eq_true rfl, Nat.le_of_ble_eq_true rfl⟩, rfl, hts (.instanceMethod yX1_init) (by decide +kernel)⟩ ⟨fun a U g mk q => by obtain ⟨q0, q1, qP, qK, qD⟩ := q; exact ⟨q0, q1, qP, va_K.moved (u := U) (U := U.calling g mk a) (Vm.Alike.refl U.vm) qK, qD⟩, fun U hU hW => ⟨rfl, by rw [hU], by rw [hU]; exact hPc, va_K.moved hW.alike hKc, hDc.weaken (fun _ _ _ _ => trivial)⟩⟩ rfl rfl hl.1 rfl (lv_room (Nat.le_of_ble_eq_true rfl)) dX7_init_42 ⟨Nat.le_of_ble_eq_true rfl, Nat.le_of_ble_eq_true rfl⟩) hS (fun q _ h => hFc q h) hFc (fun z4 t H1 locs ht hvm hw hB hz1 hk1 hS => ?_)
  obtain ⟨hP1, hK1, hD1⟩ := hB
  rw [ht] at hP1
  have hK1 := va_K.moved hvm.symm hK1
  subst hw
  obtain ⟨hP, hD⟩ := va_join (wr := ([(h0, .inr (6, [.ref (z1.1 0), .ref (z2.1 0), .ref (z3.1 0), .null, .null, .null, .null, .int 0]))] ++ (wd_X0 z1.1 z1.2 iu_X0 ++ (wd_X4 z2.1 z2.2 iu_X4 ++ (wd_X1 z3.1 z3.2 iu_X1 ++ ([])))))) (w1 := wd_X1 z4.1 z4.2 iu_X1) hP hD [9] [0, 1, 2, 3, 4, 5, 6, 7, 8] rfl rfl (by decide) (by decide) hk1 hFc hP1 hD1
  have hK := hK.app hK1
  have hK : va_K (dC, dI) vwCl (ty_X0 z1.2 ++ (ty_X4 z2.2 ++ (ty_X1 z3.2 ++ (ty_X1 z4.2 ++ ([]))))) s := hK
  have hP : va_P (dC, dI) vwCl ([(h0, .inr (6, [.ref (z1.1 0), .ref (z2.1 0), .ref (z3.1 0), .null, .null, .null, .null, .int 0]))] ++ (wd_X0 z1.1 z1.2 iu_X0 ++ (wd_X4 z2.1 z2.2 iu_X4 ++ (wd_X1 z3.1 z3.2 iu_X1 ++ (wd_X1 z4.1 z4.2 iu_X1 ++ ([])))))) H1 := hP
  have hD : va_D A ([(h0, .inr (6, [.ref (z1.1 0), .ref (z2.1 0), .ref (z3.1 0), .null, .null, .null, .null, .int 0]))] ++ (wd_X0 z1.1 z1.2 iu_X0 ++ (wd_X4 z2.1 z2.2 iu_X4 ++ (wd_X1 z3.1 z3.2 iu_X1 ++ (wd_X1 z4.1 z4.2 iu_X1 ++ ([])))))) := hD
  generalize H1 = H at hP hS ⊢
  refine W.widen (k := 10) (n := 348) (Nat.le_of_ble_eq_true rfl) (Nat.le_of_ble_eq_true rfl) ?_
  refine va_putF (D := (dC, dI)) (ci := 6) (v := .ref (z4.1 0)) (ty := .object "ForgettingLines$Place") (C := RX7) (T := TX7) (N := 8) hx hb hts hin_X7 tyX7 tyX7_ok nmX7 hown hK hP hD hS 0 rfl rfl 3 (by decide) (hts (.fieldLink RX7 30 "ForgettingLines" "target" "LForgettingLines$Place;") (by decide +kernel)) (fun _ h9 => h9) rfl hin rfl (by decide +kernel) rfl rfl (Nat.le_of_ble_eq_true rfl) dX7_init_45 (fun H locs hP hD hS => ?_)
  have hP : va_P (dC, dI) vwCl ([(h0, .inr (6, [.ref (z1.1 0), .ref (z2.1 0), .ref (z3.1 0), .ref (z4.1 0), .null, .null, .null, .int 0]))] ++ (wd_X0 z1.1 z1.2 iu_X0 ++ (wd_X4 z2.1 z2.2 iu_X4 ++ (wd_X1 z3.1 z3.2 iu_X1 ++ (wd_X1 z4.1 z4.2 iu_X1 ++ ([])))))) H := hP
  have hD : va_D A ([(h0, .inr (6, [.ref (z1.1 0), .ref (z2.1 0), .ref (z3.1 0), .ref (z4.1 0), .null, .null, .null, .int 0]))] ++ (wd_X0 z1.1 z1.2 iu_X0 ++ (wd_X4 z2.1 z2.2 iu_X4 ++ (wd_X1 z3.1 z3.2 iu_X1 ++ (wd_X1 z4.1 z4.2 iu_X1 ++ ([])))))) := hD
  refine lv_aload_n hx hb dX7_init_48 rfl (lv_at hl 0 rfl) ?_
  refine va_new (ci := 2) (fs := [.int 0, .int 0, .null, .null, .null, .null, .null, .null]) (C := RX2) (T := TX2) (N := 8) hx hb hts hin_X2 tyX2 tyX2_ok hown (hts (.classLink RX7 33 RX2) (by decide +kernel)) (hts (.instantiable RX2 8) (by decide +kernel)) (hts (.initialized RX2) (by decide +kernel)) hK hP hD hS hA rfl (fun j hj => by rcases (show j = 0 ∨ j = 1 ∨ j = 2 ∨ j = 3 ∨ j = 4 ∨ j = 5 ∨ j = 6 ∨ j = 7 by omega) with rfl | rfl | rfl | rfl | rfl | rfl | rfl | rfl <;> rfl) (Nat.le_of_ble_eq_true rfl) (Nat.le_of_ble_eq_true rfl) dX7_init_49 (fun q49 H hP hD hS => ?_)
  have hP : va_P (dC, dI) vwCl ([(h0, .inr (6, [.ref (z1.1 0), .ref (z2.1 0), .ref (z3.1 0), .ref (z4.1 0), .null, .null, .null, .int 0]))] ++ (wd_X0 z1.1 z1.2 iu_X0 ++ (wd_X4 z2.1 z2.2 iu_X4 ++ (wd_X1 z3.1 z3.2 iu_X1 ++ (wd_X1 z4.1 z4.2 iu_X1 ++ ([(q49, .inr (2, [.int 0, .int 0, .null, .null, .null, .null, .null, .null]))] ++ ([]))))))) H := hP
  have hD : va_D A ([(h0, .inr (6, [.ref (z1.1 0), .ref (z2.1 0), .ref (z3.1 0), .ref (z4.1 0), .null, .null, .null, .int 0]))] ++ (wd_X0 z1.1 z1.2 iu_X0 ++ (wd_X4 z2.1 z2.2 iu_X4 ++ (wd_X1 z3.1 z3.2 iu_X1 ++ (wd_X1 z4.1 z4.2 iu_X1 ++ ([(q49, .inr (2, [.int 0, .int 0, .null, .null, .null, .null, .null, .null]))] ++ ([]))))))) := hD
  refine W.widen (k := 11) (n := 356) (Nat.le_of_ble_eq_true rfl) (Nat.le_of_ble_eq_true rfl) ?_
  refine lv_dup hx hb dX7_init_52 rfl ?_
  have hPc := hP.sub (ws' := [(q49, .inr (2, [.int 0, .int 0, .null, .null, .null, .null, .null, .null]))]) [11] rfl
  have hDc := hD.sub (ws' := [(q49, .inr (2, [.int 0, .int 0, .null, .null, .null, .null, .null, .null]))]) [11] (by decide) rfl
  have hKc := hK.sub (tys' := []) [] rfl
  have hFc := va_free (wc := [(q49, .inr (2, [.int 0, .int 0, .null, .null, .null, .null, .null, .null]))]) hD hS hA [11] rfl
  refine va_callv (va_runIN (As := []) (rest := [.ref q49, .ref h0]) ⟨hx, hb, hml, hown, hts⟩ (c_X2_init l dC dI q49 H.size) ⟨va_cnB 0 hts gX7_init_X2_init_n35 rfl rfl rfl (hN _ (List.mem_of_getElem? (i := 3) rfl)) (hts (.initialized RX2) (by decide +kernel)) (by decide +kernel) ⟨Nat.le_of_ble_eq_true rfl, Nat.le_of_ble_eq_true rfl⟩, rfl, hts (.instanceMethod yX2_init) (by decide +kernel)⟩ ⟨fun a U g mk q => by obtain ⟨q0, q1, qP, qK, qD⟩ := q; exact ⟨q0, q1, qP, va_K.moved (u := U) (U := U.calling g mk a) (Vm.Alike.refl U.vm) qK, qD⟩, fun U hU hW => ⟨rfl, by rw [hU], by rw [hU]; exact hPc, va_K.moved hW.alike hKc, hDc.weaken (fun _ _ _ _ => trivial)⟩⟩ rfl rfl hl.1 rfl (lv_room (Nat.le_of_ble_eq_true rfl)) dX7_init_53 ⟨Nat.le_of_ble_eq_true rfl, Nat.le_of_ble_eq_true rfl⟩) hS (fun q _ h => hFc q h) hFc (fun z5 t H1 locs ht hvm hw hB hz1 hk1 hS => ?_)
  obtain ⟨hP1, hK1, hD1⟩ := hB
  rw [ht] at hP1
  have hK1 := va_K.moved hvm.symm hK1
  subst hw
  obtain ⟨hP, hD⟩ := va_join (wr := ([(h0, .inr (6, [.ref (z1.1 0), .ref (z2.1 0), .ref (z3.1 0), .ref (z4.1 0), .null, .null, .null, .int 0]))] ++ (wd_X0 z1.1 z1.2 iu_X0 ++ (wd_X4 z2.1 z2.2 iu_X4 ++ (wd_X1 z3.1 z3.2 iu_X1 ++ (wd_X1 z4.1 z4.2 iu_X1 ++ ([]))))))) (w1 := wd_X2 z5.1 z5.2 iu_X2) hP hD [11] [0, 1, 2, 3, 4, 5, 6, 7, 8, 9, 10] rfl rfl (by decide) (by decide) hk1 hFc hP1 hD1
  have hK := hK.app hK1
  have hK : va_K (dC, dI) vwCl (ty_X0 z1.2 ++ (ty_X4 z2.2 ++ (ty_X1 z3.2 ++ (ty_X1 z4.2 ++ (ty_X2 z5.2 ++ ([])))))) s := hK
  have hP : va_P (dC, dI) vwCl ([(h0, .inr (6, [.ref (z1.1 0), .ref (z2.1 0), .ref (z3.1 0), .ref (z4.1 0), .null, .null, .null, .int 0]))] ++ (wd_X0 z1.1 z1.2 iu_X0 ++ (wd_X4 z2.1 z2.2 iu_X4 ++ (wd_X1 z3.1 z3.2 iu_X1 ++ (wd_X1 z4.1 z4.2 iu_X1 ++ (wd_X2 z5.1 z5.2 iu_X2 ++ ([]))))))) H1 := hP
  have hD : va_D A ([(h0, .inr (6, [.ref (z1.1 0), .ref (z2.1 0), .ref (z3.1 0), .ref (z4.1 0), .null, .null, .null, .int 0]))] ++ (wd_X0 z1.1 z1.2 iu_X0 ++ (wd_X4 z2.1 z2.2 iu_X4 ++ (wd_X1 z3.1 z3.2 iu_X1 ++ (wd_X1 z4.1 z4.2 iu_X1 ++ (wd_X2 z5.1 z5.2 iu_X2 ++ ([]))))))) := hD
  generalize H1 = H at hP hS ⊢
  refine W.widen (k := 17) (n := 836) (Nat.le_of_ble_eq_true rfl) (Nat.le_of_ble_eq_true rfl) ?_
  refine va_putF (D := (dC, dI)) (ci := 6) (v := .ref (z5.1 0)) (ty := .object "ForgettingLines$Search") (C := RX7) (T := TX7) (N := 8) hx hb hts hin_X7 tyX7 tyX7_ok nmX7 hown hK hP hD hS 0 rfl rfl 4 (by decide) (hts (.fieldLink RX7 36 "ForgettingLines" "search" "LForgettingLines$Search;") (by decide +kernel)) (fun _ h9 => h9) rfl hin rfl (by decide +kernel) rfl rfl (Nat.le_of_ble_eq_true rfl) dX7_init_56 (fun H locs hP hD hS => ?_)
  have hP : va_P (dC, dI) vwCl ([(h0, .inr (6, [.ref (z1.1 0), .ref (z2.1 0), .ref (z3.1 0), .ref (z4.1 0), .ref (z5.1 0), .null, .null, .int 0]))] ++ (wd_X0 z1.1 z1.2 iu_X0 ++ (wd_X4 z2.1 z2.2 iu_X4 ++ (wd_X1 z3.1 z3.2 iu_X1 ++ (wd_X1 z4.1 z4.2 iu_X1 ++ (wd_X2 z5.1 z5.2 iu_X2 ++ ([]))))))) H := hP
  have hD : va_D A ([(h0, .inr (6, [.ref (z1.1 0), .ref (z2.1 0), .ref (z3.1 0), .ref (z4.1 0), .ref (z5.1 0), .null, .null, .int 0]))] ++ (wd_X0 z1.1 z1.2 iu_X0 ++ (wd_X4 z2.1 z2.2 iu_X4 ++ (wd_X1 z3.1 z3.2 iu_X1 ++ (wd_X1 z4.1 z4.2 iu_X1 ++ (wd_X2 z5.1 z5.2 iu_X2 ++ ([]))))))) := hD
  refine lv_aload_n hx hb dX7_init_59 rfl (lv_at hl 0 rfl) ?_
  refine va_new (ci := 5) (fs := [.null, .null, .int 0]) (C := RX5) (T := TX5) (N := 3) hx hb hts hin_X5 tyX5 tyX5_ok hown (hts (.classLink RX7 40 RX5) (by decide +kernel)) (hts (.instantiable RX5 3) (by decide +kernel)) (hts (.initialized RX5) (by decide +kernel)) hK hP hD hS hA rfl (fun j hj => by rcases (show j = 0 ∨ j = 1 ∨ j = 2 by omega) with rfl | rfl | rfl <;> rfl) (Nat.le_of_ble_eq_true rfl) (Nat.le_of_ble_eq_true rfl) dX7_init_60 (fun q60 H hP hD hS => ?_)
  have hP : va_P (dC, dI) vwCl ([(h0, .inr (6, [.ref (z1.1 0), .ref (z2.1 0), .ref (z3.1 0), .ref (z4.1 0), .ref (z5.1 0), .null, .null, .int 0]))] ++ (wd_X0 z1.1 z1.2 iu_X0 ++ (wd_X4 z2.1 z2.2 iu_X4 ++ (wd_X1 z3.1 z3.2 iu_X1 ++ (wd_X1 z4.1 z4.2 iu_X1 ++ (wd_X2 z5.1 z5.2 iu_X2 ++ ([(q60, .inr (5, [.null, .null, .int 0]))] ++ ([])))))))) H := hP
  have hD : va_D A ([(h0, .inr (6, [.ref (z1.1 0), .ref (z2.1 0), .ref (z3.1 0), .ref (z4.1 0), .ref (z5.1 0), .null, .null, .int 0]))] ++ (wd_X0 z1.1 z1.2 iu_X0 ++ (wd_X4 z2.1 z2.2 iu_X4 ++ (wd_X1 z3.1 z3.2 iu_X1 ++ (wd_X1 z4.1 z4.2 iu_X1 ++ (wd_X2 z5.1 z5.2 iu_X2 ++ ([(q60, .inr (5, [.null, .null, .int 0]))] ++ ([])))))))) := hD
  refine W.widen (k := 18) (n := 839) (Nat.le_of_ble_eq_true rfl) (Nat.le_of_ble_eq_true rfl) ?_
  refine lv_dup hx hb dX7_init_63 rfl ?_
  have hPc := hP.sub (ws' := [(q60, .inr (5, [.null, .null, .int 0]))]) [18] rfl
  have hDc := hD.sub (ws' := [(q60, .inr (5, [.null, .null, .int 0]))]) [18] (by decide) rfl
  have hKc := hK.sub (tys' := []) [] rfl
  have hFc := va_free (wc := [(q60, .inr (5, [.null, .null, .int 0]))]) hD hS hA [18] rfl
  refine va_callv (va_runIN (As := []) (rest := [.ref q60, .ref h0]) ⟨hx, hb, hml, hown, hts⟩ (c_X5_init l dC dI q60 H.size) ⟨va_cnB 0 hts gX7_init_X5_init_n42 rfl rfl rfl (hN _ (List.mem_of_getElem? (i := 4) rfl)) (hts (.initialized RX5) (by decide +kernel)) (by decide +kernel) ⟨Nat.le_of_ble_eq_true rfl, Nat.le_of_ble_eq_true rfl⟩, rfl, hts (.instanceMethod yX5_init) (by decide +kernel)⟩ ⟨fun a U g mk q => by obtain ⟨q0, q1, qP, qK, qD⟩ := q; exact ⟨q0, q1, qP, va_K.moved (u := U) (U := U.calling g mk a) (Vm.Alike.refl U.vm) qK, qD⟩, fun U hU hW => ⟨rfl, by rw [hU], by rw [hU]; exact hPc, va_K.moved hW.alike hKc, hDc.weaken (fun _ _ _ _ => trivial)⟩⟩ rfl rfl hl.1 rfl (lv_room (Nat.le_of_ble_eq_true rfl)) dX7_init_64 ⟨Nat.le_of_ble_eq_true rfl, Nat.le_of_ble_eq_true rfl⟩) hS (fun q _ h => hFc q h) hFc (fun z6 t H1 locs ht hvm hw hB hz1 hk1 hS => ?_)
  obtain ⟨hP1, hK1, hD1⟩ := hB
  rw [ht] at hP1
  have hK1 := va_K.moved hvm.symm hK1
  subst hw
  obtain ⟨hP, hD⟩ := va_join (wr := ([(h0, .inr (6, [.ref (z1.1 0), .ref (z2.1 0), .ref (z3.1 0), .ref (z4.1 0), .ref (z5.1 0), .null, .null, .int 0]))] ++ (wd_X0 z1.1 z1.2 iu_X0 ++ (wd_X4 z2.1 z2.2 iu_X4 ++ (wd_X1 z3.1 z3.2 iu_X1 ++ (wd_X1 z4.1 z4.2 iu_X1 ++ (wd_X2 z5.1 z5.2 iu_X2 ++ ([])))))))) (w1 := wd_X5 z6.1 z6.2 iu_X5) hP hD [18] [0, 1, 2, 3, 4, 5, 6, 7, 8, 9, 10, 11, 12, 13, 14, 15, 16, 17] rfl rfl (by decide) (by decide) hk1 hFc hP1 hD1
  have hK := hK.app hK1
  have hK : va_K (dC, dI) vwCl (ty_X0 z1.2 ++ (ty_X4 z2.2 ++ (ty_X1 z3.2 ++ (ty_X1 z4.2 ++ (ty_X2 z5.2 ++ (ty_X5 z6.2 ++ ([]))))))) s := hK
  have hP : va_P (dC, dI) vwCl ([(h0, .inr (6, [.ref (z1.1 0), .ref (z2.1 0), .ref (z3.1 0), .ref (z4.1 0), .ref (z5.1 0), .null, .null, .int 0]))] ++ (wd_X0 z1.1 z1.2 iu_X0 ++ (wd_X4 z2.1 z2.2 iu_X4 ++ (wd_X1 z3.1 z3.2 iu_X1 ++ (wd_X1 z4.1 z4.2 iu_X1 ++ (wd_X2 z5.1 z5.2 iu_X2 ++ (wd_X5 z6.1 z6.2 iu_X5 ++ ([])))))))) H1 := hP
  have hD : va_D A ([(h0, .inr (6, [.ref (z1.1 0), .ref (z2.1 0), .ref (z3.1 0), .ref (z4.1 0), .ref (z5.1 0), .null, .null, .int 0]))] ++ (wd_X0 z1.1 z1.2 iu_X0 ++ (wd_X4 z2.1 z2.2 iu_X4 ++ (wd_X1 z3.1 z3.2 iu_X1 ++ (wd_X1 z4.1 z4.2 iu_X1 ++ (wd_X2 z5.1 z5.2 iu_X2 ++ (wd_X5 z6.1 z6.2 iu_X5 ++ ([])))))))) := hD
  generalize H1 = H at hP hS ⊢
  refine W.widen (k := 20) (n := 14151) (Nat.le_of_ble_eq_true rfl) (Nat.le_of_ble_eq_true rfl) ?_
  refine va_putF (D := (dC, dI)) (ci := 6) (v := .ref (z6.1 0)) (ty := .object "ForgettingLines$Walk") (C := RX7) (T := TX7) (N := 8) hx hb hts hin_X7 tyX7 tyX7_ok nmX7 hown hK hP hD hS 0 rfl rfl 5 (by decide) (hts (.fieldLink RX7 43 "ForgettingLines" "walk" "LForgettingLines$Walk;") (by decide +kernel)) (fun _ h9 => h9) rfl hin rfl (by decide +kernel) rfl rfl (Nat.le_of_ble_eq_true rfl) dX7_init_67 (fun H locs hP hD hS => ?_)
  have hP : va_P (dC, dI) vwCl ([(h0, .inr (6, [.ref (z1.1 0), .ref (z2.1 0), .ref (z3.1 0), .ref (z4.1 0), .ref (z5.1 0), .ref (z6.1 0), .null, .int 0]))] ++ (wd_X0 z1.1 z1.2 iu_X0 ++ (wd_X4 z2.1 z2.2 iu_X4 ++ (wd_X1 z3.1 z3.2 iu_X1 ++ (wd_X1 z4.1 z4.2 iu_X1 ++ (wd_X2 z5.1 z5.2 iu_X2 ++ (wd_X5 z6.1 z6.2 iu_X5 ++ ([])))))))) H := hP
  have hD : va_D A ([(h0, .inr (6, [.ref (z1.1 0), .ref (z2.1 0), .ref (z3.1 0), .ref (z4.1 0), .ref (z5.1 0), .ref (z6.1 0), .null, .int 0]))] ++ (wd_X0 z1.1 z1.2 iu_X0 ++ (wd_X4 z2.1 z2.2 iu_X4 ++ (wd_X1 z3.1 z3.2 iu_X1 ++ (wd_X1 z4.1 z4.2 iu_X1 ++ (wd_X2 z5.1 z5.2 iu_X2 ++ (wd_X5 z6.1 z6.2 iu_X5 ++ ([])))))))) := hD
  refine lv_aload_n hx hb dX7_init_70 rfl (lv_at hl 0 rfl) ?_
  refine lv_iconst (v := 2) hx hb dX7_init_71 (by decide) ?_
  refine va_newq (n := 2) (N' := 2) hx hb hown (hts (.classLink RX7 47 RX3) (by decide +kernel)) hAO hK hP hD hS hA (by decide +kernel) (by decide +kernel) (by decide +kernel) (Nat.le_of_ble_eq_true rfl) (Nat.le_of_ble_eq_true rfl) dX7_init_72 (fun qarr cArr H hK hP hD hS => ?_)
  have hK : va_K (dC, dI) vwCl (ty_X0 z1.2 ++ (ty_X4 z2.2 ++ (ty_X1 z3.2 ++ (ty_X1 z4.2 ++ (ty_X2 z5.2 ++ (ty_X5 z6.2 ++ ([(cArr, .object "ForgettingLines$Sheet")] ++ ([])))))))) s := hK
  have hP : va_P (dC, dI) vwCl ([(h0, .inr (6, [.ref (z1.1 0), .ref (z2.1 0), .ref (z3.1 0), .ref (z4.1 0), .ref (z5.1 0), .ref (z6.1 0), .null, .int 0]))] ++ (wd_X0 z1.1 z1.2 iu_X0 ++ (wd_X4 z2.1 z2.2 iu_X4 ++ (wd_X1 z3.1 z3.2 iu_X1 ++ (wd_X1 z4.1 z4.2 iu_X1 ++ (wd_X2 z5.1 z5.2 iu_X2 ++ (wd_X5 z6.1 z6.2 iu_X5 ++ ([(qarr, .inl (cArr, 2, .inr (.inr (.inr (.inr (fun _ => none))))))] ++ ([]))))))))) H := hP
  have hD : va_D A ([(h0, .inr (6, [.ref (z1.1 0), .ref (z2.1 0), .ref (z3.1 0), .ref (z4.1 0), .ref (z5.1 0), .ref (z6.1 0), .null, .int 0]))] ++ (wd_X0 z1.1 z1.2 iu_X0 ++ (wd_X4 z2.1 z2.2 iu_X4 ++ (wd_X1 z3.1 z3.2 iu_X1 ++ (wd_X1 z4.1 z4.2 iu_X1 ++ (wd_X2 z5.1 z5.2 iu_X2 ++ (wd_X5 z6.1 z6.2 iu_X5 ++ ([(qarr, .inl (cArr, 2, .inr (.inr (.inr (.inr (fun _ => none))))))] ++ ([]))))))))) := hD
  refine W.widen (k := 21) (n := 14153) (Nat.le_of_ble_eq_true rfl) (Nat.le_of_ble_eq_true rfl) ?_
  refine lv_dup hx hb dX7_init_75 rfl ?_
  refine lv_iconst (v := 0) hx hb dX7_init_76 (by decide) ?_
  refine va_new (ci := 3) (fs := [.int 0, .int 0, .null, .int 0]) (C := RX3) (T := TX3) (N := 4) hx hb hts hin_X3 tyX3 tyX3_ok hown (hts (.classLink RX7 47 RX3) (by decide +kernel)) (hts (.instantiable RX3 4) (by decide +kernel)) (hts (.initialized RX3) (by decide +kernel)) hK hP hD hS hA rfl (fun j hj => by rcases (show j = 0 ∨ j = 1 ∨ j = 2 ∨ j = 3 by omega) with rfl | rfl | rfl | rfl <;> rfl) (Nat.le_of_ble_eq_true rfl) (Nat.le_of_ble_eq_true rfl) dX7_init_77 (fun q77 H hP hD hS => ?_)
  have hP : va_P (dC, dI) vwCl ([(h0, .inr (6, [.ref (z1.1 0), .ref (z2.1 0), .ref (z3.1 0), .ref (z4.1 0), .ref (z5.1 0), .ref (z6.1 0), .null, .int 0]))] ++ (wd_X0 z1.1 z1.2 iu_X0 ++ (wd_X4 z2.1 z2.2 iu_X4 ++ (wd_X1 z3.1 z3.2 iu_X1 ++ (wd_X1 z4.1 z4.2 iu_X1 ++ (wd_X2 z5.1 z5.2 iu_X2 ++ (wd_X5 z6.1 z6.2 iu_X5 ++ ([(qarr, .inl (cArr, 2, .inr (.inr (.inr (.inr (fun _ => none))))))] ++ ([(q77, .inr (3, [.int 0, .int 0, .null, .int 0]))] ++ ([])))))))))) H := hP
  have hD : va_D A ([(h0, .inr (6, [.ref (z1.1 0), .ref (z2.1 0), .ref (z3.1 0), .ref (z4.1 0), .ref (z5.1 0), .ref (z6.1 0), .null, .int 0]))] ++ (wd_X0 z1.1 z1.2 iu_X0 ++ (wd_X4 z2.1 z2.2 iu_X4 ++ (wd_X1 z3.1 z3.2 iu_X1 ++ (wd_X1 z4.1 z4.2 iu_X1 ++ (wd_X2 z5.1 z5.2 iu_X2 ++ (wd_X5 z6.1 z6.2 iu_X5 ++ ([(qarr, .inl (cArr, 2, .inr (.inr (.inr (.inr (fun _ => none))))))] ++ ([(q77, .inr (3, [.int 0, .int 0, .null, .int 0]))] ++ ([])))))))))) := hD
  refine W.widen (k := 22) (n := 14157) (Nat.le_of_ble_eq_true rfl) (Nat.le_of_ble_eq_true rfl) ?_
  refine lv_dup hx hb dX7_init_80 rfl ?_
  have hPc := hP.sub (ws' := [(q77, .inr (3, [.int 0, .int 0, .null, .int 0]))]) [22] rfl
  have hDc := hD.sub (ws' := [(q77, .inr (3, [.int 0, .int 0, .null, .int 0]))]) [22] (by decide) rfl
  have hKc := hK.sub (tys' := []) [] rfl
  have hFc := va_free (wc := [(q77, .inr (3, [.int 0, .int 0, .null, .int 0]))]) hD hS hA [22] rfl
  refine va_callv (va_runIN (As := []) (rest := [.ref q77, .int 0, .ref qarr, .ref qarr, .ref h0]) ⟨hx, hb, hml, hown, hts⟩ (c_X3_init l dC dI q77 H.size) ⟨va_cnB 0 hts gX7_init_X3_init_n49 rfl rfl rfl (hN _ (List.mem_of_getElem? (i := 5) rfl)) (hts (.initialized RX3) (by decide +kernel)) (by decide +kernel) ⟨Nat.le_of_ble_eq_true rfl, Nat.le_of_ble_eq_true rfl⟩, rfl, hts (.instanceMethod yX3_init) (by decide +kernel)⟩ ⟨fun a U g mk q => by obtain ⟨q0, q1, qP, qK, qD⟩ := q; exact ⟨q0, q1, qP, va_K.moved (u := U) (U := U.calling g mk a) (Vm.Alike.refl U.vm) qK, qD⟩, fun U hU hW => ⟨rfl, by rw [hU], by rw [hU]; exact hPc, va_K.moved hW.alike hKc, hDc.weaken (fun _ _ _ _ => trivial)⟩⟩ rfl rfl hl.1 rfl (lv_room (Nat.le_of_ble_eq_true rfl)) dX7_init_81 ⟨Nat.le_of_ble_eq_true rfl, Nat.le_of_ble_eq_true rfl⟩) hS (fun q _ h => hFc q h) hFc (fun z7 t H1 locs ht hvm hw hB hz1 hk1 hS => ?_)
  obtain ⟨hP1, hK1, hD1⟩ := hB
  rw [ht] at hP1
  have hK1 := va_K.moved hvm.symm hK1
  subst hw
  obtain ⟨hP, hD⟩ := va_join (wr := ([(h0, .inr (6, [.ref (z1.1 0), .ref (z2.1 0), .ref (z3.1 0), .ref (z4.1 0), .ref (z5.1 0), .ref (z6.1 0), .null, .int 0]))] ++ (wd_X0 z1.1 z1.2 iu_X0 ++ (wd_X4 z2.1 z2.2 iu_X4 ++ (wd_X1 z3.1 z3.2 iu_X1 ++ (wd_X1 z4.1 z4.2 iu_X1 ++ (wd_X2 z5.1 z5.2 iu_X2 ++ (wd_X5 z6.1 z6.2 iu_X5 ++ ([(qarr, .inl (cArr, 2, .inr (.inr (.inr (.inr (fun _ => none))))))] ++ ([])))))))))) (w1 := wd_X3 z7.1 z7.2 iu_X3) hP hD [22] [0, 1, 2, 3, 4, 5, 6, 7, 8, 9, 10, 11, 12, 13, 14, 15, 16, 17, 18, 19, 20, 21] rfl rfl (by decide) (by decide) hk1 hFc hP1 hD1
  have hK := hK.app hK1
  have hK : va_K (dC, dI) vwCl (ty_X0 z1.2 ++ (ty_X4 z2.2 ++ (ty_X1 z3.2 ++ (ty_X1 z4.2 ++ (ty_X2 z5.2 ++ (ty_X5 z6.2 ++ ([(cArr, .object "ForgettingLines$Sheet")] ++ (ty_X3 z7.2 ++ ([]))))))))) s := hK
  have hP : va_P (dC, dI) vwCl ([(h0, .inr (6, [.ref (z1.1 0), .ref (z2.1 0), .ref (z3.1 0), .ref (z4.1 0), .ref (z5.1 0), .ref (z6.1 0), .null, .int 0]))] ++ (wd_X0 z1.1 z1.2 iu_X0 ++ (wd_X4 z2.1 z2.2 iu_X4 ++ (wd_X1 z3.1 z3.2 iu_X1 ++ (wd_X1 z4.1 z4.2 iu_X1 ++ (wd_X2 z5.1 z5.2 iu_X2 ++ (wd_X5 z6.1 z6.2 iu_X5 ++ ([(qarr, .inl (cArr, 2, .inr (.inr (.inr (.inr (fun _ => none))))))] ++ (wd_X3 z7.1 z7.2 iu_X3 ++ ([])))))))))) H1 := hP
  have hD : va_D A ([(h0, .inr (6, [.ref (z1.1 0), .ref (z2.1 0), .ref (z3.1 0), .ref (z4.1 0), .ref (z5.1 0), .ref (z6.1 0), .null, .int 0]))] ++ (wd_X0 z1.1 z1.2 iu_X0 ++ (wd_X4 z2.1 z2.2 iu_X4 ++ (wd_X1 z3.1 z3.2 iu_X1 ++ (wd_X1 z4.1 z4.2 iu_X1 ++ (wd_X2 z5.1 z5.2 iu_X2 ++ (wd_X5 z6.1 z6.2 iu_X5 ++ ([(qarr, .inl (cArr, 2, .inr (.inr (.inr (.inr (fun _ => none))))))] ++ (wd_X3 z7.1 z7.2 iu_X3 ++ ([])))))))))) := hD
  generalize H1 = H at hP hS ⊢
  refine W.widen (k := 23) (n := 14217) (Nat.le_of_ble_eq_true rfl) (Nat.le_of_ble_eq_true rfl) ?_
  refine va_astq (D := (dC, dI)) (cl := vwCl) (r := (RX3, TX3, 4)) (i := 0) hx hb hK hP hD hS 21 14 22 3 rfl rfl rfl rfl (vp_in_nI (n := 0) (N := 2) (by omega) (by omega)) dX7_init_84 (fun H locs hP hD hS => ?_)
  have hP : va_P (dC, dI) vwCl ([(h0, .inr (6, [.ref (z1.1 0), .ref (z2.1 0), .ref (z3.1 0), .ref (z4.1 0), .ref (z5.1 0), .ref (z6.1 0), .null, .int 0]))] ++ (wd_X0 z1.1 z1.2 iu_X0 ++ (wd_X4 z2.1 z2.2 iu_X4 ++ (wd_X1 z3.1 z3.2 iu_X1 ++ (wd_X1 z4.1 z4.2 iu_X1 ++ (wd_X2 z5.1 z5.2 iu_X2 ++ (wd_X5 z6.1 z6.2 iu_X5 ++ ([(qarr, .inl (cArr, 2, .inr (.inr (.inr (.inr (va_up (fun _ => none) (0 : Int32).toNatClampNeg (some (z7.1 0))))))))] ++ (wd_X3 z7.1 z7.2 iu_X3 ++ ([])))))))))) H := hP
  have hD : va_D A ([(h0, .inr (6, [.ref (z1.1 0), .ref (z2.1 0), .ref (z3.1 0), .ref (z4.1 0), .ref (z5.1 0), .ref (z6.1 0), .null, .int 0]))] ++ (wd_X0 z1.1 z1.2 iu_X0 ++ (wd_X4 z2.1 z2.2 iu_X4 ++ (wd_X1 z3.1 z3.2 iu_X1 ++ (wd_X1 z4.1 z4.2 iu_X1 ++ (wd_X2 z5.1 z5.2 iu_X2 ++ (wd_X5 z6.1 z6.2 iu_X5 ++ ([(qarr, .inl (cArr, 2, .inr (.inr (.inr (.inr (va_up (fun _ => none) (0 : Int32).toNatClampNeg (some (z7.1 0))))))))] ++ (wd_X3 z7.1 z7.2 iu_X3 ++ ([])))))))))) := hD
  refine lv_dup hx hb dX7_init_85 rfl ?_
  refine lv_iconst (v := 1) hx hb dX7_init_86 (by decide) ?_
  refine va_new (ci := 3) (fs := [.int 0, .int 0, .null, .int 0]) (C := RX3) (T := TX3) (N := 4) hx hb hts hin_X3 tyX3 tyX3_ok hown (hts (.classLink RX7 47 RX3) (by decide +kernel)) (hts (.instantiable RX3 4) (by decide +kernel)) (hts (.initialized RX3) (by decide +kernel)) hK hP hD hS hA rfl (fun j hj => by rcases (show j = 0 ∨ j = 1 ∨ j = 2 ∨ j = 3 by omega) with rfl | rfl | rfl | rfl <;> rfl) (Nat.le_of_ble_eq_true rfl) (Nat.le_of_ble_eq_true rfl) dX7_init_87 (fun q87 H hP hD hS => ?_)
  have hP : va_P (dC, dI) vwCl ([(h0, .inr (6, [.ref (z1.1 0), .ref (z2.1 0), .ref (z3.1 0), .ref (z4.1 0), .ref (z5.1 0), .ref (z6.1 0), .null, .int 0]))] ++ (wd_X0 z1.1 z1.2 iu_X0 ++ (wd_X4 z2.1 z2.2 iu_X4 ++ (wd_X1 z3.1 z3.2 iu_X1 ++ (wd_X1 z4.1 z4.2 iu_X1 ++ (wd_X2 z5.1 z5.2 iu_X2 ++ (wd_X5 z6.1 z6.2 iu_X5 ++ ([(qarr, .inl (cArr, 2, .inr (.inr (.inr (.inr (va_up (fun _ => none) (0 : Int32).toNatClampNeg (some (z7.1 0))))))))] ++ (wd_X3 z7.1 z7.2 iu_X3 ++ ([(q87, .inr (3, [.int 0, .int 0, .null, .int 0]))] ++ ([]))))))))))) H := hP
  have hD : va_D A ([(h0, .inr (6, [.ref (z1.1 0), .ref (z2.1 0), .ref (z3.1 0), .ref (z4.1 0), .ref (z5.1 0), .ref (z6.1 0), .null, .int 0]))] ++ (wd_X0 z1.1 z1.2 iu_X0 ++ (wd_X4 z2.1 z2.2 iu_X4 ++ (wd_X1 z3.1 z3.2 iu_X1 ++ (wd_X1 z4.1 z4.2 iu_X1 ++ (wd_X2 z5.1 z5.2 iu_X2 ++ (wd_X5 z6.1 z6.2 iu_X5 ++ ([(qarr, .inl (cArr, 2, .inr (.inr (.inr (.inr (va_up (fun _ => none) (0 : Int32).toNatClampNeg (some (z7.1 0))))))))] ++ (wd_X3 z7.1 z7.2 iu_X3 ++ ([(q87, .inr (3, [.int 0, .int 0, .null, .int 0]))] ++ ([]))))))))))) := hD
  refine W.widen (k := 24) (n := 14221) (Nat.le_of_ble_eq_true rfl) (Nat.le_of_ble_eq_true rfl) ?_
  refine lv_dup hx hb dX7_init_90 rfl ?_
  have hPc := hP.sub (ws' := [(q87, .inr (3, [.int 0, .int 0, .null, .int 0]))]) [24] rfl
  have hDc := hD.sub (ws' := [(q87, .inr (3, [.int 0, .int 0, .null, .int 0]))]) [24] (by decide) rfl
  have hKc := hK.sub (tys' := []) [] rfl
  have hFc := va_free (wc := [(q87, .inr (3, [.int 0, .int 0, .null, .int 0]))]) hD hS hA [24] rfl
  refine va_callv (va_runIN (As := []) (rest := [.ref q87, .int 1, .ref qarr, .ref qarr, .ref h0]) ⟨hx, hb, hml, hown, hts⟩ (c_X3_init l dC dI q87 H.size) ⟨va_cnB 0 hts gX7_init_X3_init_n49 rfl rfl rfl (hN _ (List.mem_of_getElem? (i := 5) rfl)) (hts (.initialized RX3) (by decide +kernel)) (by decide +kernel) ⟨Nat.le_of_ble_eq_true rfl, Nat.le_of_ble_eq_true rfl⟩, rfl, hts (.instanceMethod yX3_init) (by decide +kernel)⟩ ⟨fun a U g mk q => by obtain ⟨q0, q1, qP, qK, qD⟩ := q; exact ⟨q0, q1, qP, va_K.moved (u := U) (U := U.calling g mk a) (Vm.Alike.refl U.vm) qK, qD⟩, fun U hU hW => ⟨rfl, by rw [hU], by rw [hU]; exact hPc, va_K.moved hW.alike hKc, hDc.weaken (fun _ _ _ _ => trivial)⟩⟩ rfl rfl hl.1 rfl (lv_room (Nat.le_of_ble_eq_true rfl)) dX7_init_91 ⟨Nat.le_of_ble_eq_true rfl, Nat.le_of_ble_eq_true rfl⟩) hS (fun q _ h => hFc q h) hFc (fun z8 t H1 locs ht hvm hw hB hz1 hk1 hS => ?_)
  obtain ⟨hP1, hK1, hD1⟩ := hB
  rw [ht] at hP1
  have hK1 := va_K.moved hvm.symm hK1
  subst hw
  obtain ⟨hP, hD⟩ := va_join (wr := ([(h0, .inr (6, [.ref (z1.1 0), .ref (z2.1 0), .ref (z3.1 0), .ref (z4.1 0), .ref (z5.1 0), .ref (z6.1 0), .null, .int 0]))] ++ (wd_X0 z1.1 z1.2 iu_X0 ++ (wd_X4 z2.1 z2.2 iu_X4 ++ (wd_X1 z3.1 z3.2 iu_X1 ++ (wd_X1 z4.1 z4.2 iu_X1 ++ (wd_X2 z5.1 z5.2 iu_X2 ++ (wd_X5 z6.1 z6.2 iu_X5 ++ ([(qarr, .inl (cArr, 2, .inr (.inr (.inr (.inr (va_up (fun _ => none) (0 : Int32).toNatClampNeg (some (z7.1 0))))))))] ++ (wd_X3 z7.1 z7.2 iu_X3 ++ ([]))))))))))) (w1 := wd_X3 z8.1 z8.2 iu_X3) hP hD [24] [0, 1, 2, 3, 4, 5, 6, 7, 8, 9, 10, 11, 12, 13, 14, 15, 16, 17, 18, 19, 20, 21, 22, 23] rfl rfl (by decide) (by decide) hk1 hFc hP1 hD1
  have hK := hK.app hK1
  have hK : va_K (dC, dI) vwCl (ty_X0 z1.2 ++ (ty_X4 z2.2 ++ (ty_X1 z3.2 ++ (ty_X1 z4.2 ++ (ty_X2 z5.2 ++ (ty_X5 z6.2 ++ ([(cArr, .object "ForgettingLines$Sheet")] ++ (ty_X3 z7.2 ++ (ty_X3 z8.2 ++ ([])))))))))) s := hK
  have hP : va_P (dC, dI) vwCl ([(h0, .inr (6, [.ref (z1.1 0), .ref (z2.1 0), .ref (z3.1 0), .ref (z4.1 0), .ref (z5.1 0), .ref (z6.1 0), .null, .int 0]))] ++ (wd_X0 z1.1 z1.2 iu_X0 ++ (wd_X4 z2.1 z2.2 iu_X4 ++ (wd_X1 z3.1 z3.2 iu_X1 ++ (wd_X1 z4.1 z4.2 iu_X1 ++ (wd_X2 z5.1 z5.2 iu_X2 ++ (wd_X5 z6.1 z6.2 iu_X5 ++ ([(qarr, .inl (cArr, 2, .inr (.inr (.inr (.inr (va_up (fun _ => none) (0 : Int32).toNatClampNeg (some (z7.1 0))))))))] ++ (wd_X3 z7.1 z7.2 iu_X3 ++ (wd_X3 z8.1 z8.2 iu_X3 ++ ([]))))))))))) H1 := hP
  have hD : va_D A ([(h0, .inr (6, [.ref (z1.1 0), .ref (z2.1 0), .ref (z3.1 0), .ref (z4.1 0), .ref (z5.1 0), .ref (z6.1 0), .null, .int 0]))] ++ (wd_X0 z1.1 z1.2 iu_X0 ++ (wd_X4 z2.1 z2.2 iu_X4 ++ (wd_X1 z3.1 z3.2 iu_X1 ++ (wd_X1 z4.1 z4.2 iu_X1 ++ (wd_X2 z5.1 z5.2 iu_X2 ++ (wd_X5 z6.1 z6.2 iu_X5 ++ ([(qarr, .inl (cArr, 2, .inr (.inr (.inr (.inr (va_up (fun _ => none) (0 : Int32).toNatClampNeg (some (z7.1 0))))))))] ++ (wd_X3 z7.1 z7.2 iu_X3 ++ (wd_X3 z8.1 z8.2 iu_X3 ++ ([]))))))))))) := hD
  generalize H1 = H at hP hS ⊢
  refine W.widen (k := 25) (n := 14281) (Nat.le_of_ble_eq_true rfl) (Nat.le_of_ble_eq_true rfl) ?_
  refine va_astq (D := (dC, dI)) (cl := vwCl) (r := (RX3, TX3, 4)) (i := 1) hx hb hK hP hD hS 21 14 24 3 rfl rfl rfl rfl (vp_in_nI (n := 1) (N := 2) (by omega) (by omega)) dX7_init_94 (fun H locs hP hD hS => ?_)
  have hP : va_P (dC, dI) vwCl ([(h0, .inr (6, [.ref (z1.1 0), .ref (z2.1 0), .ref (z3.1 0), .ref (z4.1 0), .ref (z5.1 0), .ref (z6.1 0), .null, .int 0]))] ++ (wd_X0 z1.1 z1.2 iu_X0 ++ (wd_X4 z2.1 z2.2 iu_X4 ++ (wd_X1 z3.1 z3.2 iu_X1 ++ (wd_X1 z4.1 z4.2 iu_X1 ++ (wd_X2 z5.1 z5.2 iu_X2 ++ (wd_X5 z6.1 z6.2 iu_X5 ++ ([(qarr, .inl (cArr, 2, .inr (.inr (.inr (.inr (va_up (va_up (fun _ => none) (0 : Int32).toNatClampNeg (some (z7.1 0))) (1 : Int32).toNatClampNeg (some (z8.1 0))))))))] ++ (wd_X3 z7.1 z7.2 iu_X3 ++ (wd_X3 z8.1 z8.2 iu_X3 ++ ([]))))))))))) H := hP
  have hD : va_D A ([(h0, .inr (6, [.ref (z1.1 0), .ref (z2.1 0), .ref (z3.1 0), .ref (z4.1 0), .ref (z5.1 0), .ref (z6.1 0), .null, .int 0]))] ++ (wd_X0 z1.1 z1.2 iu_X0 ++ (wd_X4 z2.1 z2.2 iu_X4 ++ (wd_X1 z3.1 z3.2 iu_X1 ++ (wd_X1 z4.1 z4.2 iu_X1 ++ (wd_X2 z5.1 z5.2 iu_X2 ++ (wd_X5 z6.1 z6.2 iu_X5 ++ ([(qarr, .inl (cArr, 2, .inr (.inr (.inr (.inr (va_up (va_up (fun _ => none) (0 : Int32).toNatClampNeg (some (z7.1 0))) (1 : Int32).toNatClampNeg (some (z8.1 0))))))))] ++ (wd_X3 z7.1 z7.2 iu_X3 ++ (wd_X3 z8.1 z8.2 iu_X3 ++ ([]))))))))))) := hD
  refine va_putF (D := (dC, dI)) (ci := 6) (v := .ref qarr) (ty := .array (.object "ForgettingLines$Sheet")) (C := RX7) (T := TX7) (N := 8) hx hb hts hin_X7 tyX7 tyX7_ok nmX7 hown hK hP hD hS 0 rfl rfl 6 (by decide) (hts (.fieldLink RX7 50 "ForgettingLines" "sheets" "[LForgettingLines$Sheet;") (by decide +kernel)) (fun _ h9 => h9) rfl hin rfl (by decide +kernel) rfl rfl (Nat.le_of_ble_eq_true rfl) dX7_init_95 (fun H locs hP hD hS => ?_)
  have hP : va_P (dC, dI) vwCl ([(h0, .inr (6, [.ref (z1.1 0), .ref (z2.1 0), .ref (z3.1 0), .ref (z4.1 0), .ref (z5.1 0), .ref (z6.1 0), .ref qarr, .int 0]))] ++ (wd_X0 z1.1 z1.2 iu_X0 ++ (wd_X4 z2.1 z2.2 iu_X4 ++ (wd_X1 z3.1 z3.2 iu_X1 ++ (wd_X1 z4.1 z4.2 iu_X1 ++ (wd_X2 z5.1 z5.2 iu_X2 ++ (wd_X5 z6.1 z6.2 iu_X5 ++ ([(qarr, .inl (cArr, 2, .inr (.inr (.inr (.inr (va_up (va_up (fun _ => none) (0 : Int32).toNatClampNeg (some (z7.1 0))) (1 : Int32).toNatClampNeg (some (z8.1 0))))))))] ++ (wd_X3 z7.1 z7.2 iu_X3 ++ (wd_X3 z8.1 z8.2 iu_X3 ++ ([]))))))))))) H := hP
  have hD : va_D A ([(h0, .inr (6, [.ref (z1.1 0), .ref (z2.1 0), .ref (z3.1 0), .ref (z4.1 0), .ref (z5.1 0), .ref (z6.1 0), .ref qarr, .int 0]))] ++ (wd_X0 z1.1 z1.2 iu_X0 ++ (wd_X4 z2.1 z2.2 iu_X4 ++ (wd_X1 z3.1 z3.2 iu_X1 ++ (wd_X1 z4.1 z4.2 iu_X1 ++ (wd_X2 z5.1 z5.2 iu_X2 ++ (wd_X5 z6.1 z6.2 iu_X5 ++ ([(qarr, .inl (cArr, 2, .inr (.inr (.inr (.inr (va_up (va_up (fun _ => none) (0 : Int32).toNatClampNeg (some (z7.1 0))) (1 : Int32).toNatClampNeg (some (z8.1 0))))))))] ++ (wd_X3 z7.1 z7.2 iu_X3 ++ (wd_X3 z8.1 z8.2 iu_X3 ++ ([]))))))))))) := hD
  rw [sh_f_eq (fun j => if j = 0 then (fun k => if k = 7 then qarr else h0) else if j = 1 then z1.1 else if j = 2 then z2.1 else if j = 3 then z3.1 else if j = 4 then z4.1 else if j = 5 then z5.1 else if j = 6 then z6.1 else if j = 7 then z7.1 else z8.1) (z7.1 0) (z8.1 0) rfl rfl] at hP hD
  have hP9 : va_P (dC, dI) vwCl (wd_X7 (fun j => if j = 0 then (fun k => if k = 7 then qarr else h0) else if j = 1 then z1.1 else if j = 2 then z2.1 else if j = 3 then z3.1 else if j = 4 then z4.1 else if j = 5 then z5.1 else if j = 6 then z6.1 else if j = 7 then z7.1 else z8.1) (fun j => if j = 0 then (fun _ => cArr) else if j = 1 then z1.2 else if j = 2 then z2.2 else if j = 3 then z3.2 else if j = 4 then z4.2 else if j = 5 then z5.2 else if j = 6 then z6.2 else if j = 7 then z7.2 else z8.2) iu_X7 iu_X0 iu_X4 iu_X1 iu_X1 iu_X2 iu_X5 iu_X3 iu_X3) H := hP.sub [0, 21, 1, 2, 3, 4, 5, 6, 7, 8, 9, 10, 11, 12, 13, 14, 15, 16, 17, 18, 19, 20, 22, 23, 24, 25] rfl
  have hD9 : va_D A (wd_X7 (fun j => if j = 0 then (fun k => if k = 7 then qarr else h0) else if j = 1 then z1.1 else if j = 2 then z2.1 else if j = 3 then z3.1 else if j = 4 then z4.1 else if j = 5 then z5.1 else if j = 6 then z6.1 else if j = 7 then z7.1 else z8.1) (fun j => if j = 0 then (fun _ => cArr) else if j = 1 then z1.2 else if j = 2 then z2.2 else if j = 3 then z3.2 else if j = 4 then z4.2 else if j = 5 then z5.2 else if j = 6 then z6.2 else if j = 7 then z7.2 else z8.2) iu_X7 iu_X0 iu_X4 iu_X1 iu_X1 iu_X2 iu_X5 iu_X3 iu_X3) := hD.sub [0, 21, 1, 2, 3, 4, 5, 6, 7, 8, 9, 10, 11, 12, 13, 14, 15, 16, 17, 18, 19, 20, 22, 23, 24, 25] (by decide) rfl
  have hK9 : va_K (dC, dI) vwCl (ty_X7 (fun j => if j = 0 then (fun _ => cArr) else if j = 1 then z1.2 else if j = 2 then z2.2 else if j = 3 then z3.2 else if j = 4 then z4.2 else if j = 5 then z5.2 else if j = 6 then z6.2 else if j = 7 then z7.2 else z8.2)) s := hK.sub [14, 0, 1, 2, 3, 4, 5, 6, 7, 8, 9, 10, 11, 12, 13, 15, 16] rfl
  refine W.widen (k := 25) (n := 14281) (Nat.le_of_ble_eq_true rfl) (Nat.le_of_ble_eq_true rfl) ?_
  exact W.vret hx hb hr (fun t ht hW => ⟨⟨((fun j => if j = 0 then (fun k => if k = 7 then qarr else h0) else if j = 1 then z1.1 else if j = 2 then z2.1 else if j = 3 then z3.1 else if j = 4 then z4.1 else if j = 5 then z5.1 else if j = 6 then z6.1 else if j = 7 then z7.1 else z8.1), (fun j => if j = 0 then (fun _ => cArr) else if j = 1 then z1.2 else if j = 2 then z2.2 else if j = 3 then z3.2 else if j = 4 then z4.2 else if j = 5 then z5.2 else if j = 6 then z6.2 else if j = 7 then z7.2 else z8.2)), rfl, rfl, by rw [ht]; exact hP9, va_K.moved hW.alike hK9, hD9⟩, hS.F ht⟩) hS.2.2 dX7_init_98
