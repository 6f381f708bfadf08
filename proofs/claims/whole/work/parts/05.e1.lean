abbrev rm_X8_next : Room := { frames := 0, cells := 0, slots := 0, locals := 0 }
set_option maxHeartbeats 4000000 in
set_option maxRecDepth 100000 in
theorem c_X8_next (l : Launch) (dC : Nat → ClassId) (dI : Nat → Nat → Nat) (a : Nat → Nat) (ca : Nat → ClassId) (sz : Nat) (u : Ob) (post : Int32 → Ob → Prop) (h : wp_X8_next u post) : Met l yX8_next wsX8_next rm_X8_next (va_Pc [.ref (a 0)] (fun U => U.heap.size = sz ∧ va_P (dC, dI) vwCl (wd_X8 a ca u) U.heap ∧ va_K (dC, dI) vwCl (ty_X8 ca) U ∧ va_D (fun _ => True) (wd_X8 a ca u))) (va_Qi post (fun (zz : Ob) (t : State) => va_P (dC, dI) vwCl (wd_X8 a ca zz) t.heap ∧ va_D (va_A (wd_X8 a ca u) sz) (wd_X8 a ca zz)) (va_A (wd_X8 a ca u) sz)) 0 0 (va_A (wd_X8 a ca u) sz) := by
  refine fl_ofW (cc := cX8_next) (maxL := 1) (ret := (some .int)) (by decide) rfl ?_
  intro p e s m args below meth c s₁ Q B hml hv hQ
  obtain ⟨hargs, hsz, hP, hK, hD0⟩ := hv
  have hx := B.exec
  have hb := B.bytes
  have hr := B.returns
  have hts := atoms_spec (ws := wsX8_next) B.pre
  have hown : s.vm.findClass RX8 = some m.cls := findClass_of_methodNamed B.named
  subst hsz
  have hD := hD0.self (sz := s.heap.size)
  generalize hAe : va_A (wd_X8 a ca u) s.heap.size = A at hD hQ
  have hA : ∀ q : Nat, s.heap.size ≤ q → A q := fun q h => by rw [← hAe]; exact Or.inr h
  have hS : va_S A s.heap s.heap [] := va_S.rf
  have hl := lv_entry ([.ref (a 0)]) (n := 1) (Nat.le_of_ble_eq_true rfl)
  refine W.eq (g2 := F0 m 0 ((lg_sl ([.ref (a 0)]) ++ List.replicate (1 - (lg_sl ([.ref (a 0)])).length) Slot.unset).toArray) []) (by rw [hargs]; exact lg_entry_eq m _ 1) ?_
  generalize (lg_sl ([.ref (a 0)]) ++ List.replicate (1 - (lg_sl ([.ref (a 0)])).length) Slot.unset).toArray = ls at hl ⊢
  have hl : lv_has ls 1 [(0, .ref (a 0))] := hl
  suffices hstart : ∀ (H : Heap) (locs : List Loc) (ls : Array Slot), va_P (dC, dI) vwCl (wd_X8 a ca u) H → va_D A (wd_X8 a ca u) → va_S A s.heap H locs → lv_has ls 1 [(0, .ref (a 0))] → W p l e (headSpec wsX8_next rm_X8_next).room s m args below meth c H locs 0 0 Q (F0 m 0 ls []) from hstart _ _ _ hP hD hS hl
  clear hS hP hD hD0
  intro H locs ls hP hD hS hl
  have hin_X8 : ∀ w ∈ wsX80, w ∈ wsX8_next := by decide +kernel
  have lk_0 := hts (.fieldLink RX8 104 "ForgettingLinesModel" "at" "I") (by decide +kernel)
  have lk_1 := hts (.fieldLink RX8 101 "ForgettingLinesModel" "taped" "I") (by decide +kernel)
  have lk_2 := hts (.fieldLink RX8 33 "ForgettingLinesModel" "tape" "[I") (by decide +kernel)
  unfold wp_X8_next at h
  obtain ⟨n_10, h⟩ := h
  refine lq1_ind (GG := (fun (u_2 : Ob) => ∀ (H : Heap) (locs : List Loc) (ls : Array Slot), va_P (dC, dI) vwCl (wd_X8 a ca u_2) H → va_D A (wd_X8 a ca u_2) → va_S A s.heap H locs → lv_has ls 1 [(0, .ref (a 0))] → W p l e (headSpec wsX8_next rm_X8_next).room s m args below meth c H locs 0 0 Q (F0 m 0 ls []))) (fun LL_1 ih_LL_1 u_2 h H locs ls hP hD hS hl => ?_) n_10 _ h _ _ _ hP hD hS (lv_sub hl [0] rfl)
  refine lv_aload_n hx hb dX8_next_0 rfl (lv_at hl 0 rfl) ?_
  refine va_get (D := (dC, dI)) (ci := 7) (v := .int (u_2.1 10)) (C := RX8) (T := TX8) (N := 25) hx hb hts hin_X8 hown hK hP 0 rfl rfl 10 (by decide) lk_0 (fun _ h9 => h9) rfl dX8_next_1 ?_
  refine lv_aload_n hx hb dX8_next_4 rfl (lv_at hl 0 rfl) ?_
  refine va_get (D := (dC, dI)) (ci := 7) (v := .int (u_2.1 9)) (C := RX8) (T := TX8) (N := 25) hx hb hts hin_X8 hown hK hP 0 rfl rfl 9 (by decide) lk_1 (fun _ h9 => h9) rfl dX8_next_5 ?_
  refine jn0_ind (GG := (∀ (H : Heap) (locs : List Loc) (ls : Array Slot), va_P (dC, dI) vwCl (wd_X8 a ca u_2) H → va_D A (wd_X8 a ca u_2) → va_S A s.heap H locs → lv_has ls 1 [(0, .ref (a 0))] → W p l e (headSpec wsX8_next rm_X8_next).room s m args below meth c H locs 0 0 Q (F0 m 38 ls []))) h (fun  h H locs ls hP hD hS hl => ?_) (fun JJ_3 ih_JJ_3 h => ?_)
  · refine lv_aload_n hx hb dX8_next_38 rfl (lv_at hl 0 rfl) ?_
    refine va_get (D := (dC, dI)) (ci := 7) (v := .int (u_2.1 10)) (C := RX8) (T := TX8) (N := 25) hx hb hts hin_X8 hown hK hP 0 rfl rfl 10 (by decide) lk_0 (fun _ h9 => h9) rfl dX8_next_39 ?_
    refine lv_aload_n hx hb dX8_next_42 rfl (lv_at hl 0 rfl) ?_
    refine va_get (D := (dC, dI)) (ci := 7) (v := .int (u_2.1 9)) (C := RX8) (T := TX8) (N := 25) hx hb hts hin_X8 hown hK hP 0 rfl rfl 9 (by decide) lk_1 (fun _ h9 => h9) rfl dX8_next_43 ?_
    refine lv_icmp_ge (tgt := 61) hx hb dX8_next_46 (by decide) (fun hc_4 => ?_) (fun hc_4 => ?_)
    · replace h := h.1 hc_4
      refine lv_iconst (v := 0) hx hb dX8_next_61 (by decide) ?_
      subst hQ
      exact W.iret (v := 0) hx hb hr (fun t ht hW => ⟨⟨_, u_2, rfl, h, by rw [ht]; exact hP, hD⟩, hS.F ht⟩) hS.2.2 dX8_next_62
    · replace h := h.2 hc_4
      refine lv_aload_n hx hb dX8_next_49 rfl (lv_at hl 0 rfl) ?_
      refine va_get (D := (dC, dI)) (ci := 7) (v := .ref (a 9)) (C := RX8) (T := TX8) (N := 25) hx hb hts hin_X8 hown hK hP 0 rfl rfl 8 (by decide) lk_2 (fun _ h9 => h9) rfl dX8_next_50 ?_
      refine lv_aload_n hx hb dX8_next_53 rfl (lv_at hl 0 rfl) ?_
      refine va_get (D := (dC, dI)) (ci := 7) (v := .int (u_2.1 10)) (C := RX8) (T := TX8) (N := 25) hx hb hts hin_X8 hown hK hP 0 rfl rfl 10 (by decide) lk_0 (fun _ h9 => h9) rfl dX8_next_54 ?_
      obtain ⟨hi_5, h⟩ := h
      refine va_iald (D := (dC, dI)) (cl := vwCl) (i := (u_2.1 10)) hx hb hK hP 7 6 rfl rfl hi_5 dX8_next_57 ?_
      refine lv_goto (tgt := 62) hx hb dX8_next_58 (by decide) ?_
      subst hQ
      exact W.iret (v := (u_2.2.1 8 (u_2.1 10).toNatClampNeg)) hx hb hr (fun t ht hW => ⟨⟨_, u_2, rfl, h, by rw [ht]; exact hP, hD⟩, hS.F ht⟩) hS.2.2 dX8_next_62
  · refine lv_icmp_ge (tgt := 38) hx hb dX8_next_8 (by decide) (fun hc_6 => ?_) (fun hc_6 => ?_)
    · replace h := h.1 hc_6
      exact ih_JJ_3 h _ _ _ hP hD hS (lv_sub hl [0] rfl)
    · replace h := h.2 hc_6
      refine lv_aload_n hx hb dX8_next_11 rfl (lv_at hl 0 rfl) ?_
      refine va_get (D := (dC, dI)) (ci := 7) (v := .ref (a 9)) (C := RX8) (T := TX8) (N := 25) hx hb hts hin_X8 hown hK hP 0 rfl rfl 8 (by decide) lk_2 (fun _ h9 => h9) rfl dX8_next_12 ?_
      refine lv_aload_n hx hb dX8_next_15 rfl (lv_at hl 0 rfl) ?_
      refine va_get (D := (dC, dI)) (ci := 7) (v := .int (u_2.1 10)) (C := RX8) (T := TX8) (N := 25) hx hb hts hin_X8 hown hK hP 0 rfl rfl 10 (by decide) lk_0 (fun _ h9 => h9) rfl dX8_next_16 ?_
      obtain ⟨hi_7, h⟩ := h
      refine va_iald (D := (dC, dI)) (cl := vwCl) (i := (u_2.1 10)) hx hb hK hP 7 6 rfl rfl hi_7 dX8_next_19 ?_
      refine lv_bipush (v := 32) hx hb dX8_next_20 (by decide) ?_
      refine lv_icmp_ne (tgt := 38) hx hb dX8_next_22 (by decide) (fun hc_8 => ?_) (fun hc_8 => ?_)
      · replace h := h.1 hc_8
        exact ih_JJ_3 h _ _ _ hP hD hS (lv_sub hl [0] rfl)
      · replace h := h.2 hc_8
        refine lv_aload_n hx hb dX8_next_25 rfl (lv_at hl 0 rfl) ?_
        refine lv_dup hx hb dX8_next_26 rfl ?_
        refine va_get (D := (dC, dI)) (ci := 7) (v := .int (u_2.1 10)) (C := RX8) (T := TX8) (N := 25) hx hb hts hin_X8 hown hK hP 0 rfl rfl 10 (by decide) lk_0 (fun _ h9 => h9) rfl dX8_next_27 ?_
        refine lv_iconst (v := 1) hx hb dX8_next_30 (by decide) ?_
        refine lv_iadd hx hb dX8_next_31 ?_
        refine va_put (D := (dC, dI)) (ci := 7) (v := .int ((u_2.1 10) + 1)) (ty := .int) (C := RX8) (T := TX8) (N := 25) hx hb hts hin_X8 tyX8 tyX8_ok nmX8 hown hK hP hD hS 0 rfl rfl 10 (by decide) lk_0 (fun _ h9 => h9) rfl (by decide +kernel) rfl rfl (Nat.le_of_ble_eq_true rfl) dX8_next_32 (fun H locs hP hD hS => ?_)
        obtain ⟨u_9, eu_9⟩ : ∃ z : Ob, z = fs_i u_2 10 ((u_2.1 10) + 1) := ⟨_, rfl⟩
        replace h := h u_9 eu_9
        replace hP : va_P (dC, dI) vwCl (wd_X8 a ca u_9) H := by rw [eu_9]; exact hP
        replace hD : va_D A (wd_X8 a ca u_9) := by rw [eu_9]; exact hD
        refine lv_goto (tgt := 0) hx hb dX8_next_35 (by decide) ?_
        exact ih_LL_1 _ h _ _ _ hP hD hS (lv_sub hl [0] rfl)
abbrev rm_X8_passed : Room := { frames := 1, cells := 0, slots := 0, locals := 22 }
set_option maxHeartbeats 4000000 in
set_option maxRecDepth 100000 in
theorem c_X8_passed (l : Launch) (dC : Nat → ClassId) (dI : Nat → Nat → Nat) (a : Nat → Nat) (ca : Nat → ClassId) (sz : Nat) (u : Ob) (x1 : Int32) (x2 : Int32) (post : Int32 → Ob → Prop) (h : wp_X8_passed u x1 x2 post) : Met l yX8_passed wsX8_passed rm_X8_passed (va_Pc [.ref (a 0), .int x1, .int x2] (fun U => U.heap.size = sz ∧ va_P (dC, dI) vwCl (wd_X8 a ca u) U.heap ∧ va_K (dC, dI) vwCl (ty_X8 ca) U ∧ va_D (fun _ => True) (wd_X8 a ca u))) (va_Qi post (fun (zz : Ob) (t : State) => va_P (dC, dI) vwCl (wd_X8 a ca zz) t.heap ∧ va_D (va_A (wd_X8 a ca u) sz) (wd_X8 a ca zz)) (va_A (wd_X8 a ca u) sz)) 0 0 (va_A (wd_X8 a ca u) sz) := by
  refine fl_ofW (cc := cX8_passed) (maxL := 4) (ret := (some .int)) (by decide) rfl ?_
  intro p e s m args below meth c s₁ Q B hml hv hQ
  obtain ⟨hargs, hsz, hP, hK, hD0⟩ := hv
  have hx := B.exec
  have hb := B.bytes
  have hr := B.returns
  have hts := atoms_spec (ws := wsX8_passed) B.pre
  have hown : s.vm.findClass RX8 = some m.cls := findClass_of_methodNamed B.named
  subst hsz
  have hD := hD0.self (sz := s.heap.size)
  generalize hAe : va_A (wd_X8 a ca u) s.heap.size = A at hD hQ
  have hA : ∀ q : Nat, s.heap.size ≤ q → A q := fun q h => by rw [← hAe]; exact Or.inr h
  have hS : va_S A s.heap s.heap [] := va_S.rf
  have hl := lv_entry ([.ref (a 0), .int x1, .int x2]) (n := 4) (Nat.le_of_ble_eq_true rfl)
  refine W.eq (g2 := F0 m 0 ((lg_sl ([.ref (a 0), .int x1, .int x2]) ++ List.replicate (4 - (lg_sl ([.ref (a 0), .int x1, .int x2])).length) Slot.unset).toArray) []) (by rw [hargs]; exact lg_entry_eq m _ 4) ?_
  generalize (lg_sl ([.ref (a 0), .int x1, .int x2]) ++ List.replicate (4 - (lg_sl ([.ref (a 0), .int x1, .int x2])).length) Slot.unset).toArray = ls at hl ⊢
  have hl : lv_has ls 4 [(0, .ref (a 0)), (1, .int x1), (2, .int x2)] := hl
  suffices hstart : ∀ (H : Heap) (locs : List Loc) (ls : Array Slot), va_P (dC, dI) vwCl (wd_X8 a ca u) H → va_D A (wd_X8 a ca u) → va_S A s.heap H locs → lv_has ls 4 [(0, .ref (a 0)), (1, .int x1), (2, .int x2)] → W p l e (headSpec wsX8_passed rm_X8_passed).room s m args below meth c H locs 0 0 Q (F0 m 0 ls []) from hstart _ _ _ hP hD hS hl
  clear hS hP hD hD0
  intro H locs ls hP hD hS hl
  have hin_X8 : ∀ w ∈ wsX80, w ∈ wsX8_passed := by decide +kernel
  have lk_0 := hts (.fieldLink RX8 111 "ForgettingLinesModel" "isWrong" "Z") (by decide +kernel)
  have lk_1 := hts (.fieldLink RX8 104 "ForgettingLinesModel" "at" "I") (by decide +kernel)
  unfold wp_X8_passed at h
  refine lv_aload_n hx hb dX8_passed_0 rfl (lv_at hl 0 rfl) ?_
  have hPc := hP
  have hDc := hD
  have hKc := hK
  have hFc := va_free (wc := (wd_X8 a ca u)) hD hS hA [0, 1, 2, 3, 4, 5, 6, 7, 8, 9, 10, 11, 12, 13, 14, 15, 16, 17, 18, 19] rfl
  refine va_calli (va_runV (As := []) (rest := []) ⟨hx, hb, hml, hown, hts⟩ (c_X8_next l dC dI a ca H.size u _ h) (cwV 0 hts gX8_passed_X8_next rfl rfl rfl (by decide +kernel) ⟨Nat.le_of_ble_eq_true rfl, Nat.le_of_ble_eq_true rfl⟩) ⟨fun a U g mk q => by obtain ⟨q0, q1, qP, qK, qD⟩ := q; exact ⟨q0, q1, qP, va_K.moved (u := U) (U := U.calling g mk a) (Vm.Alike.refl U.vm) qK, qD⟩, va_recv hKc hPc (ci := 7) (q0 := 0) rfl rfl, fun U hU hW => ⟨rfl, by rw [hU], by rw [hU]; exact hPc, va_K.moved hW.alike hKc, hDc.weaken (fun _ _ _ _ => trivial)⟩⟩ rfl rfl hl.1 rfl (lv_room (Nat.le_of_ble_eq_true rfl)) dX8_passed_1 ⟨Nat.zero_le _, Nat.zero_le _⟩) hS (fun q _ h => hFc q h) hFc (fun r_1 zz t H1 locs ht hvm hw hB hz1 hk1 hS => ?_)
  obtain ⟨u_2, rfl⟩ : ∃ z, z = zz := ⟨_, rfl⟩
  replace h := hw
  obtain ⟨hP1, hD1⟩ := hB
  rw [ht] at hP1
  replace hD : va_D A (wd_X8 a ca u_2) := hD1.weaken (fun _ _ _ h9 => hFc _ h9)
  replace hP : va_P (dC, dI) vwCl (wd_X8 a ca u_2) H1 := hP1
  generalize H1 = H at hP hS ⊢
  refine lv_iload_n hx hb dX8_passed_4 rfl (lv_at hl 1 rfl) ?_
  refine lv_isub hx hb dX8_passed_5 ?_
  refine lv_istore_n (lv' := [(3, .int (r_1 - x1)), (0, .ref (a 0)), (1, .int x1), (2, .int x2)]) hx hb dX8_passed_6 rfl hl (by decide) rfl (fun ls hl => ?_)
  refine lv_aload_n hx hb dX8_passed_7 rfl (lv_at hl 1 rfl) ?_
  refine va_get (D := (dC, dI)) (ci := 7) (v := .int (u_2.1 11)) (C := RX8) (T := TX8) (N := 25) hx hb hts hin_X8 hown hK hP 0 rfl rfl 11 (by decide) lk_0 (fun _ h9 => h9) rfl dX8_passed_8 ?_
  refine jn0_ind (GG := (∀ (H : Heap) (locs : List Loc) (ls : Array Slot), va_P (dC, dI) vwCl (wd_X8 a ca u_2) H → va_D A (wd_X8 a ca u_2) → va_S A s.heap H locs → lv_has ls 4 [(0, .ref (a 0))] → W p l e (headSpec wsX8_passed rm_X8_passed).room s m args below meth c H locs 0 0 Q (F0 m 25 ls []))) h (fun  h H locs ls hP hD hS hl => ?_) (fun JJ_3 ih_JJ_3 h => ?_)
  · refine lv_aload_n hx hb dX8_passed_25 rfl (lv_at hl 0 rfl) ?_
    refine lv_iconst (v := 1) hx hb dX8_passed_26 (by decide) ?_
    refine va_put (D := (dC, dI)) (ci := 7) (v := .int 1) (ty := .boolean) (C := RX8) (T := TX8) (N := 25) hx hb hts hin_X8 tyX8 tyX8_ok nmX8 hown hK hP hD hS 0 rfl rfl 11 (by decide) lk_0 (fun _ h9 => h9) rfl (by decide +kernel) rfl rfl (Nat.le_of_ble_eq_true rfl) dX8_passed_27 (fun H locs hP hD hS => ?_)
    obtain ⟨u_4, eu_4⟩ : ∃ z : Ob, z = fs_i u_2 11 1 := ⟨_, rfl⟩
    replace h := h u_4 eu_4
    replace hP : va_P (dC, dI) vwCl (wd_X8 a ca u_4) H := by rw [eu_4]; exact hP
    replace hD : va_D A (wd_X8 a ca u_4) := by rw [eu_4]; exact hD
    refine lv_iconst (v := 0) hx hb dX8_passed_30 (by decide) ?_
    subst hQ
    exact W.iret (v := 0) hx hb hr (fun t ht hW => ⟨⟨_, u_4, rfl, h, by rw [ht]; exact hP, hD⟩, hS.F ht⟩) hS.2.2 dX8_passed_31
  · refine lv_if_ne (tgt := 25) hx hb dX8_passed_11 (by decide) (fun hc_5 => ?_) (fun hc_5 => ?_)
    · replace h := h.1 hc_5
      exact ih_JJ_3 h _ _ _ hP hD hS (lv_sub hl [1] rfl)
    · replace h := h.2 hc_5
      refine lv_iload_n hx hb dX8_passed_14 rfl (lv_at hl 0 rfl) ?_
      refine lv_iconst (v := 0) hx hb dX8_passed_15 (by decide) ?_
      refine lv_iload_n hx hb dX8_passed_16 rfl (lv_at hl 3 rfl) ?_
      refine lv_iconst (v := 1) hx hb dX8_passed_17 (by decide) ?_
      refine lv_isub hx hb dX8_passed_18 ?_
      have hFc := fl_freeN hS hA
      refine va_calli (va_runS (As := [.int (r_1 - x1), .int 0, .int (x2 - 1)]) (rest := []) ⟨hx, hb, hml, hown, hts⟩ (c_X8_in l H.size (r_1 - x1) 0 (x2 - 1) _ h) (va_cwS 3 hts gX8_passed_X8_in rfl rfl rfl (by decide +kernel) ⟨Nat.le_of_ble_eq_true rfl, Nat.le_of_ble_eq_true rfl⟩) ⟨fun a U g mk q => by obtain ⟨q0, q1⟩ := q; exact ⟨q0, q1⟩, fun U hU hW => ⟨rfl, congrArg Array.size hU⟩⟩ rfl rfl hl.1 rfl (lv_room (Nat.le_of_ble_eq_true rfl)) dX8_passed_19 ⟨Nat.zero_le _, Nat.zero_le _⟩) hS (fun q _ h => hFc q h) hFc (fun r_6 zz t H1 locs ht hvm hw hB hz1 hk1 hS => ?_)
      replace hP := fl_keep hP hk1
      replace h := hw
      generalize H1 = H at hP hS ⊢
      refine lv_if_ne (tgt := 32) hx hb dX8_passed_22 (by decide) (fun hc_7 => ?_) (fun hc_7 => ?_)
      · replace h := h.1 hc_7
        refine lv_aload_n hx hb dX8_passed_32 rfl (lv_at hl 1 rfl) ?_
        refine lv_dup hx hb dX8_passed_33 rfl ?_
        refine va_get (D := (dC, dI)) (ci := 7) (v := .int (u_2.1 10)) (C := RX8) (T := TX8) (N := 25) hx hb hts hin_X8 hown hK hP 0 rfl rfl 10 (by decide) lk_1 (fun _ h9 => h9) rfl dX8_passed_34 ?_
        refine lv_iconst (v := 1) hx hb dX8_passed_37 (by decide) ?_
        refine lv_iadd hx hb dX8_passed_38 ?_
        refine va_put (D := (dC, dI)) (ci := 7) (v := .int ((u_2.1 10) + 1)) (ty := .int) (C := RX8) (T := TX8) (N := 25) hx hb hts hin_X8 tyX8 tyX8_ok nmX8 hown hK hP hD hS 0 rfl rfl 10 (by decide) lk_1 (fun _ h9 => h9) rfl (by decide +kernel) rfl rfl (Nat.le_of_ble_eq_true rfl) dX8_passed_39 (fun H locs hP hD hS => ?_)
        obtain ⟨u_8, eu_8⟩ : ∃ z : Ob, z = fs_i u_2 10 ((u_2.1 10) + 1) := ⟨_, rfl⟩
        replace h := h u_8 eu_8
        replace hP : va_P (dC, dI) vwCl (wd_X8 a ca u_8) H := by rw [eu_8]; exact hP
        replace hD : va_D A (wd_X8 a ca u_8) := by rw [eu_8]; exact hD
        refine lv_iload_n hx hb dX8_passed_42 rfl (lv_at hl 0 rfl) ?_
        subst hQ
        exact W.iret (v := (r_1 - x1)) hx hb hr (fun t ht hW => ⟨⟨_, u_8, rfl, h, by rw [ht]; exact hP, hD⟩, hS.F ht⟩) hS.2.2 dX8_passed_43
      · replace h := h.2 hc_7
        exact ih_JJ_3 h _ _ _ hP hD hS (lv_sub hl [1] rfl)
abbrev rm_X8_act : Room := { frames := 1, cells := 0, slots := 0, locals := 20 }
set_option maxHeartbeats 4000000 in
set_option maxRecDepth 100000 in
theorem c_X8_act (l : Launch) (dC : Nat → ClassId) (dI : Nat → Nat → Nat) (a : Nat → Nat) (ca : Nat → ClassId) (sz : Nat) (u : Ob) (post : Int32 → Ob → Prop) (h : wp_X8_act u post) : Met l yX8_act wsX8_act rm_X8_act (va_Pc [.ref (a 0)] (fun U => U.heap.size = sz ∧ va_P (dC, dI) vwCl (wd_X8 a ca u) U.heap ∧ va_K (dC, dI) vwCl (ty_X8 ca) U ∧ va_D (fun _ => True) (wd_X8 a ca u))) (va_Qi post (fun (zz : Ob) (t : State) => va_P (dC, dI) vwCl (wd_X8 a ca zz) t.heap ∧ va_D (va_A (wd_X8 a ca u) sz) (wd_X8 a ca zz)) (va_A (wd_X8 a ca u) sz)) 0 0 (va_A (wd_X8 a ca u) sz) := by
  refine fl_ofW (cc := cX8_act) (maxL := 3) (ret := (some .int)) (by decide) rfl ?_
  intro p e s m args below meth c s₁ Q B hml hv hQ
  obtain ⟨hargs, hsz, hP, hK, hD0⟩ := hv
  have hx := B.exec
  have hb := B.bytes
  have hr := B.returns
  have hts := atoms_spec (ws := wsX8_act) B.pre
  have hown : s.vm.findClass RX8 = some m.cls := findClass_of_methodNamed B.named
  subst hsz
  have hD := hD0.self (sz := s.heap.size)
  generalize hAe : va_A (wd_X8 a ca u) s.heap.size = A at hD hQ
  have hA : ∀ q : Nat, s.heap.size ≤ q → A q := fun q h => by rw [← hAe]; exact Or.inr h
  have hS : va_S A s.heap s.heap [] := va_S.rf
  have hl := lv_entry ([.ref (a 0)]) (n := 3) (Nat.le_of_ble_eq_true rfl)
  refine W.eq (g2 := F0 m 0 ((lg_sl ([.ref (a 0)]) ++ List.replicate (3 - (lg_sl ([.ref (a 0)])).length) Slot.unset).toArray) []) (by rw [hargs]; exact lg_entry_eq m _ 3) ?_
  generalize (lg_sl ([.ref (a 0)]) ++ List.replicate (3 - (lg_sl ([.ref (a 0)])).length) Slot.unset).toArray = ls at hl ⊢
  have hl : lv_has ls 3 [(0, .ref (a 0))] := hl
  suffices hstart : ∀ (H : Heap) (locs : List Loc) (ls : Array Slot), va_P (dC, dI) vwCl (wd_X8 a ca u) H → va_D A (wd_X8 a ca u) → va_S A s.heap H locs → lv_has ls 3 [(0, .ref (a 0))] → W p l e (headSpec wsX8_act rm_X8_act).room s m args below meth c H locs 0 0 Q (F0 m 0 ls []) from hstart _ _ _ hP hD hS hl
  clear hS hP hD hD0
  intro H locs ls hP hD hS hl
  have hin_X8 : ∀ w ∈ wsX80, w ∈ wsX8_act := by decide +kernel
  have lk_0 := hts (.fieldLink RX8 111 "ForgettingLinesModel" "isWrong" "Z") (by decide +kernel)
  have lk_1 := hts (.fieldLink RX8 104 "ForgettingLinesModel" "at" "I") (by decide +kernel)
  unfold wp_X8_act at h
  refine lv_aload_n hx hb dX8_act_0 rfl (lv_at hl 0 rfl) ?_
  have hPc := hP
  have hDc := hD
  have hKc := hK
  have hFc := va_free (wc := (wd_X8 a ca u)) hD hS hA [0, 1, 2, 3, 4, 5, 6, 7, 8, 9, 10, 11, 12, 13, 14, 15, 16, 17, 18, 19] rfl
  refine va_calli (va_runV (As := []) (rest := []) ⟨hx, hb, hml, hown, hts⟩ (c_X8_next l dC dI a ca H.size u _ h) (cwV 0 hts gX8_act_X8_next rfl rfl rfl (by decide +kernel) ⟨Nat.le_of_ble_eq_true rfl, Nat.le_of_ble_eq_true rfl⟩) ⟨fun a U g mk q => by obtain ⟨q0, q1, qP, qK, qD⟩ := q; exact ⟨q0, q1, qP, va_K.moved (u := U) (U := U.calling g mk a) (Vm.Alike.refl U.vm) qK, qD⟩, va_recv hKc hPc (ci := 7) (q0 := 0) rfl rfl, fun U hU hW => ⟨rfl, by rw [hU], by rw [hU]; exact hPc, va_K.moved hW.alike hKc, hDc.weaken (fun _ _ _ _ => trivial)⟩⟩ rfl rfl hl.1 rfl (lv_room (Nat.le_of_ble_eq_true rfl)) dX8_act_1 ⟨Nat.zero_le _, Nat.zero_le _⟩) hS (fun q _ h => hFc q h) hFc (fun r_1 zz t H1 locs ht hvm hw hB hz1 hk1 hS => ?_)
  obtain ⟨u_2, rfl⟩ : ∃ z, z = zz := ⟨_, rfl⟩
  replace h := hw
  obtain ⟨hP1, hD1⟩ := hB
  rw [ht] at hP1
  replace hD : va_D A (wd_X8 a ca u_2) := hD1.weaken (fun _ _ _ h9 => hFc _ h9)
  replace hP : va_P (dC, dI) vwCl (wd_X8 a ca u_2) H1 := hP1
  generalize H1 = H at hP hS ⊢
  refine lv_istore_n (lv' := [(1, .int r_1), (0, .ref (a 0))]) hx hb dX8_act_4 rfl hl (by decide) rfl (fun ls hl => ?_)
  refine lv_iload_n hx hb dX8_act_5 rfl (lv_at hl 0 rfl) ?_
  refine lv_bipush (v := 45) hx hb dX8_act_6 (by decide) ?_
  refine jn1_ind (GG := (fun (w_4 : Int32) => ∀ (H : Heap) (locs : List Loc) (ls : Array Slot), va_P (dC, dI) vwCl (wd_X8 a ca u_2) H → va_D A (wd_X8 a ca u_2) → va_S A s.heap H locs → lv_has ls 3 [(0, .ref (a 0))] → W p l e (headSpec wsX8_act rm_X8_act).room s m args below meth c H locs 0 0 Q (F0 m 36 ls [.int w_4]))) h (fun w_4 h H locs ls hP hD hS hl => ?_) (fun JJ_3 ih_JJ_3 h => ?_)
  · refine lv_istore_n (lv' := [(2, .int w_4), (0, .ref (a 0))]) hx hb dX8_act_36 rfl hl (by decide) rfl (fun ls hl => ?_)
    refine lv_aload_n hx hb dX8_act_37 rfl (lv_at hl 1 rfl) ?_
    refine va_get (D := (dC, dI)) (ci := 7) (v := .int (u_2.1 11)) (C := RX8) (T := TX8) (N := 25) hx hb hts hin_X8 hown hK hP 0 rfl rfl 11 (by decide) lk_0 (fun _ h9 => h9) rfl dX8_act_38 ?_
    refine jn0_ind (GG := (∀ (H : Heap) (locs : List Loc) (ls : Array Slot), va_P (dC, dI) vwCl (wd_X8 a ca u_2) H → va_D A (wd_X8 a ca u_2) → va_S A s.heap H locs → lv_has ls 3 [(0, .ref (a 0))] → W p l e (headSpec wsX8_act rm_X8_act).room s m args below meth c H locs 0 0 Q (F0 m 48 ls []))) h (fun  h H locs ls hP hD hS hl => ?_) (fun JJ_5 ih_JJ_5 h => ?_)
    · refine lv_aload_n hx hb dX8_act_48 rfl (lv_at hl 0 rfl) ?_
      refine lv_iconst (v := 1) hx hb dX8_act_49 (by decide) ?_
      refine va_put (D := (dC, dI)) (ci := 7) (v := .int 1) (ty := .boolean) (C := RX8) (T := TX8) (N := 25) hx hb hts hin_X8 tyX8 tyX8_ok nmX8 hown hK hP hD hS 0 rfl rfl 11 (by decide) lk_0 (fun _ h9 => h9) rfl (by decide +kernel) rfl rfl (Nat.le_of_ble_eq_true rfl) dX8_act_50 (fun H locs hP hD hS => ?_)
      obtain ⟨u_6, eu_6⟩ : ∃ z : Ob, z = fs_i u_2 11 1 := ⟨_, rfl⟩
      replace h := h u_6 eu_6
      replace hP : va_P (dC, dI) vwCl (wd_X8 a ca u_6) H := by rw [eu_6]; exact hP
      replace hD : va_D A (wd_X8 a ca u_6) := by rw [eu_6]; exact hD
      refine lv_iconst (v := 0) hx hb dX8_act_53 (by decide) ?_
      subst hQ
      exact W.iret (v := 0) hx hb hr (fun t ht hW => ⟨⟨_, u_6, rfl, h, by rw [ht]; exact hP, hD⟩, hS.F ht⟩) hS.2.2 dX8_act_54
    · refine lv_if_ne (tgt := 48) hx hb dX8_act_41 (by decide) (fun hc_7 => ?_) (fun hc_7 => ?_)
      · replace h := h.1 hc_7
        exact ih_JJ_5 h _ _ _ hP hD hS (lv_sub hl [1] rfl)
      · replace h := h.2 hc_7
        refine lv_iload_n hx hb dX8_act_44 rfl (lv_at hl 0 rfl) ?_
        refine lv_if_ge (tgt := 55) hx hb dX8_act_45 (by decide) (fun hc_8 => ?_) (fun hc_8 => ?_)
        · replace h := h.1 hc_8
          refine lv_aload_n hx hb dX8_act_55 rfl (lv_at hl 1 rfl) ?_
          refine lv_dup hx hb dX8_act_56 rfl ?_
          refine va_get (D := (dC, dI)) (ci := 7) (v := .int (u_2.1 10)) (C := RX8) (T := TX8) (N := 25) hx hb hts hin_X8 hown hK hP 0 rfl rfl 10 (by decide) lk_1 (fun _ h9 => h9) rfl dX8_act_57 ?_
          refine lv_iconst (v := 1) hx hb dX8_act_60 (by decide) ?_
          refine lv_iadd hx hb dX8_act_61 ?_
          refine va_put (D := (dC, dI)) (ci := 7) (v := .int ((u_2.1 10) + 1)) (ty := .int) (C := RX8) (T := TX8) (N := 25) hx hb hts hin_X8 tyX8 tyX8_ok nmX8 hown hK hP hD hS 0 rfl rfl 10 (by decide) lk_1 (fun _ h9 => h9) rfl (by decide +kernel) rfl rfl (Nat.le_of_ble_eq_true rfl) dX8_act_62 (fun H locs hP hD hS => ?_)
          obtain ⟨u_9, eu_9⟩ : ∃ z : Ob, z = fs_i u_2 10 ((u_2.1 10) + 1) := ⟨_, rfl⟩
          replace h := h u_9 eu_9
          replace hP : va_P (dC, dI) vwCl (wd_X8 a ca u_9) H := by rw [eu_9]; exact hP
          replace hD : va_D A (wd_X8 a ca u_9) := by rw [eu_9]; exact hD
          refine lv_iload_n hx hb dX8_act_65 rfl (lv_at hl 0 rfl) ?_
          subst hQ
          exact W.iret (v := w_4) hx hb hr (fun t ht hW => ⟨⟨_, u_9, rfl, h, by rw [ht]; exact hP, hD⟩, hS.F ht⟩) hS.2.2 dX8_act_66
        · replace h := h.2 hc_8
          exact ih_JJ_5 h _ _ _ hP hD hS (lv_sub hl [1] rfl)
  · refine lv_icmp_ne (tgt := 15) hx hb dX8_act_8 (by decide) (fun hc_10 => ?_) (fun hc_10 => ?_)
    · replace h := h.1 hc_10
      refine lv_iload_n hx hb dX8_act_15 rfl (lv_at hl 0 rfl) ?_
      refine lv_bipush (v := 33) hx hb dX8_act_16 (by decide) ?_
      refine lv_icmp_ne (tgt := 25) hx hb dX8_act_18 (by decide) (fun hc_11 => ?_) (fun hc_11 => ?_)
      · replace h := h.1 hc_11
        refine lv_iload_n hx hb dX8_act_25 rfl (lv_at hl 0 rfl) ?_
        refine lv_bipush (v := 63) hx hb dX8_act_26 (by decide) ?_
        refine lv_icmp_ne (tgt := 35) hx hb dX8_act_28 (by decide) (fun hc_12 => ?_) (fun hc_12 => ?_)
        · replace h := h.1 hc_12
          refine lv_iconst (v := (-1)) hx hb dX8_act_35 (by decide) ?_
          exact ih_JJ_3 _ h _ _ _ hP hD hS (lv_sub hl [1] rfl)
        · replace h := h.2 hc_12
          refine lv_iconst (v := 2) hx hb dX8_act_31 (by decide) ?_
          refine lv_goto (tgt := 36) hx hb dX8_act_32 (by decide) ?_
          exact ih_JJ_3 _ h _ _ _ hP hD hS (lv_sub hl [1] rfl)
      · replace h := h.2 hc_11
        refine lv_iconst (v := 1) hx hb dX8_act_21 (by decide) ?_
        refine lv_goto (tgt := 36) hx hb dX8_act_22 (by decide) ?_
        exact ih_JJ_3 _ h _ _ _ hP hD hS (lv_sub hl [1] rfl)
    · replace h := h.2 hc_10
      refine lv_iconst (v := 0) hx hb dX8_act_11 (by decide) ?_
      refine lv_goto (tgt := 36) hx hb dX8_act_12 (by decide) ?_
      exact ih_JJ_3 _ h _ _ _ hP hD hS (lv_sub hl [1] rfl)
abbrev rm_X8_read : Room := { frames := 2, cells := 0, slots := 0, locals := 47 }
set_option maxHeartbeats 4000000 in
set_option maxRecDepth 100000 in
theorem c_X8_read (l : Launch) (dC : Nat → ClassId) (dI : Nat → Nat → Nat) (a : Nat → Nat) (ca : Nat → ClassId) (sz : Nat) (u : Ob) (post : Int32 → Ob → Prop) (h : wp_X8_read u post) : Met l yX8_read wsX8_read rm_X8_read (va_Pc [.ref (a 0)] (fun U => U.heap.size = sz ∧ va_P (dC, dI) vwCl (wd_X8 a ca u) U.heap ∧ va_K (dC, dI) vwCl (ty_X8 ca) U ∧ va_D (fun _ => True) (wd_X8 a ca u))) (va_Qi post (fun (zz : Ob) (t : State) => va_P (dC, dI) vwCl (wd_X8 a ca zz) t.heap ∧ va_D (va_A (wd_X8 a ca u) sz) (wd_X8 a ca zz)) (va_A (wd_X8 a ca u) sz)) 0 0 (va_A (wd_X8 a ca u) sz) := by
  refine fl_ofW (cc := cX8_read) (maxL := 6) (ret := (some .int)) (by decide) rfl ?_
  intro p e s m args below meth c s₁ Q B hml hv hQ
  obtain ⟨hargs, hsz, hP, hK, hD0⟩ := hv
  have hx := B.exec
  have hb := B.bytes
  have hr := B.returns
  have hts := atoms_spec (ws := wsX8_read) B.pre
  have hown : s.vm.findClass RX8 = some m.cls := findClass_of_methodNamed B.named
  subst hsz
  have hD := hD0.self (sz := s.heap.size)
  generalize hAe : va_A (wd_X8 a ca u) s.heap.size = A at hD hQ
  have hA : ∀ q : Nat, s.heap.size ≤ q → A q := fun q h => by rw [← hAe]; exact Or.inr h
  have hS : va_S A s.heap s.heap [] := va_S.rf
  have hl := lv_entry ([.ref (a 0)]) (n := 6) (Nat.le_of_ble_eq_true rfl)
  refine W.eq (g2 := F0 m 0 ((lg_sl ([.ref (a 0)]) ++ List.replicate (6 - (lg_sl ([.ref (a 0)])).length) Slot.unset).toArray) []) (by rw [hargs]; exact lg_entry_eq m _ 6) ?_
  generalize (lg_sl ([.ref (a 0)]) ++ List.replicate (6 - (lg_sl ([.ref (a 0)])).length) Slot.unset).toArray = ls at hl ⊢
  have hl : lv_has ls 6 [(0, .ref (a 0))] := hl
  suffices hstart : ∀ (H : Heap) (locs : List Loc) (ls : Array Slot), va_P (dC, dI) vwCl (wd_X8 a ca u) H → va_D A (wd_X8 a ca u) → va_S A s.heap H locs → lv_has ls 6 [(0, .ref (a 0))] → W p l e (headSpec wsX8_read rm_X8_read).room s m args below meth c H locs 0 0 Q (F0 m 0 ls []) from hstart _ _ _ hP hD hS hl
  clear hS hP hD hD0
  intro H locs ls hP hD hS hl
  have hin_X8 : ∀ w ∈ wsX80, w ∈ wsX8_read := by decide +kernel
  have lk_0 := hts (.fieldLink RX8 104 "ForgettingLinesModel" "at" "I") (by decide +kernel)
  have lk_1 := hts (.fieldLink RX8 111 "ForgettingLinesModel" "isWrong" "Z") (by decide +kernel)
  have lk_2 := hts (.fieldLink RX8 101 "ForgettingLinesModel" "taped" "I") (by decide +kernel)
  have lk_3 := hts (.fieldLink RX8 77 "ForgettingLinesModel" "arcs" "I") (by decide +kernel)
  have lk_4 := hts (.fieldLink RX8 36 "ForgettingLinesModel" "readArcs" "[I") (by decide +kernel)
  have lk_5 := hts (.fieldLink RX8 7 "ForgettingLinesModel" "states" "I") (by decide +kernel)
  unfold wp_X8_read at h
  refine lv_aload_n hx hb dX8_read_0 rfl (lv_at hl 0 rfl) ?_
  refine lv_iconst (v := 0) hx hb dX8_read_1 (by decide) ?_
  refine va_put (D := (dC, dI)) (ci := 7) (v := .int 0) (ty := .int) (C := RX8) (T := TX8) (N := 25) hx hb hts hin_X8 tyX8 tyX8_ok nmX8 hown hK hP hD hS 0 rfl rfl 10 (by decide) lk_0 (fun _ h9 => h9) rfl (by decide +kernel) rfl rfl (Nat.le_of_ble_eq_true rfl) dX8_read_2 (fun H locs hP hD hS => ?_)
  obtain ⟨u_1, eu_1⟩ : ∃ z : Ob, z = fs_i u 10 0 := ⟨_, rfl⟩
  replace h := h u_1 eu_1
  replace hP : va_P (dC, dI) vwCl (wd_X8 a ca u_1) H := by rw [eu_1]; exact hP
  replace hD : va_D A (wd_X8 a ca u_1) := by rw [eu_1]; exact hD
  refine lv_aload_n hx hb dX8_read_5 rfl (lv_at hl 0 rfl) ?_
  refine lv_iconst (v := 0) hx hb dX8_read_6 (by decide) ?_
  refine va_put (D := (dC, dI)) (ci := 7) (v := .int 0) (ty := .boolean) (C := RX8) (T := TX8) (N := 25) hx hb hts hin_X8 tyX8 tyX8_ok nmX8 hown hK hP hD hS 0 rfl rfl 11 (by decide) lk_1 (fun _ h9 => h9) rfl (by decide +kernel) rfl rfl (Nat.le_of_ble_eq_true rfl) dX8_read_7 (fun H locs hP hD hS => ?_)
  obtain ⟨u_2, eu_2⟩ : ∃ z : Ob, z = fs_i u_1 11 0 := ⟨_, rfl⟩
  replace h := h u_2 eu_2
  replace hP : va_P (dC, dI) vwCl (wd_X8 a ca u_2) H := by rw [eu_2]; exact hP
  replace hD : va_D A (wd_X8 a ca u_2) := by rw [eu_2]; exact hD
  refine lv_iconst (v := 0) hx hb dX8_read_10 (by decide) ?_
  refine lv_istore_n (lv' := [(1, .int 0), (0, .ref (a 0))]) hx hb dX8_read_11 rfl hl (by decide) rfl (fun ls hl => ?_)
  refine lv_iconst (v := 1) hx hb dX8_read_12 (by decide) ?_
  refine lv_istore_n (lv' := [(2, .int 1), (1, .int 0), (0, .ref (a 0))]) hx hb dX8_read_13 rfl hl (by decide) rfl (fun ls hl => ?_)
  obtain ⟨n_68, h⟩ := h
  refine lq3_ind (GG := (fun (v2_4 : Int32) (v1_5 : Int32) (u_6 : Ob) => ∀ (H : Heap) (locs : List Loc) (ls : Array Slot), va_P (dC, dI) vwCl (wd_X8 a ca u_6) H → va_D A (wd_X8 a ca u_6) → va_S A s.heap H locs → lv_has ls 6 [(2, .int v2_4), (1, .int v1_5), (0, .ref (a 0))] → W p l e (headSpec wsX8_read rm_X8_read).room s m args below meth c H locs 0 0 Q (F0 m 14 ls []))) (fun LL_3 ih_LL_3 v2_4 v1_5 u_6 h H locs ls hP hD hS hl => ?_) n_68 _ _ _ h _ _ _ hP hD hS (lv_sub hl [0, 1, 2] rfl)
  refine lv_iload_n hx hb dX8_read_14 rfl (lv_at hl 0 rfl) ?_
  refine lv_if_eq (tgt := 174) hx hb dX8_read_15 (by decide) (fun hc_7 => ?_) (fun hc_7 => ?_)
  · replace h := h.1 hc_7
    refine lv_aload_n hx hb dX8_read_174 rfl (lv_at hl 2 rfl) ?_
    refine va_get (D := (dC, dI)) (ci := 7) (v := .int (u_6.1 11)) (C := RX8) (T := TX8) (N := 25) hx hb hts hin_X8 hown hK hP 0 rfl rfl 11 (by decide) lk_1 (fun _ h9 => h9) rfl dX8_read_175 ?_
    refine jn2_ind (GG := (fun (w_9 : Int32) (u_10 : Ob) => ∀ (H : Heap) (locs : List Loc) (ls : Array Slot), va_P (dC, dI) vwCl (wd_X8 a ca u_10) H → va_D A (wd_X8 a ca u_10) → va_S A s.heap H locs → lv_has ls 6 [(1, .int v1_5), (0, .ref (a 0))] → W p l e (headSpec wsX8_read rm_X8_read).room s m args below meth c H locs 0 0 Q (F0 m 189 ls [.int w_9]))) h (fun w_9 u_10 h H locs ls hP hD hS hl => ?_) (fun JJ_8 ih_JJ_8 h => ?_)
    · refine lv_istore_n (lv' := [(3, .int w_9), (1, .int v1_5), (0, .ref (a 0))]) hx hb dX8_read_189 rfl hl (by decide) rfl (fun ls hl => ?_)
      refine lv_aload_n hx hb dX8_read_190 rfl (lv_at hl 2 rfl) ?_
      refine va_get (D := (dC, dI)) (ci := 7) (v := .int (u_10.1 10)) (C := RX8) (T := TX8) (N := 25) hx hb hts hin_X8 hown hK hP 0 rfl rfl 10 (by decide) lk_0 (fun _ h9 => h9) rfl dX8_read_191 ?_
      refine lv_istore (lv' := [(4, .int (u_10.1 10)), (3, .int w_9), (1, .int v1_5), (0, .ref (a 0))]) hx hb dX8_read_194 hl (by decide) rfl (fun ls hl => ?_)
      refine lv_aload_n hx hb dX8_read_196 rfl (lv_at hl 3 rfl) ?_
      refine lv_iconst (v := 0) hx hb dX8_read_197 (by decide) ?_
      refine va_put (D := (dC, dI)) (ci := 7) (v := .int 0) (ty := .int) (C := RX8) (T := TX8) (N := 25) hx hb hts hin_X8 tyX8 tyX8_ok nmX8 hown hK hP hD hS 0 rfl rfl 9 (by decide) lk_2 (fun _ h9 => h9) rfl (by decide +kernel) rfl rfl (Nat.le_of_ble_eq_true rfl) dX8_read_198 (fun H locs hP hD hS => ?_)
      obtain ⟨u_11, eu_11⟩ : ∃ z : Ob, z = fs_i u_10 9 0 := ⟨_, rfl⟩
      replace h := h u_11 eu_11
      replace hP : va_P (dC, dI) vwCl (wd_X8 a ca u_11) H := by rw [eu_11]; exact hP
      replace hD : va_D A (wd_X8 a ca u_11) := by rw [eu_11]; exact hD
      refine lv_iload_n hx hb dX8_read_201 rfl (lv_at hl 1 rfl) ?_
      refine lv_if_eq (tgt := 211) hx hb dX8_read_202 (by decide) (fun hc_12 => ?_) (fun hc_12 => ?_)
      · replace h := h.1 hc_12
        refine lv_aload_n hx hb dX8_read_211 rfl (lv_at hl 3 rfl) ?_
        refine lv_iconst (v := 0) hx hb dX8_read_212 (by decide) ?_
        refine va_put (D := (dC, dI)) (ci := 7) (v := .int 0) (ty := .int) (C := RX8) (T := TX8) (N := 25) hx hb hts hin_X8 tyX8 tyX8_ok nmX8 hown hK hP hD hS 0 rfl rfl 2 (by decide) lk_3 (fun _ h9 => h9) rfl (by decide +kernel) rfl rfl (Nat.le_of_ble_eq_true rfl) dX8_read_213 (fun H locs hP hD hS => ?_)
        obtain ⟨u_13, eu_13⟩ : ∃ z : Ob, z = fs_i u_11 2 0 := ⟨_, rfl⟩
        replace h := h u_13 eu_13
        replace hP : va_P (dC, dI) vwCl (wd_X8 a ca u_13) H := by rw [eu_13]; exact hP
        replace hD : va_D A (wd_X8 a ca u_13) := by rw [eu_13]; exact hD
        refine lv_iconst (v := 0) hx hb dX8_read_216 (by decide) ?_
        refine lv_istore (lv' := [(5, .int 0), (4, .int (u_10.1 10)), (3, .int w_9), (1, .int v1_5), (0, .ref (a 0))]) hx hb dX8_read_217 hl (by decide) rfl (fun ls hl => ?_)
        obtain ⟨n_24, h⟩ := h
        refine lq2_ind (GG := (fun (v5_15 : Int32) (u_16 : Ob) => ∀ (H : Heap) (locs : List Loc) (ls : Array Slot), va_P (dC, dI) vwCl (wd_X8 a ca u_16) H → va_D A (wd_X8 a ca u_16) → va_S A s.heap H locs → lv_has ls 6 [(5, .int v5_15), (1, .int v1_5), (0, .ref (a 0))] → W p l e (headSpec wsX8_read rm_X8_read).room s m args below meth c H locs 0 0 Q (F0 m 219 ls []))) (fun LL_14 ih_LL_14 v5_15 u_16 h H locs ls hP hD hS hl => ?_) n_24 _ _ h _ _ _ hP hD hS (lv_sub hl [0, 3, 4] rfl)
        refine lv_iload hx hb dX8_read_219 (lv_at hl 0 rfl) ?_
        refine lv_iload_n hx hb dX8_read_221 rfl (lv_at hl 1 rfl) ?_
        refine lv_icmp_ge (tgt := 288) hx hb dX8_read_222 (by decide) (fun hc_17 => ?_) (fun hc_17 => ?_)
        · replace h := h.1 hc_17
          refine lv_iload_n hx hb dX8_read_288 rfl (lv_at hl 1 rfl) ?_
          subst hQ
          exact W.iret (v := v1_5) hx hb hr (fun t ht hW => ⟨⟨_, u_16, rfl, h, by rw [ht]; exact hP, hD⟩, hS.F ht⟩) hS.2.2 dX8_read_289
        · replace h := h.2 hc_17
          refine lv_aload_n hx hb dX8_read_225 rfl (lv_at hl 2 rfl) ?_
          refine lv_aload_n hx hb dX8_read_226 rfl (lv_at hl 2 rfl) ?_
          refine va_get (D := (dC, dI)) (ci := 7) (v := .ref (a 13)) (C := RX8) (T := TX8) (N := 25) hx hb hts hin_X8 hown hK hP 0 rfl rfl 12 (by decide) lk_4 (fun _ h9 => h9) rfl dX8_read_227 ?_
          refine lv_iconst (v := 5) hx hb dX8_read_230 (by decide) ?_
          refine lv_iload hx hb dX8_read_231 (lv_at hl 0 rfl) ?_
          refine lv_imul hx hb dX8_read_233 ?_
          obtain ⟨hi_18, h⟩ := h
          refine va_iald (D := (dC, dI)) (cl := vwCl) (i := (5 * v5_15)) hx hb hK hP 8 7 rfl rfl hi_18 dX8_read_234 ?_
          refine lv_aload_n hx hb dX8_read_235 rfl (lv_at hl 2 rfl) ?_
          refine va_get (D := (dC, dI)) (ci := 7) (v := .ref (a 13)) (C := RX8) (T := TX8) (N := 25) hx hb hts hin_X8 hown hK hP 0 rfl rfl 12 (by decide) lk_4 (fun _ h9 => h9) rfl dX8_read_236 ?_
          refine lv_iconst (v := 5) hx hb dX8_read_239 (by decide) ?_
          refine lv_iload hx hb dX8_read_240 (lv_at hl 0 rfl) ?_
          refine lv_imul hx hb dX8_read_242 ?_
          refine lv_iconst (v := 1) hx hb dX8_read_243 (by decide) ?_
          refine lv_iadd hx hb dX8_read_244 ?_
          obtain ⟨hi_19, h⟩ := h
          refine va_iald (D := (dC, dI)) (cl := vwCl) (i := ((5 * v5_15) + 1)) hx hb hK hP 8 7 rfl rfl hi_19 dX8_read_245 ?_
          refine lv_aload_n hx hb dX8_read_246 rfl (lv_at hl 2 rfl) ?_
          refine va_get (D := (dC, dI)) (ci := 7) (v := .ref (a 13)) (C := RX8) (T := TX8) (N := 25) hx hb hts hin_X8 hown hK hP 0 rfl rfl 12 (by decide) lk_4 (fun _ h9 => h9) rfl dX8_read_247 ?_
          refine lv_iconst (v := 5) hx hb dX8_read_250 (by decide) ?_
          refine lv_iload hx hb dX8_read_251 (lv_at hl 0 rfl) ?_
          refine lv_imul hx hb dX8_read_253 ?_
          refine lv_iconst (v := 2) hx hb dX8_read_254 (by decide) ?_
          refine lv_iadd hx hb dX8_read_255 ?_
          obtain ⟨hi_20, h⟩ := h
          refine va_iald (D := (dC, dI)) (cl := vwCl) (i := ((5 * v5_15) + 2)) hx hb hK hP 8 7 rfl rfl hi_20 dX8_read_256 ?_
          refine lv_aload_n hx hb dX8_read_257 rfl (lv_at hl 2 rfl) ?_
          refine va_get (D := (dC, dI)) (ci := 7) (v := .ref (a 13)) (C := RX8) (T := TX8) (N := 25) hx hb hts hin_X8 hown hK hP 0 rfl rfl 12 (by decide) lk_4 (fun _ h9 => h9) rfl dX8_read_258 ?_
          refine lv_iconst (v := 5) hx hb dX8_read_261 (by decide) ?_
          refine lv_iload hx hb dX8_read_262 (lv_at hl 0 rfl) ?_
          refine lv_imul hx hb dX8_read_264 ?_
          refine lv_iconst (v := 3) hx hb dX8_read_265 (by decide) ?_
          refine lv_iadd hx hb dX8_read_266 ?_
          obtain ⟨hi_21, h⟩ := h
          refine va_iald (D := (dC, dI)) (cl := vwCl) (i := ((5 * v5_15) + 3)) hx hb hK hP 8 7 rfl rfl hi_21 dX8_read_267 ?_
          refine lv_aload_n hx hb dX8_read_268 rfl (lv_at hl 2 rfl) ?_
          refine va_get (D := (dC, dI)) (ci := 7) (v := .ref (a 13)) (C := RX8) (T := TX8) (N := 25) hx hb hts hin_X8 hown hK hP 0 rfl rfl 12 (by decide) lk_4 (fun _ h9 => h9) rfl dX8_read_269 ?_
          refine lv_iconst (v := 5) hx hb dX8_read_272 (by decide) ?_
          refine lv_iload hx hb dX8_read_273 (lv_at hl 0 rfl) ?_
          refine lv_imul hx hb dX8_read_275 ?_
          refine lv_iconst (v := 4) hx hb dX8_read_276 (by decide) ?_
          refine lv_iadd hx hb dX8_read_277 ?_
          obtain ⟨hi_22, h⟩ := h
          refine va_iald (D := (dC, dI)) (cl := vwCl) (i := ((5 * v5_15) + 4)) hx hb hK hP 8 7 rfl rfl hi_22 dX8_read_278 ?_
          have hPc := hP
          have hDc := hD
          have hKc := hK
          have hFc := va_free (wc := (wd_X8 a ca u_16)) hD hS hA [0, 1, 2, 3, 4, 5, 6, 7, 8, 9, 10, 11, 12, 13, 14, 15, 16, 17, 18, 19] rfl
          refine va_callv (va_runV (As := [.int (u_16.2.1 12 (5 * v5_15).toNatClampNeg), .int (u_16.2.1 12 ((5 * v5_15) + 1).toNatClampNeg), .int (u_16.2.1 12 ((5 * v5_15) + 2).toNatClampNeg), .int (u_16.2.1 12 ((5 * v5_15) + 3).toNatClampNeg), .int (u_16.2.1 12 ((5 * v5_15) + 4).toNatClampNeg)]) (rest := []) ⟨hx, hb, hml, hown, hts⟩ (c_X8_put l dC dI a ca H.size u_16 (u_16.2.1 12 (5 * v5_15).toNatClampNeg) (u_16.2.1 12 ((5 * v5_15) + 1).toNatClampNeg) (u_16.2.1 12 ((5 * v5_15) + 2).toNatClampNeg) (u_16.2.1 12 ((5 * v5_15) + 3).toNatClampNeg) (u_16.2.1 12 ((5 * v5_15) + 4).toNatClampNeg) _ h) (cwV 5 hts gX8_read_X8_put rfl rfl rfl (by decide +kernel) ⟨Nat.le_of_ble_eq_true rfl, Nat.le_of_ble_eq_true rfl⟩) ⟨fun a U g mk q => by obtain ⟨q0, q1, qP, qK, qD⟩ := q; exact ⟨q0, q1, qP, va_K.moved (u := U) (U := U.calling g mk a) (Vm.Alike.refl U.vm) qK, qD⟩, va_recv hKc hPc (ci := 7) (q0 := 0) rfl rfl, fun U hU hW => ⟨rfl, by rw [hU], by rw [hU]; exact hPc, va_K.moved hW.alike hKc, hDc.weaken (fun _ _ _ _ => trivial)⟩⟩ rfl rfl hl.1 rfl (lv_room (Nat.le_of_ble_eq_true rfl)) dX8_read_279 ⟨Nat.zero_le _, Nat.zero_le _⟩) hS (fun q _ h => hFc q h) hFc (fun zz t H1 locs ht hvm hw hB hz1 hk1 hS => ?_)
          obtain ⟨u_23, rfl⟩ : ∃ z, z = zz := ⟨_, rfl⟩
          replace h := hw
          obtain ⟨hP1, hD1⟩ := hB
          rw [ht] at hP1
          replace hD : va_D A (wd_X8 a ca u_23) := hD1.weaken (fun _ _ _ h9 => hFc _ h9)
          replace hP : va_P (dC, dI) vwCl (wd_X8 a ca u_23) H1 := hP1
          generalize H1 = H at hP hS ⊢
          refine lv_iinc (v := (v5_15 + 1)) (lv' := [(5, .int (v5_15 + 1)), (1, .int v1_5), (0, .ref (a 0))]) hx hb dX8_read_282 hl (k := 0) rfl rfl (by decide) rfl (fun ls hl => ?_)
          refine lv_goto (tgt := 219) hx hb dX8_read_285 (by decide) ?_
          exact ih_LL_14 _ _ h _ _ _ hP hD hS (lv_sub hl [0, 1, 2] rfl)
      · replace h := h.2 hc_12
        refine lv_bipush (v := (-20)) hx hb dX8_read_205 (by decide) ?_
        refine lv_iload hx hb dX8_read_207 (lv_at hl 0 rfl) ?_
        refine lv_isub hx hb dX8_read_209 ?_
        subst hQ
        exact W.iret (v := ((-20) - (u_10.1 10))) hx hb hr (fun t ht hW => ⟨⟨_, u_11, rfl, h, by rw [ht]; exact hP, hD⟩, hS.F ht⟩) hS.2.2 dX8_read_210
    · refine lv_if_eq (tgt := 185) hx hb dX8_read_178 (by decide) (fun hc_25 => ?_) (fun hc_25 => ?_)
      · replace h := h.1 hc_25
        refine lv_aload_n hx hb dX8_read_185 rfl (lv_at hl 2 rfl) ?_
        have hPc := hP
        have hDc := hD
        have hKc := hK
        have hFc := va_free (wc := (wd_X8 a ca u_6)) hD hS hA [0, 1, 2, 3, 4, 5, 6, 7, 8, 9, 10, 11, 12, 13, 14, 15, 16, 17, 18, 19] rfl
        refine va_calli (va_runV (As := []) (rest := []) ⟨hx, hb, hml, hown, hts⟩ (c_X8_next l dC dI a ca H.size u_6 _ h) (cwV 0 hts gX8_read_X8_next rfl rfl rfl (by decide +kernel) ⟨Nat.le_of_ble_eq_true rfl, Nat.le_of_ble_eq_true rfl⟩) ⟨fun a U g mk q => by obtain ⟨q0, q1, qP, qK, qD⟩ := q; exact ⟨q0, q1, qP, va_K.moved (u := U) (U := U.calling g mk a) (Vm.Alike.refl U.vm) qK, qD⟩, va_recv hKc hPc (ci := 7) (q0 := 0) rfl rfl, fun U hU hW => ⟨rfl, by rw [hU], by rw [hU]; exact hPc, va_K.moved hW.alike hKc, hDc.weaken (fun _ _ _ _ => trivial)⟩⟩ rfl rfl hl.1 rfl (lv_room (Nat.le_of_ble_eq_true rfl)) dX8_read_186 ⟨Nat.zero_le _, Nat.zero_le _⟩) hS (fun q _ h => hFc q h) hFc (fun r_26 zz t H1 locs ht hvm hw hB hz1 hk1 hS => ?_)
        obtain ⟨u_27, rfl⟩ : ∃ z, z = zz := ⟨_, rfl⟩
        replace h := hw
        obtain ⟨hP1, hD1⟩ := hB
        rw [ht] at hP1
        replace hD : va_D A (wd_X8 a ca u_27) := hD1.weaken (fun _ _ _ h9 => hFc _ h9)
        replace hP : va_P (dC, dI) vwCl (wd_X8 a ca u_27) H1 := hP1
        generalize H1 = H at hP hS ⊢
        exact ih_JJ_8 _ _ h _ _ _ hP hD hS (lv_sub hl [1, 2] rfl)
      · replace h := h.2 hc_25
        refine lv_iconst (v := 1) hx hb dX8_read_181 (by decide) ?_
        refine lv_goto (tgt := 189) hx hb dX8_read_182 (by decide) ?_
        exact ih_JJ_8 _ _ h _ _ _ hP hD hS (lv_sub hl [1, 2] rfl)
  · replace h := h.2 hc_7
    refine lv_aload_n hx hb dX8_read_18 rfl (lv_at hl 2 rfl) ?_
    refine va_get (D := (dC, dI)) (ci := 7) (v := .ref (a 13)) (C := RX8) (T := TX8) (N := 25) hx hb hts hin_X8 hown hK hP 0 rfl rfl 12 (by decide) lk_4 (fun _ h9 => h9) rfl dX8_read_19 ?_
    refine lv_iconst (v := 5) hx hb dX8_read_22 (by decide) ?_
    refine lv_iload_n hx hb dX8_read_23 rfl (lv_at hl 1 rfl) ?_
    refine lv_imul hx hb dX8_read_24 ?_
    refine lv_aload_n hx hb dX8_read_25 rfl (lv_at hl 2 rfl) ?_
    refine lv_bipush (v := 48) hx hb dX8_read_26 (by decide) ?_
    refine lv_aload_n hx hb dX8_read_28 rfl (lv_at hl 2 rfl) ?_
    refine va_get (D := (dC, dI)) (ci := 7) (v := .int (u_6.1 0)) (C := RX8) (T := TX8) (N := 25) hx hb hts hin_X8 hown hK hP 0 rfl rfl 0 (by decide) lk_5 (fun _ h9 => h9) rfl dX8_read_29 ?_
    have hPc := hP
    have hDc := hD
    have hKc := hK
    have hFc := va_free (wc := (wd_X8 a ca u_6)) hD hS hA [0, 1, 2, 3, 4, 5, 6, 7, 8, 9, 10, 11, 12, 13, 14, 15, 16, 17, 18, 19] rfl
    refine va_calli (va_runV (As := [.int 48, .int (u_6.1 0)]) (rest := [.int (5 * v1_5), .ref (a 13)]) ⟨hx, hb, hml, hown, hts⟩ (c_X8_passed l dC dI a ca H.size u_6 48 (u_6.1 0) _ h) (cwV 2 hts gX8_read_X8_passed rfl rfl rfl (by decide +kernel) ⟨Nat.le_of_ble_eq_true rfl, Nat.le_of_ble_eq_true rfl⟩) ⟨fun a U g mk q => by obtain ⟨q0, q1, qP, qK, qD⟩ := q; exact ⟨q0, q1, qP, va_K.moved (u := U) (U := U.calling g mk a) (Vm.Alike.refl U.vm) qK, qD⟩, va_recv hKc hPc (ci := 7) (q0 := 0) rfl rfl, fun U hU hW => ⟨rfl, by rw [hU], by rw [hU]; exact hPc, va_K.moved hW.alike hKc, hDc.weaken (fun _ _ _ _ => trivial)⟩⟩ rfl rfl hl.1 rfl (lv_room (Nat.le_of_ble_eq_true rfl)) dX8_read_32 ⟨Nat.zero_le _, Nat.zero_le _⟩) hS (fun q _ h => hFc q h) hFc (fun r_28 zz t H1 locs ht hvm hw hB hz1 hk1 hS => ?_)
    obtain ⟨u_29, rfl⟩ : ∃ z, z = zz := ⟨_, rfl⟩
    replace h := hw
    obtain ⟨hP1, hD1⟩ := hB
    rw [ht] at hP1
    replace hD : va_D A (wd_X8 a ca u_29) := hD1.weaken (fun _ _ _ h9 => hFc _ h9)
    replace hP : va_P (dC, dI) vwCl (wd_X8 a ca u_29) H1 := hP1
    generalize H1 = H at hP hS ⊢
    obtain ⟨hi_30, h⟩ := h
    refine va_iast (D := (dC, dI)) (cl := vwCl) (i := (5 * v1_5)) hx hb hK hP hD hS 8 7 rfl rfl hi_30 dX8_read_35 (fun H locs hP hD hS => ?_)
    obtain ⟨u_31, eu_31⟩ : ∃ z : Ob, z = fs_a u_29 12 (upd (u_29.2.1 12) (5 * v1_5).toNatClampNeg r_28) := ⟨_, rfl⟩
    replace h := h u_31 eu_31
    replace hP : va_P (dC, dI) vwCl (wd_X8 a ca u_31) H := by rw [eu_31]; exact hP
    replace hD : va_D A (wd_X8 a ca u_31) := by rw [eu_31]; exact hD
    refine lv_aload_n hx hb dX8_read_36 rfl (lv_at hl 2 rfl) ?_
    have hPc := hP
    have hDc := hD
    have hKc := hK
    have hFc := va_free (wc := (wd_X8 a ca u_31)) hD hS hA [0, 1, 2, 3, 4, 5, 6, 7, 8, 9, 10, 11, 12, 13, 14, 15, 16, 17, 18, 19] rfl
    refine va_calli (va_runV (As := []) (rest := []) ⟨hx, hb, hml, hown, hts⟩ (c_X8_act l dC dI a ca H.size u_31 _ h) (cwV 0 hts gX8_read_X8_act rfl rfl rfl (by decide +kernel) ⟨Nat.le_of_ble_eq_true rfl, Nat.le_of_ble_eq_true rfl⟩) ⟨fun a U g mk q => by obtain ⟨q0, q1, qP, qK, qD⟩ := q; exact ⟨q0, q1, qP, va_K.moved (u := U) (U := U.calling g mk a) (Vm.Alike.refl U.vm) qK, qD⟩, va_recv hKc hPc (ci := 7) (q0 := 0) rfl rfl, fun U hU hW => ⟨rfl, by rw [hU], by rw [hU]; exact hPc, va_K.moved hW.alike hKc, hDc.weaken (fun _ _ _ _ => trivial)⟩⟩ rfl rfl hl.1 rfl (lv_room (Nat.le_of_ble_eq_true rfl)) dX8_read_37 ⟨Nat.zero_le _, Nat.zero_le _⟩) hS (fun q _ h => hFc q h) hFc (fun r_32 zz t H1 locs ht hvm hw hB hz1 hk1 hS => ?_)
    obtain ⟨u_33, rfl⟩ : ∃ z, z = zz := ⟨_, rfl⟩
    replace h := hw
    obtain ⟨hP1, hD1⟩ := hB
    rw [ht] at hP1
    replace hD : va_D A (wd_X8 a ca u_33) := hD1.weaken (fun _ _ _ h9 => hFc _ h9)
    replace hP : va_P (dC, dI) vwCl (wd_X8 a ca u_33) H1 := hP1
    generalize H1 = H at hP hS ⊢
    refine lv_istore_n (lv' := [(3, .int r_32), (2, .int v2_4), (1, .int v1_5), (0, .ref (a 0))]) hx hb dX8_read_40 rfl hl (by decide) rfl (fun ls hl => ?_)
    refine lv_aload_n hx hb dX8_read_41 rfl (lv_at hl 3 rfl) ?_
    refine va_get (D := (dC, dI)) (ci := 7) (v := .ref (a 13)) (C := RX8) (T := TX8) (N := 25) hx hb hts hin_X8 hown hK hP 0 rfl rfl 12 (by decide) lk_4 (fun _ h9 => h9) rfl dX8_read_42 ?_
    refine lv_iconst (v := 5) hx hb dX8_read_45 (by decide) ?_
    refine lv_iload_n hx hb dX8_read_46 rfl (lv_at hl 2 rfl) ?_
    refine lv_imul hx hb dX8_read_47 ?_
    refine lv_iconst (v := 1) hx hb dX8_read_48 (by decide) ?_
    refine lv_iadd hx hb dX8_read_49 ?_
    refine lv_iload_n hx hb dX8_read_50 rfl (lv_at hl 0 rfl) ?_
    obtain ⟨hi_34, h⟩ := h
    refine va_iast (D := (dC, dI)) (cl := vwCl) (i := ((5 * v1_5) + 1)) hx hb hK hP hD hS 8 7 rfl rfl hi_34 dX8_read_51 (fun H locs hP hD hS => ?_)
    obtain ⟨u_35, eu_35⟩ : ∃ z : Ob, z = fs_a u_33 12 (upd (u_33.2.1 12) ((5 * v1_5) + 1).toNatClampNeg r_32) := ⟨_, rfl⟩
    replace h := h u_35 eu_35
    replace hP : va_P (dC, dI) vwCl (wd_X8 a ca u_35) H := by rw [eu_35]; exact hP
    replace hD : va_D A (wd_X8 a ca u_35) := by rw [eu_35]; exact hD
    refine lv_aload_n hx hb dX8_read_52 rfl (lv_at hl 3 rfl) ?_
    refine va_get (D := (dC, dI)) (ci := 7) (v := .ref (a 13)) (C := RX8) (T := TX8) (N := 25) hx hb hts hin_X8 hown hK hP 0 rfl rfl 12 (by decide) lk_4 (fun _ h9 => h9) rfl dX8_read_53 ?_
    refine lv_iconst (v := 5) hx hb dX8_read_56 (by decide) ?_
    refine lv_iload_n hx hb dX8_read_57 rfl (lv_at hl 2 rfl) ?_
    refine lv_imul hx hb dX8_read_58 ?_
    refine lv_iconst (v := 3) hx hb dX8_read_59 (by decide) ?_
    refine lv_iadd hx hb dX8_read_60 ?_
    refine lv_iload_n hx hb dX8_read_61 rfl (lv_at hl 0 rfl) ?_
    refine jn2_ind (GG := (fun (w_37 : Int32) (u_38 : Ob) => ∀ (H : Heap) (locs : List Loc) (ls : Array Slot), va_P (dC, dI) vwCl (wd_X8 a ca u_38) H → va_D A (wd_X8 a ca u_38) → va_S A s.heap H locs → lv_has ls 6 [(3, .int r_32), (1, .int v1_5), (0, .ref (a 0))] → W p l e (headSpec wsX8_read rm_X8_read).room s m args below meth c H locs 0 0 Q (F0 m 76 ls [.int w_37, .int ((5 * v1_5) + 3), .ref (a 13)]))) h (fun w_37 u_38 h H locs ls hP hD hS hl => ?_) (fun JJ_36 ih_JJ_36 h => ?_)
    · obtain ⟨hi_39, h⟩ := h
      refine va_iast (D := (dC, dI)) (cl := vwCl) (i := ((5 * v1_5) + 3)) hx hb hK hP hD hS 8 7 rfl rfl hi_39 dX8_read_76 (fun H locs hP hD hS => ?_)
      obtain ⟨u_40, eu_40⟩ : ∃ z : Ob, z = fs_a u_38 12 (upd (u_38.2.1 12) ((5 * v1_5) + 3).toNatClampNeg w_37) := ⟨_, rfl⟩
      replace h := h u_40 eu_40
      replace hP : va_P (dC, dI) vwCl (wd_X8 a ca u_40) H := by rw [eu_40]; exact hP
      replace hD : va_D A (wd_X8 a ca u_40) := by rw [eu_40]; exact hD
      refine lv_aload_n hx hb dX8_read_77 rfl (lv_at hl 2 rfl) ?_
      refine va_get (D := (dC, dI)) (ci := 7) (v := .ref (a 13)) (C := RX8) (T := TX8) (N := 25) hx hb hts hin_X8 hown hK hP 0 rfl rfl 12 (by decide) lk_4 (fun _ h9 => h9) rfl dX8_read_78 ?_
      refine lv_iconst (v := 5) hx hb dX8_read_81 (by decide) ?_
      refine lv_iload_n hx hb dX8_read_82 rfl (lv_at hl 1 rfl) ?_
      refine lv_imul hx hb dX8_read_83 ?_
      refine lv_iconst (v := 2) hx hb dX8_read_84 (by decide) ?_
      refine lv_iadd hx hb dX8_read_85 ?_
      refine lv_iload_n hx hb dX8_read_86 rfl (lv_at hl 0 rfl) ?_
      refine jn2_ind (GG := (fun (w_42 : Int32) (u_43 : Ob) => ∀ (H : Heap) (locs : List Loc) (ls : Array Slot), va_P (dC, dI) vwCl (wd_X8 a ca u_43) H → va_D A (wd_X8 a ca u_43) → va_S A s.heap H locs → lv_has ls 6 [(1, .int v1_5), (0, .ref (a 0))] → W p l e (headSpec wsX8_read rm_X8_read).room s m args below meth c H locs 0 0 Q (F0 m 101 ls [.int w_42, .int ((5 * v1_5) + 2), .ref (a 13)]))) h (fun w_42 u_43 h H locs ls hP hD hS hl => ?_) (fun JJ_41 ih_JJ_41 h => ?_)
      · obtain ⟨hi_44, h⟩ := h
        refine va_iast (D := (dC, dI)) (cl := vwCl) (i := ((5 * v1_5) + 2)) hx hb hK hP hD hS 8 7 rfl rfl hi_44 dX8_read_101 (fun H locs hP hD hS => ?_)
        obtain ⟨u_45, eu_45⟩ : ∃ z : Ob, z = fs_a u_43 12 (upd (u_43.2.1 12) ((5 * v1_5) + 2).toNatClampNeg w_42) := ⟨_, rfl⟩
        replace h := h u_45 eu_45
        replace hP : va_P (dC, dI) vwCl (wd_X8 a ca u_45) H := by rw [eu_45]; exact hP
        replace hD : va_D A (wd_X8 a ca u_45) := by rw [eu_45]; exact hD
        refine lv_aload_n hx hb dX8_read_102 rfl (lv_at hl 1 rfl) ?_
        refine va_get (D := (dC, dI)) (ci := 7) (v := .ref (a 13)) (C := RX8) (T := TX8) (N := 25) hx hb hts hin_X8 hown hK hP 0 rfl rfl 12 (by decide) lk_4 (fun _ h9 => h9) rfl dX8_read_103 ?_
        refine lv_iconst (v := 5) hx hb dX8_read_106 (by decide) ?_
        refine lv_iload_n hx hb dX8_read_107 rfl (lv_at hl 0 rfl) ?_
        refine lv_imul hx hb dX8_read_108 ?_
        refine lv_iconst (v := 4) hx hb dX8_read_109 (by decide) ?_
        refine lv_iadd hx hb dX8_read_110 ?_
        refine lv_aload_n hx hb dX8_read_111 rfl (lv_at hl 1 rfl) ?_
        refine lv_bipush (v := 48) hx hb dX8_read_112 (by decide) ?_
        refine lv_aload_n hx hb dX8_read_114 rfl (lv_at hl 1 rfl) ?_
        refine va_get (D := (dC, dI)) (ci := 7) (v := .int (u_45.1 0)) (C := RX8) (T := TX8) (N := 25) hx hb hts hin_X8 hown hK hP 0 rfl rfl 0 (by decide) lk_5 (fun _ h9 => h9) rfl dX8_read_115 ?_
        have hPc := hP
        have hDc := hD
        have hKc := hK
        have hFc := va_free (wc := (wd_X8 a ca u_45)) hD hS hA [0, 1, 2, 3, 4, 5, 6, 7, 8, 9, 10, 11, 12, 13, 14, 15, 16, 17, 18, 19] rfl
        refine va_calli (va_runV (As := [.int 48, .int (u_45.1 0)]) (rest := [.int ((5 * v1_5) + 4), .ref (a 13)]) ⟨hx, hb, hml, hown, hts⟩ (c_X8_passed l dC dI a ca H.size u_45 48 (u_45.1 0) _ h) (cwV 2 hts gX8_read_X8_passed rfl rfl rfl (by decide +kernel) ⟨Nat.le_of_ble_eq_true rfl, Nat.le_of_ble_eq_true rfl⟩) ⟨fun a U g mk q => by obtain ⟨q0, q1, qP, qK, qD⟩ := q; exact ⟨q0, q1, qP, va_K.moved (u := U) (U := U.calling g mk a) (Vm.Alike.refl U.vm) qK, qD⟩, va_recv hKc hPc (ci := 7) (q0 := 0) rfl rfl, fun U hU hW => ⟨rfl, by rw [hU], by rw [hU]; exact hPc, va_K.moved hW.alike hKc, hDc.weaken (fun _ _ _ _ => trivial)⟩⟩ rfl rfl hl.1 rfl (lv_room (Nat.le_of_ble_eq_true rfl)) dX8_read_118 ⟨Nat.zero_le _, Nat.zero_le _⟩) hS (fun q _ h => hFc q h) hFc (fun r_46 zz t H1 locs ht hvm hw hB hz1 hk1 hS => ?_)
        obtain ⟨u_47, rfl⟩ : ∃ z, z = zz := ⟨_, rfl⟩
        replace h := hw
        obtain ⟨hP1, hD1⟩ := hB
        rw [ht] at hP1
        replace hD : va_D A (wd_X8 a ca u_47) := hD1.weaken (fun _ _ _ h9 => hFc _ h9)
        replace hP : va_P (dC, dI) vwCl (wd_X8 a ca u_47) H1 := hP1
        generalize H1 = H at hP hS ⊢
        obtain ⟨hi_48, h⟩ := h
        refine va_iast (D := (dC, dI)) (cl := vwCl) (i := ((5 * v1_5) + 4)) hx hb hK hP hD hS 8 7 rfl rfl hi_48 dX8_read_121 (fun H locs hP hD hS => ?_)
        obtain ⟨u_49, eu_49⟩ : ∃ z : Ob, z = fs_a u_47 12 (upd (u_47.2.1 12) ((5 * v1_5) + 4).toNatClampNeg r_46) := ⟨_, rfl⟩
        replace h := h u_49 eu_49
        replace hP : va_P (dC, dI) vwCl (wd_X8 a ca u_49) H := by rw [eu_49]; exact hP
        replace hD : va_D A (wd_X8 a ca u_49) := by rw [eu_49]; exact hD
        refine lv_iinc (v := (v1_5 + 1)) (lv' := [(1, .int (v1_5 + 1)), (0, .ref (a 0))]) hx hb dX8_read_122 hl (k := 0) rfl rfl (by decide) rfl (fun ls hl => ?_)
        refine lv_aload_n hx hb dX8_read_125 rfl (lv_at hl 1 rfl) ?_
        refine va_get (D := (dC, dI)) (ci := 7) (v := .int (u_49.1 11)) (C := RX8) (T := TX8) (N := 25) hx hb hts hin_X8 hown hK hP 0 rfl rfl 11 (by decide) lk_1 (fun _ h9 => h9) rfl dX8_read_126 ?_
        refine jn2_ind (GG := (fun (w_51 : Int32) (u_52 : Ob) => ∀ (H : Heap) (locs : List Loc) (ls : Array Slot), va_P (dC, dI) vwCl (wd_X8 a ca u_52) H → va_D A (wd_X8 a ca u_52) → va_S A s.heap H locs → lv_has ls 6 [(1, .int (v1_5 + 1)), (0, .ref (a 0))] → W p l e (headSpec wsX8_read rm_X8_read).room s m args below meth c H locs 0 0 Q (F0 m 152 ls [.int w_51]))) h (fun w_51 u_52 h H locs ls hP hD hS hl => ?_) (fun JJ_50 ih_JJ_50 h => ?_)
        · refine lv_istore_n (lv' := [(2, .int w_51), (1, .int (v1_5 + 1)), (0, .ref (a 0))]) hx hb dX8_read_152 rfl hl (by decide) rfl (fun ls hl => ?_)
          refine lv_aload_n hx hb dX8_read_153 rfl (lv_at hl 2 rfl) ?_
          refine lv_dup hx hb dX8_read_154 rfl ?_
          refine va_get (D := (dC, dI)) (ci := 7) (v := .int (u_52.1 10)) (C := RX8) (T := TX8) (N := 25) hx hb hts hin_X8 hown hK hP 0 rfl rfl 10 (by decide) lk_0 (fun _ h9 => h9) rfl dX8_read_155 ?_
          refine lv_iload_n hx hb dX8_read_158 rfl (lv_at hl 0 rfl) ?_
          refine jn1_ind (GG := (fun (w_54 : Int32) => ∀ (H : Heap) (locs : List Loc) (ls : Array Slot), va_P (dC, dI) vwCl (wd_X8 a ca u_52) H → va_D A (wd_X8 a ca u_52) → va_S A s.heap H locs → lv_has ls 6 [(2, .int w_51), (1, .int (v1_5 + 1)), (0, .ref (a 0))] → W p l e (headSpec wsX8_read rm_X8_read).room s m args below meth c H locs 0 0 Q (F0 m 167 ls [.int w_54, .int (u_52.1 10), .ref (a 0)]))) h (fun w_54 h H locs ls hP hD hS hl => ?_) (fun JJ_53 ih_JJ_53 h => ?_)
          · refine lv_iadd hx hb dX8_read_167 ?_
            refine va_put (D := (dC, dI)) (ci := 7) (v := .int ((u_52.1 10) + w_54)) (ty := .int) (C := RX8) (T := TX8) (N := 25) hx hb hts hin_X8 tyX8 tyX8_ok nmX8 hown hK hP hD hS 0 rfl rfl 10 (by decide) lk_0 (fun _ h9 => h9) rfl (by decide +kernel) rfl rfl (Nat.le_of_ble_eq_true rfl) dX8_read_168 (fun H locs hP hD hS => ?_)
            obtain ⟨u_55, eu_55⟩ : ∃ z : Ob, z = fs_i u_52 10 ((u_52.1 10) + w_54) := ⟨_, rfl⟩
            replace h := h u_55 eu_55
            replace hP : va_P (dC, dI) vwCl (wd_X8 a ca u_55) H := by rw [eu_55]; exact hP
            replace hD : va_D A (wd_X8 a ca u_55) := by rw [eu_55]; exact hD
            refine lv_goto (tgt := 14) hx hb dX8_read_171 (by decide) ?_
            exact ih_LL_3 _ _ _ h _ _ _ hP hD hS (lv_sub hl [0, 1, 2] rfl)
          · refine lv_if_eq (tgt := 166) hx hb dX8_read_159 (by decide) (fun hc_56 => ?_) (fun hc_56 => ?_)
            · replace h := h.1 hc_56
              refine lv_iconst (v := 0) hx hb dX8_read_166 (by decide) ?_
              exact ih_JJ_53 _ h _ _ _ hP hD hS (lv_sub hl [0, 1, 2] rfl)
            · replace h := h.2 hc_56
              refine lv_iconst (v := 1) hx hb dX8_read_162 (by decide) ?_
              refine lv_goto (tgt := 167) hx hb dX8_read_163 (by decide) ?_
              exact ih_JJ_53 _ h _ _ _ hP hD hS (lv_sub hl [0, 1, 2] rfl)
        · refine lv_if_ne (tgt := 151) hx hb dX8_read_129 (by decide) (fun hc_57 => ?_) (fun hc_57 => ?_)
          · replace h := h.1 hc_57
            refine lv_iconst (v := 0) hx hb dX8_read_151 (by decide) ?_
            exact ih_JJ_50 _ _ h _ _ _ hP hD hS (lv_sub hl [0, 1] rfl)
          · replace h := h.2 hc_57
            refine lv_aload_n hx hb dX8_read_132 rfl (lv_at hl 1 rfl) ?_
            have hPc := hP
            have hDc := hD
            have hKc := hK
            have hFc := va_free (wc := (wd_X8 a ca u_49)) hD hS hA [0, 1, 2, 3, 4, 5, 6, 7, 8, 9, 10, 11, 12, 13, 14, 15, 16, 17, 18, 19] rfl
            refine va_calli (va_runV (As := []) (rest := []) ⟨hx, hb, hml, hown, hts⟩ (c_X8_next l dC dI a ca H.size u_49 _ h) (cwV 0 hts gX8_read_X8_next rfl rfl rfl (by decide +kernel) ⟨Nat.le_of_ble_eq_true rfl, Nat.le_of_ble_eq_true rfl⟩) ⟨fun a U g mk q => by obtain ⟨q0, q1, qP, qK, qD⟩ := q; exact ⟨q0, q1, qP, va_K.moved (u := U) (U := U.calling g mk a) (Vm.Alike.refl U.vm) qK, qD⟩, va_recv hKc hPc (ci := 7) (q0 := 0) rfl rfl, fun U hU hW => ⟨rfl, by rw [hU], by rw [hU]; exact hPc, va_K.moved hW.alike hKc, hDc.weaken (fun _ _ _ _ => trivial)⟩⟩ rfl rfl hl.1 rfl (lv_room (Nat.le_of_ble_eq_true rfl)) dX8_read_133 ⟨Nat.zero_le _, Nat.zero_le _⟩) hS (fun q _ h => hFc q h) hFc (fun r_58 zz t H1 locs ht hvm hw hB hz1 hk1 hS => ?_)
            obtain ⟨u_59, rfl⟩ : ∃ z, z = zz := ⟨_, rfl⟩
            replace h := hw
            obtain ⟨hP1, hD1⟩ := hB
            rw [ht] at hP1
            replace hD : va_D A (wd_X8 a ca u_59) := hD1.weaken (fun _ _ _ h9 => hFc _ h9)
            replace hP : va_P (dC, dI) vwCl (wd_X8 a ca u_59) H1 := hP1
            generalize H1 = H at hP hS ⊢
            refine lv_bipush (v := 59) hx hb dX8_read_136 (by decide) ?_
            refine lv_icmp_ne (tgt := 151) hx hb dX8_read_138 (by decide) (fun hc_60 => ?_) (fun hc_60 => ?_)
            · replace h := h.1 hc_60
              refine lv_iconst (v := 0) hx hb dX8_read_151 (by decide) ?_
              exact ih_JJ_50 _ _ h _ _ _ hP hD hS (lv_sub hl [0, 1] rfl)
            · replace h := h.2 hc_60
              refine lv_iload_n hx hb dX8_read_141 rfl (lv_at hl 0 rfl) ?_
              refine lv_bipush (v := 20) hx hb dX8_read_142 (by decide) ?_
              refine lv_icmp_ge (tgt := 151) hx hb dX8_read_144 (by decide) (fun hc_61 => ?_) (fun hc_61 => ?_)
              · replace h := h.1 hc_61
                refine lv_iconst (v := 0) hx hb dX8_read_151 (by decide) ?_
                exact ih_JJ_50 _ _ h _ _ _ hP hD hS (lv_sub hl [0, 1] rfl)
              · replace h := h.2 hc_61
                refine lv_iconst (v := 1) hx hb dX8_read_147 (by decide) ?_
                refine lv_goto (tgt := 152) hx hb dX8_read_148 (by decide) ?_
                exact ih_JJ_50 _ _ h _ _ _ hP hD hS (lv_sub hl [0, 1] rfl)
      · refine lv_if_ne (tgt := 94) hx hb dX8_read_87 (by decide) (fun hc_62 => ?_) (fun hc_62 => ?_)
        · replace h := h.1 hc_62
          refine lv_aload_n hx hb dX8_read_94 rfl (lv_at hl 2 rfl) ?_
          refine lv_bipush (v := 48) hx hb dX8_read_95 (by decide) ?_
          refine lv_iconst (v := 2) hx hb dX8_read_97 (by decide) ?_
          have hPc := hP
          have hDc := hD
          have hKc := hK
          have hFc := va_free (wc := (wd_X8 a ca u_40)) hD hS hA [0, 1, 2, 3, 4, 5, 6, 7, 8, 9, 10, 11, 12, 13, 14, 15, 16, 17, 18, 19] rfl
          refine va_calli (va_runV (As := [.int 48, .int 2]) (rest := [.int ((5 * v1_5) + 2), .ref (a 13)]) ⟨hx, hb, hml, hown, hts⟩ (c_X8_passed l dC dI a ca H.size u_40 48 2 _ h) (cwV 2 hts gX8_read_X8_passed rfl rfl rfl (by decide +kernel) ⟨Nat.le_of_ble_eq_true rfl, Nat.le_of_ble_eq_true rfl⟩) ⟨fun a U g mk q => by obtain ⟨q0, q1, qP, qK, qD⟩ := q; exact ⟨q0, q1, qP, va_K.moved (u := U) (U := U.calling g mk a) (Vm.Alike.refl U.vm) qK, qD⟩, va_recv hKc hPc (ci := 7) (q0 := 0) rfl rfl, fun U hU hW => ⟨rfl, by rw [hU], by rw [hU]; exact hPc, va_K.moved hW.alike hKc, hDc.weaken (fun _ _ _ _ => trivial)⟩⟩ rfl rfl hl.1 rfl (lv_room (Nat.le_of_ble_eq_true rfl)) dX8_read_98 ⟨Nat.zero_le _, Nat.zero_le _⟩) hS (fun q _ h => hFc q h) hFc (fun r_63 zz t H1 locs ht hvm hw hB hz1 hk1 hS => ?_)
          obtain ⟨u_64, rfl⟩ : ∃ z, z = zz := ⟨_, rfl⟩
          replace h := hw
          obtain ⟨hP1, hD1⟩ := hB
          rw [ht] at hP1
          replace hD : va_D A (wd_X8 a ca u_64) := hD1.weaken (fun _ _ _ h9 => hFc _ h9)
          replace hP : va_P (dC, dI) vwCl (wd_X8 a ca u_64) H1 := hP1
          generalize H1 = H at hP hS ⊢
          exact ih_JJ_41 _ _ h _ _ _ hP hD hS (lv_sub hl [1, 2] rfl)
        · replace h := h.2 hc_62
          refine lv_iconst (v := 0) hx hb dX8_read_90 (by decide) ?_
          refine lv_goto (tgt := 101) hx hb dX8_read_91 (by decide) ?_
          exact ih_JJ_41 _ _ h _ _ _ hP hD hS (lv_sub hl [1, 2] rfl)
    · refine lv_if_ne (tgt := 69) hx hb dX8_read_62 (by decide) (fun hc_65 => ?_) (fun hc_65 => ?_)
      · replace h := h.1 hc_65
        refine lv_aload_n hx hb dX8_read_69 rfl (lv_at hl 3 rfl) ?_
        refine lv_bipush (v := 97) hx hb dX8_read_70 (by decide) ?_
        refine lv_iconst (v := 3) hx hb dX8_read_72 (by decide) ?_
        have hPc := hP
        have hDc := hD
        have hKc := hK
        have hFc := va_free (wc := (wd_X8 a ca u_35)) hD hS hA [0, 1, 2, 3, 4, 5, 6, 7, 8, 9, 10, 11, 12, 13, 14, 15, 16, 17, 18, 19] rfl
        refine va_calli (va_runV (As := [.int 97, .int 3]) (rest := [.int ((5 * v1_5) + 3), .ref (a 13)]) ⟨hx, hb, hml, hown, hts⟩ (c_X8_passed l dC dI a ca H.size u_35 97 3 _ h) (cwV 2 hts gX8_read_X8_passed rfl rfl rfl (by decide +kernel) ⟨Nat.le_of_ble_eq_true rfl, Nat.le_of_ble_eq_true rfl⟩) ⟨fun a U g mk q => by obtain ⟨q0, q1, qP, qK, qD⟩ := q; exact ⟨q0, q1, qP, va_K.moved (u := U) (U := U.calling g mk a) (Vm.Alike.refl U.vm) qK, qD⟩, va_recv hKc hPc (ci := 7) (q0 := 0) rfl rfl, fun U hU hW => ⟨rfl, by rw [hU], by rw [hU]; exact hPc, va_K.moved hW.alike hKc, hDc.weaken (fun _ _ _ _ => trivial)⟩⟩ rfl rfl hl.1 rfl (lv_room (Nat.le_of_ble_eq_true rfl)) dX8_read_73 ⟨Nat.zero_le _, Nat.zero_le _⟩) hS (fun q _ h => hFc q h) hFc (fun r_66 zz t H1 locs ht hvm hw hB hz1 hk1 hS => ?_)
        obtain ⟨u_67, rfl⟩ : ∃ z, z = zz := ⟨_, rfl⟩
        replace h := hw
        obtain ⟨hP1, hD1⟩ := hB
        rw [ht] at hP1
        replace hD : va_D A (wd_X8 a ca u_67) := hD1.weaken (fun _ _ _ h9 => hFc _ h9)
        replace hP : va_P (dC, dI) vwCl (wd_X8 a ca u_67) H1 := hP1
        generalize H1 = H at hP hS ⊢
        exact ih_JJ_36 _ _ h _ _ _ hP hD hS (lv_sub hl [0, 2, 3] rfl)
      · replace h := h.2 hc_65
        refine lv_iconst (v := 0) hx hb dX8_read_65 (by decide) ?_
        refine lv_goto (tgt := 76) hx hb dX8_read_66 (by decide) ?_
        exact ih_JJ_36 _ _ h _ _ _ hP hD hS (lv_sub hl [0, 2, 3] rfl)
abbrev rm_X8_spot : Room := { frames := 0, cells := 0, slots := 0, locals := 0 }
set_option maxHeartbeats 4000000 in
set_option maxRecDepth 100000 in
theorem c_X8_spot (l : Launch) (sz : Nat) (x1 : Int32) (x2 : Int32) (x3 : Int32) (post : Int32 → Prop) (h : wp_X8_spot x1 x2 x3 post) : Met l yX8_spot wsX8_spot rm_X8_spot (va_Pc [.int x1, .int x2, .int x3] (fun U => U.heap.size = sz)) (va_Qi (fun (rr : Int32) (_ : Unit) => post rr) (fun (_ : Unit) (_ : State) => True) (va_A [] sz)) 0 0 (va_A [] sz) := by
  refine fl_ofW (cc := cX8_spot) (maxL := 3) (ret := (some .int)) (by decide) rfl ?_
  intro p e s m args below meth c s₁ Q B hml hv hQ
  obtain ⟨hargs, hsz⟩ := hv
  have hx := B.exec
  have hb := B.bytes
  have hr := B.returns
  have hts := atoms_spec (ws := wsX8_spot) B.pre
  have hown : s.vm.findClass RX8 = some m.cls := findClass_of_methodNamed B.named
  subst hsz
  generalize hAe : va_A [] s.heap.size = A at hQ
  have hA : ∀ q : Nat, s.heap.size ≤ q → A q := fun q h => by rw [← hAe]; exact Or.inr h
  have hS : va_S A s.heap s.heap [] := va_S.rf
  have hl := lv_entry ([.int x1, .int x2, .int x3]) (n := 3) (Nat.le_of_ble_eq_true rfl)
  refine W.eq (g2 := F0 m 0 ((lg_sl ([.int x1, .int x2, .int x3]) ++ List.replicate (3 - (lg_sl ([.int x1, .int x2, .int x3])).length) Slot.unset).toArray) []) (by rw [hargs]; exact lg_entry_eq m _ 3) ?_
  generalize (lg_sl ([.int x1, .int x2, .int x3]) ++ List.replicate (3 - (lg_sl ([.int x1, .int x2, .int x3])).length) Slot.unset).toArray = ls at hl ⊢
  have hl : lv_has ls 3 [(0, .int x1), (1, .int x2), (2, .int x3)] := hl
  suffices hstart : ∀ (H : Heap) (locs : List Loc) (ls : Array Slot), va_S A s.heap H locs → lv_has ls 3 [(0, .int x1), (1, .int x2), (2, .int x3)] → W p l e (headSpec wsX8_spot rm_X8_spot).room s m args below meth c H locs 0 0 Q (F0 m 0 ls []) from hstart _ _ _ hS hl
  clear hS
  intro H locs ls hS hl
  unfold wp_X8_spot at h
  refine lv_bipush (v := 22) hx hb dX8_spot_0 (by decide) ?_
  refine lv_iload_n hx hb dX8_spot_2 rfl (lv_at hl 0 rfl) ?_
  refine lv_imul hx hb dX8_spot_3 ?_
  refine lv_bipush (v := 11) hx hb dX8_spot_4 (by decide) ?_
  refine lv_iload_n hx hb dX8_spot_6 rfl (lv_at hl 1 rfl) ?_
  refine lv_imul hx hb dX8_spot_7 ?_
  refine lv_iadd hx hb dX8_spot_8 ?_
  refine lv_iload_n hx hb dX8_spot_9 rfl (lv_at hl 2 rfl) ?_
  refine lv_iadd hx hb dX8_spot_10 ?_
  subst hQ
  exact W.iret (v := (((22 * x1) + (11 * x2)) + x3)) hx hb hr (fun t ht hW => ⟨⟨_, (), rfl, h, trivial⟩, hS.F ht⟩) hS.2.2 dX8_spot_11
abbrev rm_X8_copy : Room := { frames := 1, cells := 0, slots := 0, locals := 22 }
set_option maxHeartbeats 4000000 in
set_option maxRecDepth 100000 in
theorem c_X8_copy (l : Launch) (dC : Nat → ClassId) (dI : Nat → Nat → Nat) (a : Nat → Nat) (ca : Nat → ClassId) (sz : Nat) (u : Ob) (x1 : Int32) (x2 : Int32) (post : Ob → Prop) (h : wp_X8_copy u x1 x2 post) : Met l yX8_copy wsX8_copy rm_X8_copy (va_Pc [.ref (a 0), .int x1, .int x2] (fun U => U.heap.size = sz ∧ va_P (dC, dI) vwCl (wd_X8 a ca u) U.heap ∧ va_K (dC, dI) vwCl (ty_X8 ca) U ∧ va_D (fun _ => True) (wd_X8 a ca u))) (va_Qv post (fun (zz : Ob) (t : State) => va_P (dC, dI) vwCl (wd_X8 a ca zz) t.heap ∧ va_D (va_A (wd_X8 a ca u) sz) (wd_X8 a ca zz)) (va_A (wd_X8 a ca u) sz)) 0 0 (va_A (wd_X8 a ca u) sz) := by
  refine fl_ofW (cc := cX8_copy) (maxL := 5) (ret := none) (by decide) rfl ?_
  intro p e s m args below meth c s₁ Q B hml hv hQ
  obtain ⟨hargs, hsz, hP, hK, hD0⟩ := hv
  have hx := B.exec
  have hb := B.bytes
  have hr := B.returns
  have hts := atoms_spec (ws := wsX8_copy) B.pre
  have hown : s.vm.findClass RX8 = some m.cls := findClass_of_methodNamed B.named
  subst hsz
  have hD := hD0.self (sz := s.heap.size)
  generalize hAe : va_A (wd_X8 a ca u) s.heap.size = A at hD hQ
  have hA : ∀ q : Nat, s.heap.size ≤ q → A q := fun q h => by rw [← hAe]; exact Or.inr h
  have hS : va_S A s.heap s.heap [] := va_S.rf
  have hl := lv_entry ([.ref (a 0), .int x1, .int x2]) (n := 5) (Nat.le_of_ble_eq_true rfl)
  refine W.eq (g2 := F0 m 0 ((lg_sl ([.ref (a 0), .int x1, .int x2]) ++ List.replicate (5 - (lg_sl ([.ref (a 0), .int x1, .int x2])).length) Slot.unset).toArray) []) (by rw [hargs]; exact lg_entry_eq m _ 5) ?_
  generalize (lg_sl ([.ref (a 0), .int x1, .int x2]) ++ List.replicate (5 - (lg_sl ([.ref (a 0), .int x1, .int x2])).length) Slot.unset).toArray = ls at hl ⊢
  have hl : lv_has ls 5 [(0, .ref (a 0)), (1, .int x1), (2, .int x2)] := hl
  suffices hstart : ∀ (H : Heap) (locs : List Loc) (ls : Array Slot), va_P (dC, dI) vwCl (wd_X8 a ca u) H → va_D A (wd_X8 a ca u) → va_S A s.heap H locs → lv_has ls 5 [(0, .ref (a 0)), (1, .int x1), (2, .int x2)] → W p l e (headSpec wsX8_copy rm_X8_copy).room s m args below meth c H locs 0 0 Q (F0 m 0 ls []) from hstart _ _ _ hP hD hS hl
  clear hS hP hD hD0
  intro H locs ls hP hD hS hl
  have hin_X8 : ∀ w ∈ wsX80, w ∈ wsX8_copy := by decide +kernel
  have lk_0 := hts (.fieldLink RX8 39 "ForgettingLinesModel" "stateOf" "[I") (by decide +kernel)
  have lk_1 := hts (.fieldLink RX8 42 "ForgettingLinesModel" "sizes" "[I") (by decide +kernel)
  have lk_2 := hts (.fieldLink RX8 45 "ForgettingLinesModel" "words" "[I") (by decide +kernel)
  unfold wp_X8_copy at h
  refine lv_aload_n hx hb dX8_copy_0 rfl (lv_at hl 0 rfl) ?_
  refine va_get (D := (dC, dI)) (ci := 7) (v := .ref (a 14)) (C := RX8) (T := TX8) (N := 25) hx hb hts hin_X8 hown hK hP 0 rfl rfl 13 (by decide) lk_0 (fun _ h9 => h9) rfl dX8_copy_1 ?_
  refine lv_iload_n hx hb dX8_copy_4 rfl (lv_at hl 2 rfl) ?_
  refine lv_aload_n hx hb dX8_copy_5 rfl (lv_at hl 0 rfl) ?_
  refine va_get (D := (dC, dI)) (ci := 7) (v := .ref (a 14)) (C := RX8) (T := TX8) (N := 25) hx hb hts hin_X8 hown hK hP 0 rfl rfl 13 (by decide) lk_0 (fun _ h9 => h9) rfl dX8_copy_6 ?_
  refine lv_iload_n hx hb dX8_copy_9 rfl (lv_at hl 1 rfl) ?_
  obtain ⟨hi_1, h⟩ := h
  refine va_iald (D := (dC, dI)) (cl := vwCl) (i := x1) hx hb hK hP 9 8 rfl rfl hi_1 dX8_copy_10 ?_
  obtain ⟨hi_2, h⟩ := h
  refine va_iast (D := (dC, dI)) (cl := vwCl) (i := x2) hx hb hK hP hD hS 9 8 rfl rfl hi_2 dX8_copy_11 (fun H locs hP hD hS => ?_)
  obtain ⟨u_3, eu_3⟩ : ∃ z : Ob, z = fs_a u 13 (upd (u.2.1 13) x2.toNatClampNeg (u.2.1 13 x1.toNatClampNeg)) := ⟨_, rfl⟩
  replace h := h u_3 eu_3
  replace hP : va_P (dC, dI) vwCl (wd_X8 a ca u_3) H := by rw [eu_3]; exact hP
  replace hD : va_D A (wd_X8 a ca u_3) := by rw [eu_3]; exact hD
  refine lv_iconst (v := 0) hx hb dX8_copy_12 (by decide) ?_
  refine lv_istore_n (lv' := [(3, .int 0), (0, .ref (a 0)), (1, .int x1), (2, .int x2)]) hx hb dX8_copy_13 rfl hl (by decide) rfl (fun ls hl => ?_)
  obtain ⟨n_22, h⟩ := h
  refine lq2_ind (GG := (fun (v3_5 : Int32) (u_6 : Ob) => ∀ (H : Heap) (locs : List Loc) (ls : Array Slot), va_P (dC, dI) vwCl (wd_X8 a ca u_6) H → va_D A (wd_X8 a ca u_6) → va_S A s.heap H locs → lv_has ls 5 [(3, .int v3_5), (0, .ref (a 0)), (1, .int x1), (2, .int x2)] → W p l e (headSpec wsX8_copy rm_X8_copy).room s m args below meth c H locs 0 0 Q (F0 m 14 ls []))) (fun LL_4 ih_LL_4 v3_5 u_6 h H locs ls hP hD hS hl => ?_) n_22 _ _ h _ _ _ hP hD hS (lv_sub hl [0, 1, 2, 3] rfl)
  refine lv_iload_n hx hb dX8_copy_14 rfl (lv_at hl 0 rfl) ?_
  refine lv_iconst (v := 2) hx hb dX8_copy_15 (by decide) ?_
  refine lv_icmp_ge (tgt := 93) hx hb dX8_copy_16 (by decide) (fun hc_7 => ?_) (fun hc_7 => ?_)
  · replace h := h.1 hc_7
    subst hQ
    exact W.vret hx hb hr (fun t ht hW => ⟨⟨u_6, rfl, h, by rw [ht]; exact hP, hD⟩, hS.F ht⟩) hS.2.2 dX8_copy_93
  · replace h := h.2 hc_7
    refine lv_aload_n hx hb dX8_copy_19 rfl (lv_at hl 1 rfl) ?_
    refine va_get (D := (dC, dI)) (ci := 7) (v := .ref (a 15)) (C := RX8) (T := TX8) (N := 25) hx hb hts hin_X8 hown hK hP 0 rfl rfl 14 (by decide) lk_1 (fun _ h9 => h9) rfl dX8_copy_20 ?_
    refine lv_iconst (v := 2) hx hb dX8_copy_23 (by decide) ?_
    refine lv_iload_n hx hb dX8_copy_24 rfl (lv_at hl 3 rfl) ?_
    refine lv_imul hx hb dX8_copy_25 ?_
    refine lv_iload_n hx hb dX8_copy_26 rfl (lv_at hl 0 rfl) ?_
    refine lv_iadd hx hb dX8_copy_27 ?_
    refine lv_aload_n hx hb dX8_copy_28 rfl (lv_at hl 1 rfl) ?_
    refine va_get (D := (dC, dI)) (ci := 7) (v := .ref (a 15)) (C := RX8) (T := TX8) (N := 25) hx hb hts hin_X8 hown hK hP 0 rfl rfl 14 (by decide) lk_1 (fun _ h9 => h9) rfl dX8_copy_29 ?_
    refine lv_iconst (v := 2) hx hb dX8_copy_32 (by decide) ?_
    refine lv_iload_n hx hb dX8_copy_33 rfl (lv_at hl 2 rfl) ?_
    refine lv_imul hx hb dX8_copy_34 ?_
    refine lv_iload_n hx hb dX8_copy_35 rfl (lv_at hl 0 rfl) ?_
    refine lv_iadd hx hb dX8_copy_36 ?_
    obtain ⟨hi_8, h⟩ := h
    refine va_iald (D := (dC, dI)) (cl := vwCl) (i := ((2 * x1) + v3_5)) hx hb hK hP 10 9 rfl rfl hi_8 dX8_copy_37 ?_
    obtain ⟨hi_9, h⟩ := h
    refine va_iast (D := (dC, dI)) (cl := vwCl) (i := ((2 * x2) + v3_5)) hx hb hK hP hD hS 10 9 rfl rfl hi_9 dX8_copy_38 (fun H locs hP hD hS => ?_)
    obtain ⟨u_10, eu_10⟩ : ∃ z : Ob, z = fs_a u_6 14 (upd (u_6.2.1 14) ((2 * x2) + v3_5).toNatClampNeg (u_6.2.1 14 ((2 * x1) + v3_5).toNatClampNeg)) := ⟨_, rfl⟩
    replace h := h u_10 eu_10
    replace hP : va_P (dC, dI) vwCl (wd_X8 a ca u_10) H := by rw [eu_10]; exact hP
    replace hD : va_D A (wd_X8 a ca u_10) := by rw [eu_10]; exact hD
    refine lv_iconst (v := 0) hx hb dX8_copy_39 (by decide) ?_
    refine lv_istore (lv' := [(4, .int 0), (3, .int v3_5), (0, .ref (a 0)), (1, .int x1), (2, .int x2)]) hx hb dX8_copy_40 hl (by decide) rfl (fun ls hl => ?_)
    obtain ⟨n_21, h⟩ := h
    refine lq2_ind (GG := (fun (v4_12 : Int32) (u_13 : Ob) => ∀ (H : Heap) (locs : List Loc) (ls : Array Slot), va_P (dC, dI) vwCl (wd_X8 a ca u_13) H → va_D A (wd_X8 a ca u_13) → va_S A s.heap H locs → lv_has ls 5 [(4, .int v4_12), (3, .int v3_5), (0, .ref (a 0)), (1, .int x1), (2, .int x2)] → W p l e (headSpec wsX8_copy rm_X8_copy).room s m args below meth c H locs 0 0 Q (F0 m 42 ls []))) (fun LL_11 ih_LL_11 v4_12 u_13 h H locs ls hP hD hS hl => ?_) n_21 _ _ h _ _ _ hP hD hS (lv_sub hl [0, 1, 2, 3, 4] rfl)
    refine lv_iload hx hb dX8_copy_42 (lv_at hl 0 rfl) ?_
    refine lv_aload_n hx hb dX8_copy_44 rfl (lv_at hl 2 rfl) ?_
    refine va_get (D := (dC, dI)) (ci := 7) (v := .ref (a 15)) (C := RX8) (T := TX8) (N := 25) hx hb hts hin_X8 hown hK hP 0 rfl rfl 14 (by decide) lk_1 (fun _ h9 => h9) rfl dX8_copy_45 ?_
    refine lv_iconst (v := 2) hx hb dX8_copy_48 (by decide) ?_
    refine lv_iload_n hx hb dX8_copy_49 rfl (lv_at hl 3 rfl) ?_
    refine lv_imul hx hb dX8_copy_50 ?_
    refine lv_iload_n hx hb dX8_copy_51 rfl (lv_at hl 1 rfl) ?_
    refine lv_iadd hx hb dX8_copy_52 ?_
    obtain ⟨hi_14, h⟩ := h
    refine va_iald (D := (dC, dI)) (cl := vwCl) (i := ((2 * x1) + v3_5)) hx hb hK hP 10 9 rfl rfl hi_14 dX8_copy_53 ?_
    refine lv_icmp_ge (tgt := 87) hx hb dX8_copy_54 (by decide) (fun hc_15 => ?_) (fun hc_15 => ?_)
    · replace h := h.1 hc_15
      refine lv_iinc (v := (v3_5 + 1)) (lv' := [(3, .int (v3_5 + 1)), (4, .int v4_12), (0, .ref (a 0)), (1, .int x1), (2, .int x2)]) hx hb dX8_copy_87 hl (k := 1) rfl rfl (by decide) rfl (fun ls hl => ?_)
      refine lv_goto (tgt := 14) hx hb dX8_copy_90 (by decide) ?_
      exact ih_LL_4 _ _ h _ _ _ hP hD hS (lv_sub hl [0, 2, 3, 4] rfl)
    · replace h := h.2 hc_15
      refine lv_aload_n hx hb dX8_copy_57 rfl (lv_at hl 2 rfl) ?_
      refine va_get (D := (dC, dI)) (ci := 7) (v := .ref (a 16)) (C := RX8) (T := TX8) (N := 25) hx hb hts hin_X8 hown hK hP 0 rfl rfl 15 (by decide) lk_2 (fun _ h9 => h9) rfl dX8_copy_58 ?_
      refine lv_iload_n hx hb dX8_copy_61 rfl (lv_at hl 4 rfl) ?_
      refine lv_iload_n hx hb dX8_copy_62 rfl (lv_at hl 1 rfl) ?_
      refine lv_iload hx hb dX8_copy_63 (lv_at hl 0 rfl) ?_
      have hFc := fl_freeN hS hA
      refine va_calli (va_runS (As := [.int x2, .int v3_5, .int v4_12]) (rest := [.ref (a 16)]) ⟨hx, hb, hml, hown, hts⟩ (c_X8_spot l H.size x2 v3_5 v4_12 _ h) (va_cwS 3 hts gX8_copy_X8_spot rfl rfl rfl (by decide +kernel) ⟨Nat.le_of_ble_eq_true rfl, Nat.le_of_ble_eq_true rfl⟩) ⟨fun a U g mk q => by obtain ⟨q0, q1⟩ := q; exact ⟨q0, q1⟩, fun U hU hW => ⟨rfl, congrArg Array.size hU⟩⟩ rfl rfl hl.1 rfl (lv_room (Nat.le_of_ble_eq_true rfl)) dX8_copy_65 ⟨Nat.zero_le _, Nat.zero_le _⟩) hS (fun q _ h => hFc q h) hFc (fun r_16 zz t H1 locs ht hvm hw hB hz1 hk1 hS => ?_)
      replace hP := fl_keep hP hk1
      replace h := hw
      generalize H1 = H at hP hS ⊢
      refine lv_aload_n hx hb dX8_copy_68 rfl (lv_at hl 2 rfl) ?_
      refine va_get (D := (dC, dI)) (ci := 7) (v := .ref (a 16)) (C := RX8) (T := TX8) (N := 25) hx hb hts hin_X8 hown hK hP 0 rfl rfl 15 (by decide) lk_2 (fun _ h9 => h9) rfl dX8_copy_69 ?_
      refine lv_iload_n hx hb dX8_copy_72 rfl (lv_at hl 3 rfl) ?_
      refine lv_iload_n hx hb dX8_copy_73 rfl (lv_at hl 1 rfl) ?_
      refine lv_iload hx hb dX8_copy_74 (lv_at hl 0 rfl) ?_
      have hFc := fl_freeN hS hA
      refine va_calli (va_runS (As := [.int x1, .int v3_5, .int v4_12]) (rest := [.ref (a 16), .int r_16, .ref (a 16)]) ⟨hx, hb, hml, hown, hts⟩ (c_X8_spot l H.size x1 v3_5 v4_12 _ h) (va_cwS 3 hts gX8_copy_X8_spot rfl rfl rfl (by decide +kernel) ⟨Nat.le_of_ble_eq_true rfl, Nat.le_of_ble_eq_true rfl⟩) ⟨fun a U g mk q => by obtain ⟨q0, q1⟩ := q; exact ⟨q0, q1⟩, fun U hU hW => ⟨rfl, congrArg Array.size hU⟩⟩ rfl rfl hl.1 rfl (lv_room (Nat.le_of_ble_eq_true rfl)) dX8_copy_76 ⟨Nat.zero_le _, Nat.zero_le _⟩) hS (fun q _ h => hFc q h) hFc (fun r_17 zz t H1 locs ht hvm hw hB hz1 hk1 hS => ?_)
      replace hP := fl_keep hP hk1
      replace h := hw
      generalize H1 = H at hP hS ⊢
      obtain ⟨hi_18, h⟩ := h
      refine va_iald (D := (dC, dI)) (cl := vwCl) (i := r_17) hx hb hK hP 11 10 rfl rfl hi_18 dX8_copy_79 ?_
      obtain ⟨hi_19, h⟩ := h
      refine va_iast (D := (dC, dI)) (cl := vwCl) (i := r_16) hx hb hK hP hD hS 11 10 rfl rfl hi_19 dX8_copy_80 (fun H locs hP hD hS => ?_)
      obtain ⟨u_20, eu_20⟩ : ∃ z : Ob, z = fs_a u_13 15 (upd (u_13.2.1 15) r_16.toNatClampNeg (u_13.2.1 15 r_17.toNatClampNeg)) := ⟨_, rfl⟩
      replace h := h u_20 eu_20
      replace hP : va_P (dC, dI) vwCl (wd_X8 a ca u_20) H := by rw [eu_20]; exact hP
      replace hD : va_D A (wd_X8 a ca u_20) := by rw [eu_20]; exact hD
      refine lv_iinc (v := (v4_12 + 1)) (lv' := [(4, .int (v4_12 + 1)), (3, .int v3_5), (0, .ref (a 0)), (1, .int x1), (2, .int x2)]) hx hb dX8_copy_81 hl (k := 0) rfl rfl (by decide) rfl (fun ls hl => ?_)
      refine lv_goto (tgt := 42) hx hb dX8_copy_84 (by decide) ?_
      exact ih_LL_11 _ _ h _ _ _ hP hD hS (lv_sub hl [0, 1, 2, 3, 4] rfl)
abbrev rm_X8_takeOut : Room := { frames := 1, cells := 0, slots := 0, locals := 22 }
set_option maxHeartbeats 4000000 in
set_option maxRecDepth 100000 in
theorem c_X8_takeOut (l : Launch) (dC : Nat → ClassId) (dI : Nat → Nat → Nat) (a : Nat → Nat) (ca : Nat → ClassId) (sz : Nat) (u : Ob) (x1 : Int32) (x2 : Int32) (x3 : Int32) (post : Ob → Prop) (h : wp_X8_takeOut u x1 x2 x3 post) : Met l yX8_takeOut wsX8_takeOut rm_X8_takeOut (va_Pc [.ref (a 0), .int x1, .int x2, .int x3] (fun U => U.heap.size = sz ∧ va_P (dC, dI) vwCl (wd_X8 a ca u) U.heap ∧ va_K (dC, dI) vwCl (ty_X8 ca) U ∧ va_D (fun _ => True) (wd_X8 a ca u))) (va_Qv post (fun (zz : Ob) (t : State) => va_P (dC, dI) vwCl (wd_X8 a ca zz) t.heap ∧ va_D (va_A (wd_X8 a ca u) sz) (wd_X8 a ca zz)) (va_A (wd_X8 a ca u) sz)) 0 0 (va_A (wd_X8 a ca u) sz) := by
  refine fl_ofW (cc := cX8_takeOut) (maxL := 5) (ret := none) (by decide) rfl ?_
  intro p e s m args below meth c s₁ Q B hml hv hQ
  obtain ⟨hargs, hsz, hP, hK, hD0⟩ := hv
  have hx := B.exec
  have hb := B.bytes
  have hr := B.returns
  have hts := atoms_spec (ws := wsX8_takeOut) B.pre
  have hown : s.vm.findClass RX8 = some m.cls := findClass_of_methodNamed B.named
  subst hsz
  have hD := hD0.self (sz := s.heap.size)
  generalize hAe : va_A (wd_X8 a ca u) s.heap.size = A at hD hQ
  have hA : ∀ q : Nat, s.heap.size ≤ q → A q := fun q h => by rw [← hAe]; exact Or.inr h
  have hS : va_S A s.heap s.heap [] := va_S.rf
  have hl := lv_entry ([.ref (a 0), .int x1, .int x2, .int x3]) (n := 5) (Nat.le_of_ble_eq_true rfl)
  refine W.eq (g2 := F0 m 0 ((lg_sl ([.ref (a 0), .int x1, .int x2, .int x3]) ++ List.replicate (5 - (lg_sl ([.ref (a 0), .int x1, .int x2, .int x3])).length) Slot.unset).toArray) []) (by rw [hargs]; exact lg_entry_eq m _ 5) ?_
  generalize (lg_sl ([.ref (a 0), .int x1, .int x2, .int x3]) ++ List.replicate (5 - (lg_sl ([.ref (a 0), .int x1, .int x2, .int x3])).length) Slot.unset).toArray = ls at hl ⊢
  have hl : lv_has ls 5 [(0, .ref (a 0)), (1, .int x1), (2, .int x2), (3, .int x3)] := hl
  suffices hstart : ∀ (H : Heap) (locs : List Loc) (ls : Array Slot), va_P (dC, dI) vwCl (wd_X8 a ca u) H → va_D A (wd_X8 a ca u) → va_S A s.heap H locs → lv_has ls 5 [(0, .ref (a 0)), (1, .int x1), (2, .int x2), (3, .int x3)] → W p l e (headSpec wsX8_takeOut rm_X8_takeOut).room s m args below meth c H locs 0 0 Q (F0 m 0 ls []) from hstart _ _ _ hP hD hS hl
  clear hS hP hD hD0
  intro H locs ls hP hD hS hl
  have hin_X8 : ∀ w ∈ wsX80, w ∈ wsX8_takeOut := by decide +kernel
  have lk_0 := hts (.fieldLink RX8 42 "ForgettingLinesModel" "sizes" "[I") (by decide +kernel)
  have lk_1 := hts (.fieldLink RX8 45 "ForgettingLinesModel" "words" "[I") (by decide +kernel)
  unfold wp_X8_takeOut at h
  refine lv_aload_n hx hb dX8_takeOut_0 rfl (lv_at hl 0 rfl) ?_
  refine va_get (D := (dC, dI)) (ci := 7) (v := .ref (a 15)) (C := RX8) (T := TX8) (N := 25) hx hb hts hin_X8 hown hK hP 0 rfl rfl 14 (by decide) lk_0 (fun _ h9 => h9) rfl dX8_takeOut_1 ?_
  refine lv_iconst (v := 2) hx hb dX8_takeOut_4 (by decide) ?_
  refine lv_iload_n hx hb dX8_takeOut_5 rfl (lv_at hl 1 rfl) ?_
  refine lv_imul hx hb dX8_takeOut_6 ?_
  refine lv_iload_n hx hb dX8_takeOut_7 rfl (lv_at hl 2 rfl) ?_
  refine lv_iadd hx hb dX8_takeOut_8 ?_
  refine lv_dup2_11 hx hb dX8_takeOut_9 rfl rfl ?_
  obtain ⟨hi_1, h⟩ := h
  refine va_iald (D := (dC, dI)) (cl := vwCl) (i := ((2 * x1) + x2)) hx hb hK hP 10 9 rfl rfl hi_1 dX8_takeOut_10 ?_
  refine lv_iconst (v := 1) hx hb dX8_takeOut_11 (by decide) ?_
  refine lv_isub hx hb dX8_takeOut_12 ?_
  obtain ⟨hi_2, h⟩ := h
  refine va_iast (D := (dC, dI)) (cl := vwCl) (i := ((2 * x1) + x2)) hx hb hK hP hD hS 10 9 rfl rfl hi_2 dX8_takeOut_13 (fun H locs hP hD hS => ?_)
  obtain ⟨u_3, eu_3⟩ : ∃ z : Ob, z = fs_a u 14 (upd (u.2.1 14) ((2 * x1) + x2).toNatClampNeg ((u.2.1 14 ((2 * x1) + x2).toNatClampNeg) - 1)) := ⟨_, rfl⟩
  replace h := h u_3 eu_3
  replace hP : va_P (dC, dI) vwCl (wd_X8 a ca u_3) H := by rw [eu_3]; exact hP
  replace hD : va_D A (wd_X8 a ca u_3) := by rw [eu_3]; exact hD
  refine lv_iload_n hx hb dX8_takeOut_14 rfl (lv_at hl 3 rfl) ?_
  refine lv_istore (lv' := [(4, .int x3), (0, .ref (a 0)), (1, .int x1), (2, .int x2), (3, .int x3)]) hx hb dX8_takeOut_15 hl (by decide) rfl (fun ls hl => ?_)
  obtain ⟨n_14, h⟩ := h
  refine lq2_ind (GG := (fun (v4_5 : Int32) (u_6 : Ob) => ∀ (H : Heap) (locs : List Loc) (ls : Array Slot), va_P (dC, dI) vwCl (wd_X8 a ca u_6) H → va_D A (wd_X8 a ca u_6) → va_S A s.heap H locs → lv_has ls 5 [(4, .int v4_5), (0, .ref (a 0)), (1, .int x1), (2, .int x2)] → W p l e (headSpec wsX8_takeOut rm_X8_takeOut).room s m args below meth c H locs 0 0 Q (F0 m 17 ls []))) (fun LL_4 ih_LL_4 v4_5 u_6 h H locs ls hP hD hS hl => ?_) n_14 _ _ h _ _ _ hP hD hS (lv_sub hl [0, 1, 2, 3] rfl)
  refine lv_iload hx hb dX8_takeOut_17 (lv_at hl 0 rfl) ?_
  refine lv_aload_n hx hb dX8_takeOut_19 rfl (lv_at hl 1 rfl) ?_
  refine va_get (D := (dC, dI)) (ci := 7) (v := .ref (a 15)) (C := RX8) (T := TX8) (N := 25) hx hb hts hin_X8 hown hK hP 0 rfl rfl 14 (by decide) lk_0 (fun _ h9 => h9) rfl dX8_takeOut_20 ?_
  refine lv_iconst (v := 2) hx hb dX8_takeOut_23 (by decide) ?_
  refine lv_iload_n hx hb dX8_takeOut_24 rfl (lv_at hl 2 rfl) ?_
  refine lv_imul hx hb dX8_takeOut_25 ?_
  refine lv_iload_n hx hb dX8_takeOut_26 rfl (lv_at hl 3 rfl) ?_
  refine lv_iadd hx hb dX8_takeOut_27 ?_
  obtain ⟨hi_7, h⟩ := h
  refine va_iald (D := (dC, dI)) (cl := vwCl) (i := ((2 * x1) + x2)) hx hb hK hP 10 9 rfl rfl hi_7 dX8_takeOut_28 ?_
  refine lv_icmp_ge (tgt := 64) hx hb dX8_takeOut_29 (by decide) (fun hc_8 => ?_) (fun hc_8 => ?_)
  · replace h := h.1 hc_8
    subst hQ
    exact W.vret hx hb hr (fun t ht hW => ⟨⟨u_6, rfl, h, by rw [ht]; exact hP, hD⟩, hS.F ht⟩) hS.2.2 dX8_takeOut_64
  · replace h := h.2 hc_8
    refine lv_aload_n hx hb dX8_takeOut_32 rfl (lv_at hl 1 rfl) ?_
    refine va_get (D := (dC, dI)) (ci := 7) (v := .ref (a 16)) (C := RX8) (T := TX8) (N := 25) hx hb hts hin_X8 hown hK hP 0 rfl rfl 15 (by decide) lk_1 (fun _ h9 => h9) rfl dX8_takeOut_33 ?_
    refine lv_iload_n hx hb dX8_takeOut_36 rfl (lv_at hl 2 rfl) ?_
    refine lv_iload_n hx hb dX8_takeOut_37 rfl (lv_at hl 3 rfl) ?_
    refine lv_iload hx hb dX8_takeOut_38 (lv_at hl 0 rfl) ?_
    have hFc := fl_freeN hS hA
    refine va_calli (va_runS (As := [.int x1, .int x2, .int v4_5]) (rest := [.ref (a 16)]) ⟨hx, hb, hml, hown, hts⟩ (c_X8_spot l H.size x1 x2 v4_5 _ h) (va_cwS 3 hts gX8_takeOut_X8_spot rfl rfl rfl (by decide +kernel) ⟨Nat.le_of_ble_eq_true rfl, Nat.le_of_ble_eq_true rfl⟩) ⟨fun a U g mk q => by obtain ⟨q0, q1⟩ := q; exact ⟨q0, q1⟩, fun U hU hW => ⟨rfl, congrArg Array.size hU⟩⟩ rfl rfl hl.1 rfl (lv_room (Nat.le_of_ble_eq_true rfl)) dX8_takeOut_40 ⟨Nat.zero_le _, Nat.zero_le _⟩) hS (fun q _ h => hFc q h) hFc (fun r_9 zz t H1 locs ht hvm hw hB hz1 hk1 hS => ?_)
    replace hP := fl_keep hP hk1
    replace h := hw
    generalize H1 = H at hP hS ⊢
    refine lv_aload_n hx hb dX8_takeOut_43 rfl (lv_at hl 1 rfl) ?_
    refine va_get (D := (dC, dI)) (ci := 7) (v := .ref (a 16)) (C := RX8) (T := TX8) (N := 25) hx hb hts hin_X8 hown hK hP 0 rfl rfl 15 (by decide) lk_1 (fun _ h9 => h9) rfl dX8_takeOut_44 ?_
    refine lv_iload_n hx hb dX8_takeOut_47 rfl (lv_at hl 2 rfl) ?_
    refine lv_iload_n hx hb dX8_takeOut_48 rfl (lv_at hl 3 rfl) ?_
    refine lv_iload hx hb dX8_takeOut_49 (lv_at hl 0 rfl) ?_
    refine lv_iconst (v := 1) hx hb dX8_takeOut_51 (by decide) ?_
    refine lv_iadd hx hb dX8_takeOut_52 ?_
    have hFc := fl_freeN hS hA
    refine va_calli (va_runS (As := [.int x1, .int x2, .int (v4_5 + 1)]) (rest := [.ref (a 16), .int r_9, .ref (a 16)]) ⟨hx, hb, hml, hown, hts⟩ (c_X8_spot l H.size x1 x2 (v4_5 + 1) _ h) (va_cwS 3 hts gX8_takeOut_X8_spot rfl rfl rfl (by decide +kernel) ⟨Nat.le_of_ble_eq_true rfl, Nat.le_of_ble_eq_true rfl⟩) ⟨fun a U g mk q => by obtain ⟨q0, q1⟩ := q; exact ⟨q0, q1⟩, fun U hU hW => ⟨rfl, congrArg Array.size hU⟩⟩ rfl rfl hl.1 rfl (lv_room (Nat.le_of_ble_eq_true rfl)) dX8_takeOut_53 ⟨Nat.zero_le _, Nat.zero_le _⟩) hS (fun q _ h => hFc q h) hFc (fun r_10 zz t H1 locs ht hvm hw hB hz1 hk1 hS => ?_)
    replace hP := fl_keep hP hk1
    replace h := hw
    generalize H1 = H at hP hS ⊢
    obtain ⟨hi_11, h⟩ := h
    refine va_iald (D := (dC, dI)) (cl := vwCl) (i := r_10) hx hb hK hP 11 10 rfl rfl hi_11 dX8_takeOut_56 ?_
    obtain ⟨hi_12, h⟩ := h
    refine va_iast (D := (dC, dI)) (cl := vwCl) (i := r_9) hx hb hK hP hD hS 11 10 rfl rfl hi_12 dX8_takeOut_57 (fun H locs hP hD hS => ?_)
    obtain ⟨u_13, eu_13⟩ : ∃ z : Ob, z = fs_a u_6 15 (upd (u_6.2.1 15) r_9.toNatClampNeg (u_6.2.1 15 r_10.toNatClampNeg)) := ⟨_, rfl⟩
    replace h := h u_13 eu_13
    replace hP : va_P (dC, dI) vwCl (wd_X8 a ca u_13) H := by rw [eu_13]; exact hP
    replace hD : va_D A (wd_X8 a ca u_13) := by rw [eu_13]; exact hD
    refine lv_iinc (v := (v4_5 + 1)) (lv' := [(4, .int (v4_5 + 1)), (0, .ref (a 0)), (1, .int x1), (2, .int x2)]) hx hb dX8_takeOut_58 hl (k := 0) rfl rfl (by decide) rfl (fun ls hl => ?_)
    refine lv_goto (tgt := 17) hx hb dX8_takeOut_61 (by decide) ?_
    exact ih_LL_4 _ _ h _ _ _ hP hD hS (lv_sub hl [0, 1, 2, 3] rfl)
abbrev rm_X8_putIn : Room := { frames := 1, cells := 0, slots := 0, locals := 22 }
set_option maxHeartbeats 4000000 in
set_option maxRecDepth 100000 in
theorem c_X8_putIn (l : Launch) (dC : Nat → ClassId) (dI : Nat → Nat → Nat) (a : Nat → Nat) (ca : Nat → ClassId) (sz : Nat) (u : Ob) (x1 : Int32) (x2 : Int32) (x3 : Int32) (x4 : Int32) (post : Ob → Prop) (h : wp_X8_putIn u x1 x2 x3 x4 post) : Met l yX8_putIn wsX8_putIn rm_X8_putIn (va_Pc [.ref (a 0), .int x1, .int x2, .int x3, .int x4] (fun U => U.heap.size = sz ∧ va_P (dC, dI) vwCl (wd_X8 a ca u) U.heap ∧ va_K (dC, dI) vwCl (ty_X8 ca) U ∧ va_D (fun _ => True) (wd_X8 a ca u))) (va_Qv post (fun (zz : Ob) (t : State) => va_P (dC, dI) vwCl (wd_X8 a ca zz) t.heap ∧ va_D (va_A (wd_X8 a ca u) sz) (wd_X8 a ca zz)) (va_A (wd_X8 a ca u) sz)) 0 0 (va_A (wd_X8 a ca u) sz) := by
  refine fl_ofW (cc := cX8_putIn) (maxL := 6) (ret := none) (by decide) rfl ?_
  intro p e s m args below meth c s₁ Q B hml hv hQ
  obtain ⟨hargs, hsz, hP, hK, hD0⟩ := hv
  have hx := B.exec
  have hb := B.bytes
  have hr := B.returns
  have hts := atoms_spec (ws := wsX8_putIn) B.pre
  have hown : s.vm.findClass RX8 = some m.cls := findClass_of_methodNamed B.named
  subst hsz
  have hD := hD0.self (sz := s.heap.size)
  generalize hAe : va_A (wd_X8 a ca u) s.heap.size = A at hD hQ
  have hA : ∀ q : Nat, s.heap.size ≤ q → A q := fun q h => by rw [← hAe]; exact Or.inr h
  have hS : va_S A s.heap s.heap [] := va_S.rf
  have hl := lv_entry ([.ref (a 0), .int x1, .int x2, .int x3, .int x4]) (n := 6) (Nat.le_of_ble_eq_true rfl)
  refine W.eq (g2 := F0 m 0 ((lg_sl ([.ref (a 0), .int x1, .int x2, .int x3, .int x4]) ++ List.replicate (6 - (lg_sl ([.ref (a 0), .int x1, .int x2, .int x3, .int x4])).length) Slot.unset).toArray) []) (by rw [hargs]; exact lg_entry_eq m _ 6) ?_
  generalize (lg_sl ([.ref (a 0), .int x1, .int x2, .int x3, .int x4]) ++ List.replicate (6 - (lg_sl ([.ref (a 0), .int x1, .int x2, .int x3, .int x4])).length) Slot.unset).toArray = ls at hl ⊢
  have hl : lv_has ls 6 [(0, .ref (a 0)), (1, .int x1), (2, .int x2), (3, .int x3), (4, .int x4)] := hl
  suffices hstart : ∀ (H : Heap) (locs : List Loc) (ls : Array Slot), va_P (dC, dI) vwCl (wd_X8 a ca u) H → va_D A (wd_X8 a ca u) → va_S A s.heap H locs → lv_has ls 6 [(0, .ref (a 0)), (1, .int x1), (2, .int x2), (3, .int x3), (4, .int x4)] → W p l e (headSpec wsX8_putIn rm_X8_putIn).room s m args below meth c H locs 0 0 Q (F0 m 0 ls []) from hstart _ _ _ hP hD hS hl
  clear hS hP hD hD0
  intro H locs ls hP hD hS hl
  have hin_X8 : ∀ w ∈ wsX80, w ∈ wsX8_putIn := by decide +kernel
  have lk_0 := hts (.fieldLink RX8 42 "ForgettingLinesModel" "sizes" "[I") (by decide +kernel)
  have lk_1 := hts (.fieldLink RX8 45 "ForgettingLinesModel" "words" "[I") (by decide +kernel)
  unfold wp_X8_putIn at h
  refine lv_aload_n hx hb dX8_putIn_0 rfl (lv_at hl 0 rfl) ?_
  refine va_get (D := (dC, dI)) (ci := 7) (v := .ref (a 15)) (C := RX8) (T := TX8) (N := 25) hx hb hts hin_X8 hown hK hP 0 rfl rfl 14 (by decide) lk_0 (fun _ h9 => h9) rfl dX8_putIn_1 ?_
  refine lv_iconst (v := 2) hx hb dX8_putIn_4 (by decide) ?_
  refine lv_iload_n hx hb dX8_putIn_5 rfl (lv_at hl 1 rfl) ?_
  refine lv_imul hx hb dX8_putIn_6 ?_
  refine lv_iload_n hx hb dX8_putIn_7 rfl (lv_at hl 2 rfl) ?_
  refine lv_iadd hx hb dX8_putIn_8 ?_
  obtain ⟨hi_1, h⟩ := h
  refine va_iald (D := (dC, dI)) (cl := vwCl) (i := ((2 * x1) + x2)) hx hb hK hP 10 9 rfl rfl hi_1 dX8_putIn_9 ?_
  refine lv_istore (lv' := [(5, .int (u.2.1 14 ((2 * x1) + x2).toNatClampNeg)), (0, .ref (a 0)), (1, .int x1), (2, .int x2), (3, .int x3), (4, .int x4)]) hx hb dX8_putIn_10 hl (by decide) rfl (fun ls hl => ?_)
  obtain ⟨n_17, h⟩ := h
  refine lq2_ind (GG := (fun (v5_3 : Int32) (u_4 : Ob) => ∀ (H : Heap) (locs : List Loc) (ls : Array Slot), va_P (dC, dI) vwCl (wd_X8 a ca u_4) H → va_D A (wd_X8 a ca u_4) → va_S A s.heap H locs → lv_has ls 6 [(5, .int v5_3), (0, .ref (a 0)), (1, .int x1), (2, .int x2), (3, .int x3), (4, .int x4)] → W p l e (headSpec wsX8_putIn rm_X8_putIn).room s m args below meth c H locs 0 0 Q (F0 m 12 ls []))) (fun LL_2 ih_LL_2 v5_3 u_4 h H locs ls hP hD hS hl => ?_) n_17 _ _ h _ _ _ hP hD hS (lv_sub hl [0, 1, 2, 3, 4, 5] rfl)
  refine lv_iload hx hb dX8_putIn_12 (lv_at hl 0 rfl) ?_
  refine lv_iload_n hx hb dX8_putIn_14 rfl (lv_at hl 4 rfl) ?_
  refine lv_icmp_le (tgt := 50) hx hb dX8_putIn_15 (by decide) (fun hc_5 => ?_) (fun hc_5 => ?_)
  · replace h := h.1 hc_5
    refine lv_aload_n hx hb dX8_putIn_50 rfl (lv_at hl 1 rfl) ?_
    refine va_get (D := (dC, dI)) (ci := 7) (v := .ref (a 16)) (C := RX8) (T := TX8) (N := 25) hx hb hts hin_X8 hown hK hP 0 rfl rfl 15 (by decide) lk_1 (fun _ h9 => h9) rfl dX8_putIn_51 ?_
    refine lv_iload_n hx hb dX8_putIn_54 rfl (lv_at hl 2 rfl) ?_
    refine lv_iload_n hx hb dX8_putIn_55 rfl (lv_at hl 3 rfl) ?_
    refine lv_iload_n hx hb dX8_putIn_56 rfl (lv_at hl 4 rfl) ?_
    have hFc := fl_freeN hS hA
    refine va_calli (va_runS (As := [.int x1, .int x2, .int x3]) (rest := [.ref (a 16)]) ⟨hx, hb, hml, hown, hts⟩ (c_X8_spot l H.size x1 x2 x3 _ h) (va_cwS 3 hts gX8_putIn_X8_spot rfl rfl rfl (by decide +kernel) ⟨Nat.le_of_ble_eq_true rfl, Nat.le_of_ble_eq_true rfl⟩) ⟨fun a U g mk q => by obtain ⟨q0, q1⟩ := q; exact ⟨q0, q1⟩, fun U hU hW => ⟨rfl, congrArg Array.size hU⟩⟩ rfl rfl hl.1 rfl (lv_room (Nat.le_of_ble_eq_true rfl)) dX8_putIn_57 ⟨Nat.zero_le _, Nat.zero_le _⟩) hS (fun q _ h => hFc q h) hFc (fun r_6 zz t H1 locs ht hvm hw hB hz1 hk1 hS => ?_)
    replace hP := fl_keep hP hk1
    replace h := hw
    generalize H1 = H at hP hS ⊢
    refine lv_iload hx hb dX8_putIn_60 (lv_at hl 5 rfl) ?_
    obtain ⟨hi_7, h⟩ := h
    refine va_iast (D := (dC, dI)) (cl := vwCl) (i := r_6) hx hb hK hP hD hS 11 10 rfl rfl hi_7 dX8_putIn_62 (fun H locs hP hD hS => ?_)
    obtain ⟨u_8, eu_8⟩ : ∃ z : Ob, z = fs_a u_4 15 (upd (u_4.2.1 15) r_6.toNatClampNeg x4) := ⟨_, rfl⟩
    replace h := h u_8 eu_8
    replace hP : va_P (dC, dI) vwCl (wd_X8 a ca u_8) H := by rw [eu_8]; exact hP
    replace hD : va_D A (wd_X8 a ca u_8) := by rw [eu_8]; exact hD
    refine lv_aload_n hx hb dX8_putIn_63 rfl (lv_at hl 1 rfl) ?_
    refine va_get (D := (dC, dI)) (ci := 7) (v := .ref (a 15)) (C := RX8) (T := TX8) (N := 25) hx hb hts hin_X8 hown hK hP 0 rfl rfl 14 (by decide) lk_0 (fun _ h9 => h9) rfl dX8_putIn_64 ?_
    refine lv_iconst (v := 2) hx hb dX8_putIn_67 (by decide) ?_
    refine lv_iload_n hx hb dX8_putIn_68 rfl (lv_at hl 2 rfl) ?_
    refine lv_imul hx hb dX8_putIn_69 ?_
    refine lv_iload_n hx hb dX8_putIn_70 rfl (lv_at hl 3 rfl) ?_
    refine lv_iadd hx hb dX8_putIn_71 ?_
    refine lv_dup2_11 hx hb dX8_putIn_72 rfl rfl ?_
    obtain ⟨hi_9, h⟩ := h
    refine va_iald (D := (dC, dI)) (cl := vwCl) (i := ((2 * x1) + x2)) hx hb hK hP 10 9 rfl rfl hi_9 dX8_putIn_73 ?_
    refine lv_iconst (v := 1) hx hb dX8_putIn_74 (by decide) ?_
    refine lv_iadd hx hb dX8_putIn_75 ?_
    obtain ⟨hi_10, h⟩ := h
    refine va_iast (D := (dC, dI)) (cl := vwCl) (i := ((2 * x1) + x2)) hx hb hK hP hD hS 10 9 rfl rfl hi_10 dX8_putIn_76 (fun H locs hP hD hS => ?_)
    obtain ⟨u_11, eu_11⟩ : ∃ z : Ob, z = fs_a u_8 14 (upd (u_8.2.1 14) ((2 * x1) + x2).toNatClampNeg ((u_8.2.1 14 ((2 * x1) + x2).toNatClampNeg) + 1)) := ⟨_, rfl⟩
    replace h := h u_11 eu_11
    replace hP : va_P (dC, dI) vwCl (wd_X8 a ca u_11) H := by rw [eu_11]; exact hP
    replace hD : va_D A (wd_X8 a ca u_11) := by rw [eu_11]; exact hD
    subst hQ
    exact W.vret hx hb hr (fun t ht hW => ⟨⟨u_11, rfl, h, by rw [ht]; exact hP, hD⟩, hS.F ht⟩) hS.2.2 dX8_putIn_77
  · replace h := h.2 hc_5
    refine lv_aload_n hx hb dX8_putIn_18 rfl (lv_at hl 1 rfl) ?_
    refine va_get (D := (dC, dI)) (ci := 7) (v := .ref (a 16)) (C := RX8) (T := TX8) (N := 25) hx hb hts hin_X8 hown hK hP 0 rfl rfl 15 (by decide) lk_1 (fun _ h9 => h9) rfl dX8_putIn_19 ?_
    refine lv_iload_n hx hb dX8_putIn_22 rfl (lv_at hl 2 rfl) ?_
    refine lv_iload_n hx hb dX8_putIn_23 rfl (lv_at hl 3 rfl) ?_
    refine lv_iload hx hb dX8_putIn_24 (lv_at hl 0 rfl) ?_
    have hFc := fl_freeN hS hA
    refine va_calli (va_runS (As := [.int x1, .int x2, .int v5_3]) (rest := [.ref (a 16)]) ⟨hx, hb, hml, hown, hts⟩ (c_X8_spot l H.size x1 x2 v5_3 _ h) (va_cwS 3 hts gX8_putIn_X8_spot rfl rfl rfl (by decide +kernel) ⟨Nat.le_of_ble_eq_true rfl, Nat.le_of_ble_eq_true rfl⟩) ⟨fun a U g mk q => by obtain ⟨q0, q1⟩ := q; exact ⟨q0, q1⟩, fun U hU hW => ⟨rfl, congrArg Array.size hU⟩⟩ rfl rfl hl.1 rfl (lv_room (Nat.le_of_ble_eq_true rfl)) dX8_putIn_26 ⟨Nat.zero_le _, Nat.zero_le _⟩) hS (fun q _ h => hFc q h) hFc (fun r_12 zz t H1 locs ht hvm hw hB hz1 hk1 hS => ?_)
    replace hP := fl_keep hP hk1
    replace h := hw
    generalize H1 = H at hP hS ⊢
    refine lv_aload_n hx hb dX8_putIn_29 rfl (lv_at hl 1 rfl) ?_
    refine va_get (D := (dC, dI)) (ci := 7) (v := .ref (a 16)) (C := RX8) (T := TX8) (N := 25) hx hb hts hin_X8 hown hK hP 0 rfl rfl 15 (by decide) lk_1 (fun _ h9 => h9) rfl dX8_putIn_30 ?_
    refine lv_iload_n hx hb dX8_putIn_33 rfl (lv_at hl 2 rfl) ?_
    refine lv_iload_n hx hb dX8_putIn_34 rfl (lv_at hl 3 rfl) ?_
    refine lv_iload hx hb dX8_putIn_35 (lv_at hl 0 rfl) ?_
    refine lv_iconst (v := 1) hx hb dX8_putIn_37 (by decide) ?_
    refine lv_isub hx hb dX8_putIn_38 ?_
    have hFc := fl_freeN hS hA
    refine va_calli (va_runS (As := [.int x1, .int x2, .int (v5_3 - 1)]) (rest := [.ref (a 16), .int r_12, .ref (a 16)]) ⟨hx, hb, hml, hown, hts⟩ (c_X8_spot l H.size x1 x2 (v5_3 - 1) _ h) (va_cwS 3 hts gX8_putIn_X8_spot rfl rfl rfl (by decide +kernel) ⟨Nat.le_of_ble_eq_true rfl, Nat.le_of_ble_eq_true rfl⟩) ⟨fun a U g mk q => by obtain ⟨q0, q1⟩ := q; exact ⟨q0, q1⟩, fun U hU hW => ⟨rfl, congrArg Array.size hU⟩⟩ rfl rfl hl.1 rfl (lv_room (Nat.le_of_ble_eq_true rfl)) dX8_putIn_39 ⟨Nat.zero_le _, Nat.zero_le _⟩) hS (fun q _ h => hFc q h) hFc (fun r_13 zz t H1 locs ht hvm hw hB hz1 hk1 hS => ?_)
    replace hP := fl_keep hP hk1
    replace h := hw
    generalize H1 = H at hP hS ⊢
    obtain ⟨hi_14, h⟩ := h
    refine va_iald (D := (dC, dI)) (cl := vwCl) (i := r_13) hx hb hK hP 11 10 rfl rfl hi_14 dX8_putIn_42 ?_
    obtain ⟨hi_15, h⟩ := h
    refine va_iast (D := (dC, dI)) (cl := vwCl) (i := r_12) hx hb hK hP hD hS 11 10 rfl rfl hi_15 dX8_putIn_43 (fun H locs hP hD hS => ?_)
    obtain ⟨u_16, eu_16⟩ : ∃ z : Ob, z = fs_a u_4 15 (upd (u_4.2.1 15) r_12.toNatClampNeg (u_4.2.1 15 r_13.toNatClampNeg)) := ⟨_, rfl⟩
    replace h := h u_16 eu_16
    replace hP : va_P (dC, dI) vwCl (wd_X8 a ca u_16) H := by rw [eu_16]; exact hP
    replace hD : va_D A (wd_X8 a ca u_16) := by rw [eu_16]; exact hD
    refine lv_iinc (v := (v5_3 + (-1))) (lv' := [(5, .int (v5_3 + (-1))), (0, .ref (a 0)), (1, .int x1), (2, .int x2), (3, .int x3), (4, .int x4)]) hx hb dX8_putIn_44 hl (k := 0) rfl rfl (by decide) rfl (fun ls hl => ?_)
    refine lv_goto (tgt := 12) hx hb dX8_putIn_47 (by decide) ?_
    exact ih_LL_2 _ _ h _ _ _ hP hD hS (lv_sub hl [0, 1, 2, 3, 4, 5] rfl)
