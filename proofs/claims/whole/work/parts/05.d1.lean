abbrev rm_X7_go : Room := { frames := 3, cells := 0, slots := 0, locals := 74 }
set_option maxHeartbeats 4000000 in
set_option maxRecDepth 100000 in
theorem c_X7_go (l : Launch) (dC : Nat → ClassId) (dI : Nat → Nat → Nat) (AA : Nat → Nat → Nat) (CA : Nat → Nat → ClassId) (sz : Nat) (uf : Ob) (um : Ob) (ut : Ob) (uh : Ob) (ug : Ob) (ur : Ob) (uw : Ob) (ux : Ob) (uy : Ob) (x1 : Int32) (post : Int32 → Ob → Prop) (h : wp_X7_go uf um uh x1 post) : Met l yX7_go wsX7_go rm_X7_go (va_Pc [.ref (AA 0 0), .int x1] (fun U => U.heap.size = sz ∧ va_P (dC, dI) vwCl (wd_X7 AA CA uf um ut uh ug ur uw ux uy) U.heap ∧ va_K (dC, dI) vwCl (ty_X7 CA) U ∧ va_D (fun _ => True) (wd_X7 AA CA uf um ut uh ug ur uw ux uy))) (va_Qi post (fun (zz : Ob) (t : State) => va_P (dC, dI) vwCl (wd_X7 AA CA uf um ut zz ug ur uw ux uy) t.heap ∧ va_D (va_A (wd_X7 AA CA uf um ut uh ug ur uw ux uy) sz) (wd_X7 AA CA uf um ut zz ug ur uw ux uy)) (va_A (wd_X7 AA CA uf um ut uh ug ur uw ux uy) sz)) 0 0 (va_A (wd_X7 AA CA uf um ut uh ug ur uw ux uy) sz) := by
  refine fl_ofW (cc := cX7_go) (maxL := 4) (ret := (some .int)) (by decide) rfl ?_
  intro p e s m args below meth c s₁ Q B hml hv hQ
  obtain ⟨hargs, hsz, hP, hK, hD0⟩ := hv
  have hx := B.exec
  have hb := B.bytes
  have hr := B.returns
  have hts := atoms_spec (ws := wsX7_go) B.pre
  have hown : s.vm.findClass RX7 = some m.cls := findClass_of_methodNamed B.named
  subst hsz
  have hD := hD0.self (sz := s.heap.size)
  generalize hAe : va_A (wd_X7 AA CA uf um ut uh ug ur uw ux uy) s.heap.size = A at hD hQ
  have hA : ∀ q : Nat, s.heap.size ≤ q → A q := fun q h => by rw [← hAe]; exact Or.inr h
  have hS : va_S A s.heap s.heap [] := va_S.rf
  have hl := lv_entry ([.ref (AA 0 0), .int x1]) (n := 4) (Nat.le_of_ble_eq_true rfl)
  refine W.eq (g2 := F0 m 0 ((lg_sl ([.ref (AA 0 0), .int x1]) ++ List.replicate (4 - (lg_sl ([.ref (AA 0 0), .int x1])).length) Slot.unset).toArray) []) (by rw [hargs]; exact lg_entry_eq m _ 4) ?_
  generalize (lg_sl ([.ref (AA 0 0), .int x1]) ++ List.replicate (4 - (lg_sl ([.ref (AA 0 0), .int x1])).length) Slot.unset).toArray = ls at hl ⊢
  have hl : lv_has ls 4 [(0, .ref (AA 0 0)), (1, .int x1)] := hl
  suffices hstart : ∀ (H : Heap) (locs : List Loc) (ls : Array Slot), va_P (dC, dI) vwCl (wd_X7 AA CA uf um ut uh ug ur uw ux uy) H → va_D A (wd_X7 AA CA uf um ut uh ug ur uw ux uy) → va_S A s.heap H locs → lv_has ls 4 [(0, .ref (AA 0 0)), (1, .int x1)] → W p l e (headSpec wsX7_go rm_X7_go).room s m args below meth c H locs 0 0 Q (F0 m 0 ls []) from hstart _ _ _ hP hD hS hl
  clear hS hP hD hD0
  intro H locs ls hP hD hS hl
  have hin_X0 : ∀ w ∈ wsX00, w ∈ wsX7_go := by decide +kernel
  have hin_X1 : ∀ w ∈ wsX10, w ∈ wsX7_go := by decide +kernel
  have hin_X7 : ∀ w ∈ wsX70, w ∈ wsX7_go := by decide +kernel
  have lk_0 := hts (.fieldLink RX7 10 "ForgettingLines" "machine" "LForgettingLines$Machine;") (by decide +kernel)
  have lk_1 := hts (.fieldLink RX7 58 "ForgettingLines$Machine" "count" "I") (by decide +kernel)
  have lk_2 := hts (.fieldLink RX7 26 "ForgettingLines" "here" "LForgettingLines$Place;") (by decide +kernel)
  have lk_3 := hts (.fieldLink RX7 124 "ForgettingLines$Place" "state" "I") (by decide +kernel)
  have lk_4 := hts (.fieldLink RX7 127 "ForgettingLines$Place" "words" "[I") (by decide +kernel)
  unfold wp_X7_go at h
  refine lv_iload_n hx hb dX7_go_0 rfl (lv_at hl 1 rfl) ?_
  refine lv_aload_n hx hb dX7_go_1 rfl (lv_at hl 0 rfl) ?_
  refine va_get (D := (dC, dI)) (ci := 6) (v := .ref (AA 1 0)) (C := RX7) (T := TX7) (N := 8) hx hb hts hin_X7 hown hK hP 0 rfl rfl 0 (by decide) lk_0 (fun _ h9 => h9) rfl dX7_go_2 ?_
  refine va_get (D := (dC, dI)) (ci := 0) (v := .int (um.1 1)) (C := RX0) (T := TX0) (N := 4) hx hb hts hin_X0 hown hK hP 2 rfl rfl 1 (by decide) lk_1 (fun _ h9 => h9) rfl dX7_go_5 ?_
  have hFc := fl_freeN hS hA
  refine va_calli (va_runS (As := [.int x1, .int (um.1 1)]) (rest := []) ⟨hx, hb, hml, hown, hts⟩ (c_X7_isAmong l H.size x1 (um.1 1) _ h) (va_cwS 2 hts gX7_go_X7_isAmong rfl rfl rfl (by decide +kernel) ⟨Nat.le_of_ble_eq_true rfl, Nat.le_of_ble_eq_true rfl⟩) ⟨fun a U g mk q => by obtain ⟨q0, q1⟩ := q; exact ⟨q0, q1⟩, fun U hU hW => ⟨rfl, congrArg Array.size hU⟩⟩ rfl rfl hl.1 rfl (lv_room (Nat.le_of_ble_eq_true rfl)) dX7_go_8 ⟨Nat.zero_le _, Nat.zero_le _⟩) hS (fun q _ h => hFc q h) hFc (fun r_1 zz t H1 locs ht hvm hw hB hz1 hk1 hS => ?_)
  replace hP := fl_keep hP hk1
  replace h := hw
  generalize H1 = H at hP hS ⊢
  refine lv_if_ne (tgt := 16) hx hb dX7_go_11 (by decide) (fun hc_2 => ?_) (fun hc_2 => ?_)
  · replace h := h.1 hc_2
    refine lv_aload_n hx hb dX7_go_16 rfl (lv_at hl 0 rfl) ?_
    refine va_get (D := (dC, dI)) (ci := 6) (v := .ref (AA 1 0)) (C := RX7) (T := TX7) (N := 8) hx hb hts hin_X7 hown hK hP 0 rfl rfl 0 (by decide) lk_0 (fun _ h9 => h9) rfl dX7_go_17 ?_
    refine lv_iload_n hx hb dX7_go_20 rfl (lv_at hl 1 rfl) ?_
    refine lv_iconst (v := 0) hx hb dX7_go_21 (by decide) ?_
    have hPc := hP.sub (ws' := (wd_X0 (AA 1) (CA 1) um)) [2, 3, 4] rfl
    have hDc := hD.sub (ws' := (wd_X0 (AA 1) (CA 1) um)) [2, 3, 4] (by decide) rfl
    have hKc := hK.sub (tys' := (ty_X0 (CA 1))) [1, 2] rfl
    have hFc := va_free (wc := (wd_X0 (AA 1) (CA 1) um)) hD hS hA [2, 3, 4] rfl
    refine va_calli (va_runV (As := [.int x1, .int 0]) (rest := []) ⟨hx, hb, hml, hown, hts⟩ (c_X0_part l dC dI (AA 1) (CA 1) H.size um x1 0 _ h) (cwV 2 hts gX7_go_X0_part rfl rfl rfl (by decide +kernel) ⟨Nat.le_of_ble_eq_true rfl, Nat.le_of_ble_eq_true rfl⟩) ⟨fun a U g mk q => by obtain ⟨q0, q1, qP, qK, qD⟩ := q; exact ⟨q0, q1, qP, va_K.moved (u := U) (U := U.calling g mk a) (Vm.Alike.refl U.vm) qK, qD⟩, va_recv hKc hPc (ci := 0) (q0 := 0) rfl rfl, fun U hU hW => ⟨rfl, by rw [hU], by rw [hU]; exact hPc, va_K.moved hW.alike hKc, hDc.weaken (fun _ _ _ _ => trivial)⟩⟩ rfl rfl hl.1 rfl (lv_room (Nat.le_of_ble_eq_true rfl)) dX7_go_22 ⟨Nat.zero_le _, Nat.zero_le _⟩) hS (fun q _ h => hFc q h) hFc (fun r_3 zz t H1 locs ht hvm hw hB hz1 hk1 hS => ?_)
    replace h := hw
    obtain ⟨hP1, hD1⟩ := hB
    rw [ht] at hP1
    obtain ⟨hP, hD⟩ := va_join (wr := [0, 1, 5, 6, 7, 8, 9, 10, 11, 12, 13, 14, 15, 16, 17, 18, 19, 20, 21, 22, 23, 24, 25].filterMap (fun i => (wd_X7 AA CA uf um ut uh ug ur uw ux uy)[i]?)) (w1 := (wd_X0 (AA 1) (CA 1) um)) hP hD [2, 3, 4] [0, 1, 5, 6, 7, 8, 9, 10, 11, 12, 13, 14, 15, 16, 17, 18, 19, 20, 21, 22, 23, 24, 25] rfl rfl (by decide) (by decide) hk1 hFc hP1 hD1
    replace hP : va_P (dC, dI) vwCl (wd_X7 AA CA uf um ut uh ug ur uw ux uy) H1 := (hP.sub [0, 1, 23, 24, 25, 2, 3, 4, 5, 6, 7, 8, 9, 10, 11, 12, 13, 14, 15, 16, 17, 18, 19, 20, 21, 22] rfl)
    replace hD : va_D A (wd_X7 AA CA uf um ut uh ug ur uw ux uy) := (hD.sub [0, 1, 23, 24, 25, 2, 3, 4, 5, 6, 7, 8, 9, 10, 11, 12, 13, 14, 15, 16, 17, 18, 19, 20, 21, 22] (by decide) rfl)
    generalize H1 = H at hP hS ⊢
    refine lv_aload_n hx hb dX7_go_25 rfl (lv_at hl 0 rfl) ?_
    refine va_get (D := (dC, dI)) (ci := 6) (v := .ref (AA 3 0)) (C := RX7) (T := TX7) (N := 8) hx hb hts hin_X7 hown hK hP 0 rfl rfl 2 (by decide) lk_2 (fun _ h9 => h9) rfl dX7_go_26 ?_
    refine va_get (D := (dC, dI)) (ci := 1) (v := .int (uh.1 0)) (C := RX1) (T := TX1) (N := 2) hx hb hts hin_X1 hown hK hP 8 rfl rfl 0 (by decide) lk_3 (fun _ h9 => h9) rfl dX7_go_29 ?_
    refine lv_icmp_eq (tgt := 38) hx hb dX7_go_32 (by decide) (fun hc_4 => ?_) (fun hc_4 => ?_)
    · replace h := h.1 hc_4
      refine lv_aload_n hx hb dX7_go_38 rfl (lv_at hl 0 rfl) ?_
      refine va_get (D := (dC, dI)) (ci := 6) (v := .ref (AA 1 0)) (C := RX7) (T := TX7) (N := 8) hx hb hts hin_X7 hown hK hP 0 rfl rfl 0 (by decide) lk_0 (fun _ h9 => h9) rfl dX7_go_39 ?_
      refine lv_iload_n hx hb dX7_go_42 rfl (lv_at hl 1 rfl) ?_
      refine lv_iconst (v := 2) hx hb dX7_go_43 (by decide) ?_
      have hPc := hP.sub (ws' := (wd_X0 (AA 1) (CA 1) um)) [2, 3, 4] rfl
      have hDc := hD.sub (ws' := (wd_X0 (AA 1) (CA 1) um)) [2, 3, 4] (by decide) rfl
      have hKc := hK.sub (tys' := (ty_X0 (CA 1))) [1, 2] rfl
      have hFc := va_free (wc := (wd_X0 (AA 1) (CA 1) um)) hD hS hA [2, 3, 4] rfl
      refine va_calli (va_runV (As := [.int x1, .int 2]) (rest := []) ⟨hx, hb, hml, hown, hts⟩ (c_X0_part l dC dI (AA 1) (CA 1) H.size um x1 2 _ h) (cwV 2 hts gX7_go_X0_part rfl rfl rfl (by decide +kernel) ⟨Nat.le_of_ble_eq_true rfl, Nat.le_of_ble_eq_true rfl⟩) ⟨fun a U g mk q => by obtain ⟨q0, q1, qP, qK, qD⟩ := q; exact ⟨q0, q1, qP, va_K.moved (u := U) (U := U.calling g mk a) (Vm.Alike.refl U.vm) qK, qD⟩, va_recv hKc hPc (ci := 0) (q0 := 0) rfl rfl, fun U hU hW => ⟨rfl, by rw [hU], by rw [hU]; exact hPc, va_K.moved hW.alike hKc, hDc.weaken (fun _ _ _ _ => trivial)⟩⟩ rfl rfl hl.1 rfl (lv_room (Nat.le_of_ble_eq_true rfl)) dX7_go_44 ⟨Nat.zero_le _, Nat.zero_le _⟩) hS (fun q _ h => hFc q h) hFc (fun r_5 zz t H1 locs ht hvm hw hB hz1 hk1 hS => ?_)
      replace h := hw
      obtain ⟨hP1, hD1⟩ := hB
      rw [ht] at hP1
      obtain ⟨hP, hD⟩ := va_join (wr := [0, 1, 5, 6, 7, 8, 9, 10, 11, 12, 13, 14, 15, 16, 17, 18, 19, 20, 21, 22, 23, 24, 25].filterMap (fun i => (wd_X7 AA CA uf um ut uh ug ur uw ux uy)[i]?)) (w1 := (wd_X0 (AA 1) (CA 1) um)) hP hD [2, 3, 4] [0, 1, 5, 6, 7, 8, 9, 10, 11, 12, 13, 14, 15, 16, 17, 18, 19, 20, 21, 22, 23, 24, 25] rfl rfl (by decide) (by decide) hk1 hFc hP1 hD1
      replace hP : va_P (dC, dI) vwCl (wd_X7 AA CA uf um ut uh ug ur uw ux uy) H1 := (hP.sub [0, 1, 23, 24, 25, 2, 3, 4, 5, 6, 7, 8, 9, 10, 11, 12, 13, 14, 15, 16, 17, 18, 19, 20, 21, 22] rfl)
      replace hD : va_D A (wd_X7 AA CA uf um ut uh ug ur uw ux uy) := (hD.sub [0, 1, 23, 24, 25, 2, 3, 4, 5, 6, 7, 8, 9, 10, 11, 12, 13, 14, 15, 16, 17, 18, 19, 20, 21, 22] (by decide) rfl)
      generalize H1 = H at hP hS ⊢
      refine lv_istore_n (lv' := [(2, .int r_5), (0, .ref (AA 0 0)), (1, .int x1)]) hx hb dX7_go_47 rfl hl (by decide) rfl (fun ls hl => ?_)
      refine lv_aload_n hx hb dX7_go_48 rfl (lv_at hl 1 rfl) ?_
      refine va_get (D := (dC, dI)) (ci := 6) (v := .ref (AA 1 0)) (C := RX7) (T := TX7) (N := 8) hx hb hts hin_X7 hown hK hP 0 rfl rfl 0 (by decide) lk_0 (fun _ h9 => h9) rfl dX7_go_49 ?_
      refine lv_iload_n hx hb dX7_go_52 rfl (lv_at hl 2 rfl) ?_
      refine lv_aload_n hx hb dX7_go_53 rfl (lv_at hl 1 rfl) ?_
      refine va_get (D := (dC, dI)) (ci := 6) (v := .ref (AA 3 0)) (C := RX7) (T := TX7) (N := 8) hx hb hts hin_X7 hown hK hP 0 rfl rfl 2 (by decide) lk_2 (fun _ h9 => h9) rfl dX7_go_54 ?_
      refine va_get (D := (dC, dI)) (ci := 1) (v := .ref (AA 3 2)) (C := RX1) (T := TX1) (N := 2) hx hb hts hin_X1 hown hK hP 8 rfl rfl 1 (by decide) lk_4 (fun _ h9 => h9) rfl dX7_go_57 ?_
      refine lv_iload_n hx hb dX7_go_60 rfl (lv_at hl 0 rfl) ?_
      obtain ⟨hi_6, h⟩ := h
      refine va_iald (D := (dC, dI)) (cl := vwCl) (i := r_5) hx hb hK hP 9 5 rfl rfl hi_6 dX7_go_61 ?_
      have hPc := hP.sub (ws' := (wd_X0 (AA 1) (CA 1) um)) [2, 3, 4] rfl
      have hDc := hD.sub (ws' := (wd_X0 (AA 1) (CA 1) um)) [2, 3, 4] (by decide) rfl
      have hKc := hK.sub (tys' := (ty_X0 (CA 1))) [1, 2] rfl
      have hFc := va_free (wc := (wd_X0 (AA 1) (CA 1) um)) hD hS hA [2, 3, 4] rfl
      refine va_calli (va_runV (As := [.int x1, .int (uh.2.1 1 r_5.toNatClampNeg)]) (rest := []) ⟨hx, hb, hml, hown, hts⟩ (c_X0_wordBehind l dC dI (AA 1) (CA 1) H.size um x1 (uh.2.1 1 r_5.toNatClampNeg) _ h) (cwV 2 hts gX7_go_X0_wordBehind rfl rfl rfl (by decide +kernel) ⟨Nat.le_of_ble_eq_true rfl, Nat.le_of_ble_eq_true rfl⟩) ⟨fun a U g mk q => by obtain ⟨q0, q1, qP, qK, qD⟩ := q; exact ⟨q0, q1, qP, va_K.moved (u := U) (U := U.calling g mk a) (Vm.Alike.refl U.vm) qK, qD⟩, va_recv hKc hPc (ci := 0) (q0 := 0) rfl rfl, fun U hU hW => ⟨rfl, by rw [hU], by rw [hU]; exact hPc, va_K.moved hW.alike hKc, hDc.weaken (fun _ _ _ _ => trivial)⟩⟩ rfl rfl hl.1 rfl (lv_room (Nat.le_of_ble_eq_true rfl)) dX7_go_62 ⟨Nat.zero_le _, Nat.zero_le _⟩) hS (fun q _ h => hFc q h) hFc (fun r_7 zz t H1 locs ht hvm hw hB hz1 hk1 hS => ?_)
      replace h := hw
      obtain ⟨hP1, hD1⟩ := hB
      rw [ht] at hP1
      obtain ⟨hP, hD⟩ := va_join (wr := [0, 1, 5, 6, 7, 8, 9, 10, 11, 12, 13, 14, 15, 16, 17, 18, 19, 20, 21, 22, 23, 24, 25].filterMap (fun i => (wd_X7 AA CA uf um ut uh ug ur uw ux uy)[i]?)) (w1 := (wd_X0 (AA 1) (CA 1) um)) hP hD [2, 3, 4] [0, 1, 5, 6, 7, 8, 9, 10, 11, 12, 13, 14, 15, 16, 17, 18, 19, 20, 21, 22, 23, 24, 25] rfl rfl (by decide) (by decide) hk1 hFc hP1 hD1
      replace hP : va_P (dC, dI) vwCl (wd_X7 AA CA uf um ut uh ug ur uw ux uy) H1 := (hP.sub [0, 1, 23, 24, 25, 2, 3, 4, 5, 6, 7, 8, 9, 10, 11, 12, 13, 14, 15, 16, 17, 18, 19, 20, 21, 22] rfl)
      replace hD : va_D A (wd_X7 AA CA uf um ut uh ug ur uw ux uy) := (hD.sub [0, 1, 23, 24, 25, 2, 3, 4, 5, 6, 7, 8, 9, 10, 11, 12, 13, 14, 15, 16, 17, 18, 19, 20, 21, 22] (by decide) rfl)
      generalize H1 = H at hP hS ⊢
      refine lv_istore_n (lv' := [(3, .int r_7), (2, .int r_5), (0, .ref (AA 0 0)), (1, .int x1)]) hx hb dX7_go_65 rfl hl (by decide) rfl (fun ls hl => ?_)
      refine lv_iload_n hx hb dX7_go_66 rfl (lv_at hl 0 rfl) ?_
      refine lv_iconst (v := (-1)) hx hb dX7_go_67 (by decide) ?_
      refine lv_icmp_ne (tgt := 74) hx hb dX7_go_68 (by decide) (fun hc_8 => ?_) (fun hc_8 => ?_)
      · replace h := h.1 hc_8
        refine lv_iload_n hx hb dX7_go_74 rfl (lv_at hl 0 rfl) ?_
        refine lv_bipush (v := 10) hx hb dX7_go_75 (by decide) ?_
        have hFc := fl_freeN hS hA
        refine va_calli (va_runS (As := [.int r_7, .int 10]) (rest := []) ⟨hx, hb, hml, hown, hts⟩ (c_X6_isLonger l H.size r_7 10 _ h) (va_cwS 2 hts gX7_go_X6_isLonger rfl rfl rfl (by decide +kernel) ⟨Nat.le_of_ble_eq_true rfl, Nat.le_of_ble_eq_true rfl⟩) ⟨fun a U g mk q => by obtain ⟨q0, q1⟩ := q; exact ⟨q0, q1⟩, fun U hU hW => ⟨rfl, congrArg Array.size hU⟩⟩ rfl rfl hl.1 rfl (lv_room (Nat.le_of_ble_eq_true rfl)) dX7_go_77 ⟨Nat.zero_le _, Nat.zero_le _⟩) hS (fun q _ h => hFc q h) hFc (fun r_9 zz t H1 locs ht hvm hw hB hz1 hk1 hS => ?_)
        replace hP := fl_keep hP hk1
        replace h := hw
        generalize H1 = H at hP hS ⊢
        refine lv_if_eq (tgt := 86) hx hb dX7_go_80 (by decide) (fun hc_10 => ?_) (fun hc_10 => ?_)
        · replace h := h.1 hc_10
          refine lv_aload_n hx hb dX7_go_86 rfl (lv_at hl 2 rfl) ?_
          refine va_get (D := (dC, dI)) (ci := 6) (v := .ref (AA 3 0)) (C := RX7) (T := TX7) (N := 8) hx hb hts hin_X7 hown hK hP 0 rfl rfl 2 (by decide) lk_2 (fun _ h9 => h9) rfl dX7_go_87 ?_
          refine va_get (D := (dC, dI)) (ci := 1) (v := .ref (AA 3 2)) (C := RX1) (T := TX1) (N := 2) hx hb hts hin_X1 hown hK hP 8 rfl rfl 1 (by decide) lk_4 (fun _ h9 => h9) rfl dX7_go_90 ?_
          refine lv_iload_n hx hb dX7_go_93 rfl (lv_at hl 1 rfl) ?_
          refine lv_iload_n hx hb dX7_go_94 rfl (lv_at hl 0 rfl) ?_
          obtain ⟨hi_11, h⟩ := h
          refine va_iast (D := (dC, dI)) (cl := vwCl) (i := r_5) hx hb hK hP hD hS 9 5 rfl rfl hi_11 dX7_go_95 (fun H locs hP hD hS => ?_)
          obtain ⟨uh_12, euh_12⟩ : ∃ z : Ob, z = fs_a uh 1 (upd (uh.2.1 1) r_5.toNatClampNeg r_7) := ⟨_, rfl⟩
          replace h := h uh_12 euh_12
          replace hP : va_P (dC, dI) vwCl (wd_X7 AA CA uf um ut uh_12 ug ur uw ux uy) H := by rw [euh_12]; exact hP
          replace hD : va_D A (wd_X7 AA CA uf um ut uh_12 ug ur uw ux uy) := by rw [euh_12]; exact hD
          refine lv_aload_n hx hb dX7_go_96 rfl (lv_at hl 2 rfl) ?_
          refine va_get (D := (dC, dI)) (ci := 6) (v := .ref (AA 3 0)) (C := RX7) (T := TX7) (N := 8) hx hb hts hin_X7 hown hK hP 0 rfl rfl 2 (by decide) lk_2 (fun _ h9 => h9) rfl dX7_go_97 ?_
          refine lv_aload_n hx hb dX7_go_100 rfl (lv_at hl 2 rfl) ?_
          refine va_get (D := (dC, dI)) (ci := 6) (v := .ref (AA 1 0)) (C := RX7) (T := TX7) (N := 8) hx hb hts hin_X7 hown hK hP 0 rfl rfl 0 (by decide) lk_0 (fun _ h9 => h9) rfl dX7_go_101 ?_
          refine lv_iload_n hx hb dX7_go_104 rfl (lv_at hl 3 rfl) ?_
          refine lv_iconst (v := 4) hx hb dX7_go_105 (by decide) ?_
          have hPc := hP.sub (ws' := (wd_X0 (AA 1) (CA 1) um)) [2, 3, 4] rfl
          have hDc := hD.sub (ws' := (wd_X0 (AA 1) (CA 1) um)) [2, 3, 4] (by decide) rfl
          have hKc := hK.sub (tys' := (ty_X0 (CA 1))) [1, 2] rfl
          have hFc := va_free (wc := (wd_X0 (AA 1) (CA 1) um)) hD hS hA [2, 3, 4] rfl
          refine va_calli (va_runV (As := [.int x1, .int 4]) (rest := [.ref (AA 3 0)]) ⟨hx, hb, hml, hown, hts⟩ (c_X0_part l dC dI (AA 1) (CA 1) H.size um x1 4 _ h) (cwV 2 hts gX7_go_X0_part rfl rfl rfl (by decide +kernel) ⟨Nat.le_of_ble_eq_true rfl, Nat.le_of_ble_eq_true rfl⟩) ⟨fun a U g mk q => by obtain ⟨q0, q1, qP, qK, qD⟩ := q; exact ⟨q0, q1, qP, va_K.moved (u := U) (U := U.calling g mk a) (Vm.Alike.refl U.vm) qK, qD⟩, va_recv hKc hPc (ci := 0) (q0 := 0) rfl rfl, fun U hU hW => ⟨rfl, by rw [hU], by rw [hU]; exact hPc, va_K.moved hW.alike hKc, hDc.weaken (fun _ _ _ _ => trivial)⟩⟩ rfl rfl hl.1 rfl (lv_room (Nat.le_of_ble_eq_true rfl)) dX7_go_106 ⟨Nat.zero_le _, Nat.zero_le _⟩) hS (fun q _ h => hFc q h) hFc (fun r_13 zz t H1 locs ht hvm hw hB hz1 hk1 hS => ?_)
          replace h := hw
          obtain ⟨hP1, hD1⟩ := hB
          rw [ht] at hP1
          obtain ⟨hP, hD⟩ := va_join (wr := [0, 1, 5, 6, 7, 8, 9, 10, 11, 12, 13, 14, 15, 16, 17, 18, 19, 20, 21, 22, 23, 24, 25].filterMap (fun i => (wd_X7 AA CA uf um ut uh_12 ug ur uw ux uy)[i]?)) (w1 := (wd_X0 (AA 1) (CA 1) um)) hP hD [2, 3, 4] [0, 1, 5, 6, 7, 8, 9, 10, 11, 12, 13, 14, 15, 16, 17, 18, 19, 20, 21, 22, 23, 24, 25] rfl rfl (by decide) (by decide) hk1 hFc hP1 hD1
          replace hP : va_P (dC, dI) vwCl (wd_X7 AA CA uf um ut uh_12 ug ur uw ux uy) H1 := (hP.sub [0, 1, 23, 24, 25, 2, 3, 4, 5, 6, 7, 8, 9, 10, 11, 12, 13, 14, 15, 16, 17, 18, 19, 20, 21, 22] rfl)
          replace hD : va_D A (wd_X7 AA CA uf um ut uh_12 ug ur uw ux uy) := (hD.sub [0, 1, 23, 24, 25, 2, 3, 4, 5, 6, 7, 8, 9, 10, 11, 12, 13, 14, 15, 16, 17, 18, 19, 20, 21, 22] (by decide) rfl)
          generalize H1 = H at hP hS ⊢
          refine va_put (D := (dC, dI)) (ci := 1) (v := .int r_13) (ty := .int) (C := RX1) (T := TX1) (N := 2) hx hb hts hin_X1 tyX1 tyX1_ok nmX1 hown hK hP hD hS 8 rfl rfl 0 (by decide) lk_3 (fun _ h9 => h9) rfl (by decide +kernel) rfl rfl (Nat.le_of_ble_eq_true rfl) dX7_go_109 (fun H locs hP hD hS => ?_)
          obtain ⟨uh_14, euh_14⟩ : ∃ z : Ob, z = fs_i uh_12 0 r_13 := ⟨_, rfl⟩
          replace h := h uh_14 euh_14
          replace hP : va_P (dC, dI) vwCl (wd_X7 AA CA uf um ut uh_14 ug ur uw ux uy) H := by rw [euh_14]; exact hP
          replace hD : va_D A (wd_X7 AA CA uf um ut uh_14 ug ur uw ux uy) := by rw [euh_14]; exact hD
          refine lv_aload_n hx hb dX7_go_112 rfl (lv_at hl 2 rfl) ?_
          refine va_get (D := (dC, dI)) (ci := 6) (v := .ref (AA 3 0)) (C := RX7) (T := TX7) (N := 8) hx hb hts hin_X7 hown hK hP 0 rfl rfl 2 (by decide) lk_2 (fun _ h9 => h9) rfl dX7_go_113 ?_
          refine va_get (D := (dC, dI)) (ci := 1) (v := .int (uh_14.1 0)) (C := RX1) (T := TX1) (N := 2) hx hb hts hin_X1 hown hK hP 8 rfl rfl 0 (by decide) lk_3 (fun _ h9 => h9) rfl dX7_go_116 ?_
          subst hQ
          exact W.iret (v := (uh_14.1 0)) hx hb hr (fun t ht hW => ⟨⟨_, uh_14, rfl, h, by rw [ht]; exact hP, hD⟩, hS.F ht⟩) hS.2.2 dX7_go_119
        · replace h := h.2 hc_10
          refine lv_bipush (v := (-3)) hx hb dX7_go_83 (by decide) ?_
          subst hQ
          exact W.iret (v := (-3)) hx hb hr (fun t ht hW => ⟨⟨_, uh, rfl, h, by rw [ht]; exact hP, hD⟩, hS.F ht⟩) hS.2.2 dX7_go_85
      · replace h := h.2 hc_8
        refine lv_bipush (v := (-2)) hx hb dX7_go_71 (by decide) ?_
        subst hQ
        exact W.iret (v := (-2)) hx hb hr (fun t ht hW => ⟨⟨_, uh, rfl, h, by rw [ht]; exact hP, hD⟩, hS.F ht⟩) hS.2.2 dX7_go_73
    · replace h := h.2 hc_4
      refine lv_bipush (v := (-2)) hx hb dX7_go_35 (by decide) ?_
      subst hQ
      exact W.iret (v := (-2)) hx hb hr (fun t ht hW => ⟨⟨_, uh, rfl, h, by rw [ht]; exact hP, hD⟩, hS.F ht⟩) hS.2.2 dX7_go_37
  · replace h := h.2 hc_2
    refine lv_iconst (v := (-1)) hx hb dX7_go_14 (by decide) ?_
    subst hQ
    exact W.iret (v := (-1)) hx hb hr (fun t ht hW => ⟨⟨_, uh, rfl, h, by rw [ht]; exact hP, hD⟩, hS.F ht⟩) hS.2.2 dX7_go_15
abbrev rm_X7_lose : Room := { frames := 1, cells := 0, slots := 0, locals := 23 }
set_option maxHeartbeats 4000000 in
set_option maxRecDepth 100000 in
theorem c_X7_lose (l : Launch) (dC : Nat → ClassId) (dI : Nat → Nat → Nat) (AA : Nat → Nat → Nat) (CA : Nat → Nat → ClassId) (sz : Nat) (uf : Ob) (um : Ob) (ut : Ob) (uh : Ob) (ug : Ob) (ur : Ob) (uw : Ob) (ux : Ob) (uy : Ob) (x1 : Int32) (x2 : Int32) (post : Int32 → Ob → Prop) (h : wp_X7_lose uf uh x1 x2 post) : Met l yX7_lose wsX7_lose rm_X7_lose (va_Pc [.ref (AA 0 0), .int x1, .int x2] (fun U => U.heap.size = sz ∧ va_P (dC, dI) vwCl (wd_X7 AA CA uf um ut uh ug ur uw ux uy) U.heap ∧ va_K (dC, dI) vwCl (ty_X7 CA) U ∧ va_D (fun _ => True) (wd_X7 AA CA uf um ut uh ug ur uw ux uy))) (va_Qi post (fun (zz : Ob) (t : State) => va_P (dC, dI) vwCl (wd_X7 AA CA uf um ut zz ug ur uw ux uy) t.heap ∧ va_D (va_A (wd_X7 AA CA uf um ut uh ug ur uw ux uy) sz) (wd_X7 AA CA uf um ut zz ug ur uw ux uy)) (va_A (wd_X7 AA CA uf um ut uh ug ur uw ux uy) sz)) 0 0 (va_A (wd_X7 AA CA uf um ut uh ug ur uw ux uy) sz) := by
  refine fl_ofW (cc := cX7_lose) (maxL := 4) (ret := (some .int)) (by decide) rfl ?_
  intro p e s m args below meth c s₁ Q B hml hv hQ
  obtain ⟨hargs, hsz, hP, hK, hD0⟩ := hv
  have hx := B.exec
  have hb := B.bytes
  have hr := B.returns
  have hts := atoms_spec (ws := wsX7_lose) B.pre
  have hown : s.vm.findClass RX7 = some m.cls := findClass_of_methodNamed B.named
  subst hsz
  have hD := hD0.self (sz := s.heap.size)
  generalize hAe : va_A (wd_X7 AA CA uf um ut uh ug ur uw ux uy) s.heap.size = A at hD hQ
  have hA : ∀ q : Nat, s.heap.size ≤ q → A q := fun q h => by rw [← hAe]; exact Or.inr h
  have hS : va_S A s.heap s.heap [] := va_S.rf
  have hl := lv_entry ([.ref (AA 0 0), .int x1, .int x2]) (n := 4) (Nat.le_of_ble_eq_true rfl)
  refine W.eq (g2 := F0 m 0 ((lg_sl ([.ref (AA 0 0), .int x1, .int x2]) ++ List.replicate (4 - (lg_sl ([.ref (AA 0 0), .int x1, .int x2])).length) Slot.unset).toArray) []) (by rw [hargs]; exact lg_entry_eq m _ 4) ?_
  generalize (lg_sl ([.ref (AA 0 0), .int x1, .int x2]) ++ List.replicate (4 - (lg_sl ([.ref (AA 0 0), .int x1, .int x2])).length) Slot.unset).toArray = ls at hl ⊢
  have hl : lv_has ls 4 [(0, .ref (AA 0 0)), (1, .int x1), (2, .int x2)] := hl
  suffices hstart : ∀ (H : Heap) (locs : List Loc) (ls : Array Slot), va_P (dC, dI) vwCl (wd_X7 AA CA uf um ut uh ug ur uw ux uy) H → va_D A (wd_X7 AA CA uf um ut uh ug ur uw ux uy) → va_S A s.heap H locs → lv_has ls 4 [(0, .ref (AA 0 0)), (1, .int x1), (2, .int x2)] → W p l e (headSpec wsX7_lose rm_X7_lose).room s m args below meth c H locs 0 0 Q (F0 m 0 ls []) from hstart _ _ _ hP hD hS hl
  clear hS hP hD hD0
  intro H locs ls hP hD hS hl
  have hin_X1 : ∀ w ∈ wsX10, w ∈ wsX7_lose := by decide +kernel
  have hin_X7 : ∀ w ∈ wsX70, w ∈ wsX7_lose := by decide +kernel
  have lk_0 := hts (.fieldLink RX7 26 "ForgettingLines" "here" "LForgettingLines$Place;") (by decide +kernel)
  have lk_1 := hts (.fieldLink RX7 127 "ForgettingLines$Place" "words" "[I") (by decide +kernel)
  unfold wp_X7_lose at h
  refine lv_iload_n hx hb dX7_lose_0 rfl (lv_at hl 1 rfl) ?_
  refine lv_iconst (v := 2) hx hb dX7_lose_1 (by decide) ?_
  have hFc := fl_freeN hS hA
  refine va_calli (va_runS (As := [.int x1, .int 2]) (rest := []) ⟨hx, hb, hml, hown, hts⟩ (c_X7_isAmong l H.size x1 2 _ h) (va_cwS 2 hts gX7_lose_X7_isAmong rfl rfl rfl (by decide +kernel) ⟨Nat.le_of_ble_eq_true rfl, Nat.le_of_ble_eq_true rfl⟩) ⟨fun a U g mk q => by obtain ⟨q0, q1⟩ := q; exact ⟨q0, q1⟩, fun U hU hW => ⟨rfl, congrArg Array.size hU⟩⟩ rfl rfl hl.1 rfl (lv_room (Nat.le_of_ble_eq_true rfl)) dX7_lose_2 ⟨Nat.zero_le _, Nat.zero_le _⟩) hS (fun q _ h => hFc q h) hFc (fun r_1 zz t H1 locs ht hvm hw hB hz1 hk1 hS => ?_)
  replace hP := fl_keep hP hk1
  replace h := hw
  generalize H1 = H at hP hS ⊢
  refine lv_if_eq (tgt := 27) hx hb dX7_lose_5 (by decide) (fun hc_2 => ?_) (fun hc_2 => ?_)
  · replace h := h.1 hc_2
    refine lv_iconst (v := (-1)) hx hb dX7_lose_27 (by decide) ?_
    subst hQ
    exact W.iret (v := (-1)) hx hb hr (fun t ht hW => ⟨⟨_, uh, rfl, h, by rw [ht]; exact hP, hD⟩, hS.F ht⟩) hS.2.2 dX7_lose_28
  · replace h := h.2 hc_2
    refine lv_iload_n hx hb dX7_lose_8 rfl (lv_at hl 2 rfl) ?_
    refine lv_aload_n hx hb dX7_lose_9 rfl (lv_at hl 0 rfl) ?_
    refine va_get (D := (dC, dI)) (ci := 6) (v := .ref (AA 3 0)) (C := RX7) (T := TX7) (N := 8) hx hb hts hin_X7 hown hK hP 0 rfl rfl 2 (by decide) lk_0 (fun _ h9 => h9) rfl dX7_lose_10 ?_
    refine va_get (D := (dC, dI)) (ci := 1) (v := .ref (AA 3 2)) (C := RX1) (T := TX1) (N := 2) hx hb hts hin_X1 hown hK hP 8 rfl rfl 1 (by decide) lk_1 (fun _ h9 => h9) rfl dX7_lose_13 ?_
    refine lv_iload_n hx hb dX7_lose_16 rfl (lv_at hl 1 rfl) ?_
    obtain ⟨hi_3, h⟩ := h
    refine va_iald (D := (dC, dI)) (cl := vwCl) (i := x1) hx hb hK hP 9 5 rfl rfl hi_3 dX7_lose_17 ?_
    have hFc := fl_freeN hS hA
    refine va_calli (va_runS (As := [.int (uh.2.1 1 x1.toNatClampNeg)]) (rest := [.int x2]) ⟨hx, hb, hml, hown, hts⟩ (c_X6_size l H.size (uh.2.1 1 x1.toNatClampNeg) _ h) (va_cwS 1 hts gX7_lose_X6_size rfl rfl rfl (by decide +kernel) ⟨Nat.le_of_ble_eq_true rfl, Nat.le_of_ble_eq_true rfl⟩) ⟨fun a U g mk q => by obtain ⟨q0, q1⟩ := q; exact ⟨q0, q1⟩, fun U hU hW => ⟨rfl, congrArg Array.size hU⟩⟩ rfl rfl hl.1 rfl (lv_room (Nat.le_of_ble_eq_true rfl)) dX7_lose_18 ⟨Nat.zero_le _, Nat.zero_le _⟩) hS (fun q _ h => hFc q h) hFc (fun r_4 zz t H1 locs ht hvm hw hB hz1 hk1 hS => ?_)
    replace hP := fl_keep hP hk1
    replace h := hw
    generalize H1 = H at hP hS ⊢
    have hFc := fl_freeN hS hA
    refine va_calli (va_runS (As := [.int x2, .int r_4]) (rest := []) ⟨hx, hb, hml, hown, hts⟩ (c_X7_isAmong l H.size x2 r_4 _ h) (va_cwS 2 hts gX7_lose_X7_isAmong rfl rfl rfl (by decide +kernel) ⟨Nat.le_of_ble_eq_true rfl, Nat.le_of_ble_eq_true rfl⟩) ⟨fun a U g mk q => by obtain ⟨q0, q1⟩ := q; exact ⟨q0, q1⟩, fun U hU hW => ⟨rfl, congrArg Array.size hU⟩⟩ rfl rfl hl.1 rfl (lv_room (Nat.le_of_ble_eq_true rfl)) dX7_lose_21 ⟨Nat.zero_le _, Nat.zero_le _⟩) hS (fun q _ h => hFc q h) hFc (fun r_5 zz t H1 locs ht hvm hw hB hz1 hk1 hS => ?_)
    replace hP := fl_keep hP hk1
    replace h := hw
    generalize H1 = H at hP hS ⊢
    refine lv_if_ne (tgt := 29) hx hb dX7_lose_24 (by decide) (fun hc_6 => ?_) (fun hc_6 => ?_)
    · replace h := h.1 hc_6
      refine lv_aload_n hx hb dX7_lose_29 rfl (lv_at hl 0 rfl) ?_
      refine va_get (D := (dC, dI)) (ci := 6) (v := .ref (AA 3 0)) (C := RX7) (T := TX7) (N := 8) hx hb hts hin_X7 hown hK hP 0 rfl rfl 2 (by decide) lk_0 (fun _ h9 => h9) rfl dX7_lose_30 ?_
      refine va_get (D := (dC, dI)) (ci := 1) (v := .ref (AA 3 2)) (C := RX1) (T := TX1) (N := 2) hx hb hts hin_X1 hown hK hP 8 rfl rfl 1 (by decide) lk_1 (fun _ h9 => h9) rfl dX7_lose_33 ?_
      refine lv_iload_n hx hb dX7_lose_36 rfl (lv_at hl 1 rfl) ?_
      obtain ⟨hi_7, h⟩ := h
      refine va_iald (D := (dC, dI)) (cl := vwCl) (i := x1) hx hb hK hP 9 5 rfl rfl hi_7 dX7_lose_37 ?_
      refine lv_iload_n hx hb dX7_lose_38 rfl (lv_at hl 2 rfl) ?_
      have hFc := fl_freeN hS hA
      refine va_calli (va_runS (As := [.int (uh.2.1 1 x1.toNatClampNeg), .int x2]) (rest := []) ⟨hx, hb, hml, hown, hts⟩ (c_X6_at l H.size (uh.2.1 1 x1.toNatClampNeg) x2 _ h) (va_cwS 2 hts gX7_lose_X6_at rfl rfl rfl (by decide +kernel) ⟨Nat.le_of_ble_eq_true rfl, Nat.le_of_ble_eq_true rfl⟩) ⟨fun a U g mk q => by obtain ⟨q0, q1⟩ := q; exact ⟨q0, q1⟩, fun U hU hW => ⟨rfl, congrArg Array.size hU⟩⟩ rfl rfl hl.1 rfl (lv_room (Nat.le_of_ble_eq_true rfl)) dX7_lose_39 ⟨Nat.zero_le _, Nat.zero_le _⟩) hS (fun q _ h => hFc q h) hFc (fun r_8 zz t H1 locs ht hvm hw hB hz1 hk1 hS => ?_)
      replace hP := fl_keep hP hk1
      replace h := hw
      generalize H1 = H at hP hS ⊢
      refine lv_istore_n (lv' := [(3, .int r_8), (0, .ref (AA 0 0)), (1, .int x1), (2, .int x2)]) hx hb dX7_lose_42 rfl hl (by decide) rfl (fun ls hl => ?_)
      refine lv_aload_n hx hb dX7_lose_43 rfl (lv_at hl 1 rfl) ?_
      refine va_get (D := (dC, dI)) (ci := 6) (v := .ref (AA 3 0)) (C := RX7) (T := TX7) (N := 8) hx hb hts hin_X7 hown hK hP 0 rfl rfl 2 (by decide) lk_0 (fun _ h9 => h9) rfl dX7_lose_44 ?_
      refine va_get (D := (dC, dI)) (ci := 1) (v := .ref (AA 3 2)) (C := RX1) (T := TX1) (N := 2) hx hb hts hin_X1 hown hK hP 8 rfl rfl 1 (by decide) lk_1 (fun _ h9 => h9) rfl dX7_lose_47 ?_
      refine lv_iload_n hx hb dX7_lose_50 rfl (lv_at hl 2 rfl) ?_
      refine lv_aload_n hx hb dX7_lose_51 rfl (lv_at hl 1 rfl) ?_
      refine va_get (D := (dC, dI)) (ci := 6) (v := .ref (AA 3 0)) (C := RX7) (T := TX7) (N := 8) hx hb hts hin_X7 hown hK hP 0 rfl rfl 2 (by decide) lk_0 (fun _ h9 => h9) rfl dX7_lose_52 ?_
      refine va_get (D := (dC, dI)) (ci := 1) (v := .ref (AA 3 2)) (C := RX1) (T := TX1) (N := 2) hx hb hts hin_X1 hown hK hP 8 rfl rfl 1 (by decide) lk_1 (fun _ h9 => h9) rfl dX7_lose_55 ?_
      refine lv_iload_n hx hb dX7_lose_58 rfl (lv_at hl 2 rfl) ?_
      obtain ⟨hi_9, h⟩ := h
      refine va_iald (D := (dC, dI)) (cl := vwCl) (i := x1) hx hb hK hP 9 5 rfl rfl hi_9 dX7_lose_59 ?_
      refine lv_iload_n hx hb dX7_lose_60 rfl (lv_at hl 3 rfl) ?_
      have hFc := fl_freeN hS hA
      refine va_calli (va_runS (As := [.int (uh.2.1 1 x1.toNatClampNeg), .int x2]) (rest := [.int x1, .ref (AA 3 2)]) ⟨hx, hb, hml, hown, hts⟩ (c_X6_without l H.size (uh.2.1 1 x1.toNatClampNeg) x2 _ h) (va_cwS 2 hts gX7_lose_X6_without rfl rfl rfl (by decide +kernel) ⟨Nat.le_of_ble_eq_true rfl, Nat.le_of_ble_eq_true rfl⟩) ⟨fun a U g mk q => by obtain ⟨q0, q1⟩ := q; exact ⟨q0, q1⟩, fun U hU hW => ⟨rfl, congrArg Array.size hU⟩⟩ rfl rfl hl.1 rfl (lv_room (Nat.le_of_ble_eq_true rfl)) dX7_lose_61 ⟨Nat.zero_le _, Nat.zero_le _⟩) hS (fun q _ h => hFc q h) hFc (fun r_10 zz t H1 locs ht hvm hw hB hz1 hk1 hS => ?_)
      replace hP := fl_keep hP hk1
      replace h := hw
      generalize H1 = H at hP hS ⊢
      obtain ⟨hi_11, h⟩ := h
      refine va_iast (D := (dC, dI)) (cl := vwCl) (i := x1) hx hb hK hP hD hS 9 5 rfl rfl hi_11 dX7_lose_64 (fun H locs hP hD hS => ?_)
      obtain ⟨uh_12, euh_12⟩ : ∃ z : Ob, z = fs_a uh 1 (upd (uh.2.1 1) x1.toNatClampNeg r_10) := ⟨_, rfl⟩
      replace h := h uh_12 euh_12
      replace hP : va_P (dC, dI) vwCl (wd_X7 AA CA uf um ut uh_12 ug ur uw ux uy) H := by rw [euh_12]; exact hP
      replace hD : va_D A (wd_X7 AA CA uf um ut uh_12 ug ur uw ux uy) := by rw [euh_12]; exact hD
      refine lv_iload_n hx hb dX7_lose_65 rfl (lv_at hl 0 rfl) ?_
      subst hQ
      exact W.iret (v := r_8) hx hb hr (fun t ht hW => ⟨⟨_, uh_12, rfl, h, by rw [ht]; exact hP, hD⟩, hS.F ht⟩) hS.2.2 dX7_lose_66
    · replace h := h.2 hc_6
      refine lv_iconst (v := (-1)) hx hb dX7_lose_27 (by decide) ?_
      subst hQ
      exact W.iret (v := (-1)) hx hb hr (fun t ht hW => ⟨⟨_, uh, rfl, h, by rw [ht]; exact hP, hD⟩, hS.F ht⟩) hS.2.2 dX7_lose_28
abbrev rm_X7_now : Room := { frames := 1, cells := 0, slots := 0, locals := 21 }
set_option maxHeartbeats 4000000 in
set_option maxRecDepth 100000 in
theorem c_X7_now (l : Launch) (dC : Nat → ClassId) (dI : Nat → Nat → Nat) (AA : Nat → Nat → Nat) (CA : Nat → Nat → ClassId) (sz : Nat) (uf : Ob) (um : Ob) (ut : Ob) (uh : Ob) (ug : Ob) (ur : Ob) (uw : Ob) (ux : Ob) (uy : Ob) (x1 : Int32) (x2 : Int32) (post : Int32 → Prop) (h : wp_X7_now uf uh x1 x2 post) : Met l yX7_now wsX7_now rm_X7_now (va_Pc [.ref (AA 0 0), .int x1, .int x2] (fun U => U.heap.size = sz ∧ va_P (dC, dI) vwCl (wd_X7 AA CA uf um ut uh ug ur uw ux uy) U.heap ∧ va_K (dC, dI) vwCl (ty_X7 CA) U ∧ va_D (fun _ => True) (wd_X7 AA CA uf um ut uh ug ur uw ux uy))) (va_Qi (fun (rr : Int32) (_ : Unit) => post rr) (fun (zz : Unit) (t : State) => va_P (dC, dI) vwCl (wd_X7 AA CA uf um ut uh ug ur uw ux uy) t.heap ∧ va_D (va_A (wd_X7 AA CA uf um ut uh ug ur uw ux uy) sz) (wd_X7 AA CA uf um ut uh ug ur uw ux uy)) (va_A (wd_X7 AA CA uf um ut uh ug ur uw ux uy) sz)) 0 0 (va_A (wd_X7 AA CA uf um ut uh ug ur uw ux uy) sz) := by
  refine fl_ofW (cc := cX7_now) (maxL := 4) (ret := (some .int)) (by decide) rfl ?_
  intro p e s m args below meth c s₁ Q B hml hv hQ
  obtain ⟨hargs, hsz, hP, hK, hD0⟩ := hv
  have hx := B.exec
  have hb := B.bytes
  have hr := B.returns
  have hts := atoms_spec (ws := wsX7_now) B.pre
  have hown : s.vm.findClass RX7 = some m.cls := findClass_of_methodNamed B.named
  subst hsz
  have hD := hD0.self (sz := s.heap.size)
  generalize hAe : va_A (wd_X7 AA CA uf um ut uh ug ur uw ux uy) s.heap.size = A at hD hQ
  have hA : ∀ q : Nat, s.heap.size ≤ q → A q := fun q h => by rw [← hAe]; exact Or.inr h
  have hS : va_S A s.heap s.heap [] := va_S.rf
  have hl := lv_entry ([.ref (AA 0 0), .int x1, .int x2]) (n := 4) (Nat.le_of_ble_eq_true rfl)
  refine W.eq (g2 := F0 m 0 ((lg_sl ([.ref (AA 0 0), .int x1, .int x2]) ++ List.replicate (4 - (lg_sl ([.ref (AA 0 0), .int x1, .int x2])).length) Slot.unset).toArray) []) (by rw [hargs]; exact lg_entry_eq m _ 4) ?_
  generalize (lg_sl ([.ref (AA 0 0), .int x1, .int x2]) ++ List.replicate (4 - (lg_sl ([.ref (AA 0 0), .int x1, .int x2])).length) Slot.unset).toArray = ls at hl ⊢
  have hl : lv_has ls 4 [(0, .ref (AA 0 0)), (1, .int x1), (2, .int x2)] := hl
  suffices hstart : ∀ (H : Heap) (locs : List Loc) (ls : Array Slot), va_P (dC, dI) vwCl (wd_X7 AA CA uf um ut uh ug ur uw ux uy) H → va_D A (wd_X7 AA CA uf um ut uh ug ur uw ux uy) → va_S A s.heap H locs → lv_has ls 4 [(0, .ref (AA 0 0)), (1, .int x1), (2, .int x2)] → W p l e (headSpec wsX7_now rm_X7_now).room s m args below meth c H locs 0 0 Q (F0 m 0 ls []) from hstart _ _ _ hP hD hS hl
  clear hS hP hD hD0
  intro H locs ls hP hD hS hl
  have hin_X1 : ∀ w ∈ wsX10, w ∈ wsX7_now := by decide +kernel
  have hin_X7 : ∀ w ∈ wsX70, w ∈ wsX7_now := by decide +kernel
  have lk_0 := hts (.fieldLink RX7 26 "ForgettingLines" "here" "LForgettingLines$Place;") (by decide +kernel)
  have lk_1 := hts (.fieldLink RX7 127 "ForgettingLines$Place" "words" "[I") (by decide +kernel)
  have lk_2 := hts (.fieldLink RX7 124 "ForgettingLines$Place" "state" "I") (by decide +kernel)
  unfold wp_X7_now at h
  refine lv_iload_n hx hb dX7_now_0 rfl (lv_at hl 2 rfl) ?_
  refine lv_bipush (v := (-2)) hx hb dX7_now_1 (by decide) ?_
  refine lv_icmp_ne (tgt := 14) hx hb dX7_now_3 (by decide) (fun hc_1 => ?_) (fun hc_1 => ?_)
  · replace h := h.1 hc_1
    refine lv_iload_n hx hb dX7_now_14 rfl (lv_at hl 1 rfl) ?_
    refine lv_iconst (v := 2) hx hb dX7_now_15 (by decide) ?_
    have hFc := fl_freeN hS hA
    refine va_calli (va_runS (As := [.int x1, .int 2]) (rest := []) ⟨hx, hb, hml, hown, hts⟩ (c_X7_isAmong l H.size x1 2 _ h) (va_cwS 2 hts gX7_now_X7_isAmong rfl rfl rfl (by decide +kernel) ⟨Nat.le_of_ble_eq_true rfl, Nat.le_of_ble_eq_true rfl⟩) ⟨fun a U g mk q => by obtain ⟨q0, q1⟩ := q; exact ⟨q0, q1⟩, fun U hU hW => ⟨rfl, congrArg Array.size hU⟩⟩ rfl rfl hl.1 rfl (lv_room (Nat.le_of_ble_eq_true rfl)) dX7_now_16 ⟨Nat.zero_le _, Nat.zero_le _⟩) hS (fun q _ h => hFc q h) hFc (fun r_2 zz t H1 locs ht hvm hw hB hz1 hk1 hS => ?_)
    replace hP := fl_keep hP hk1
    replace h := hw
    generalize H1 = H at hP hS ⊢
    refine lv_if_ne (tgt := 24) hx hb dX7_now_19 (by decide) (fun hc_3 => ?_) (fun hc_3 => ?_)
    · replace h := h.1 hc_3
      refine lv_aload_n hx hb dX7_now_24 rfl (lv_at hl 0 rfl) ?_
      refine va_get (D := (dC, dI)) (ci := 6) (v := .ref (AA 3 0)) (C := RX7) (T := TX7) (N := 8) hx hb hts hin_X7 hown hK hP 0 rfl rfl 2 (by decide) lk_0 (fun _ h9 => h9) rfl dX7_now_25 ?_
      refine va_get (D := (dC, dI)) (ci := 1) (v := .ref (AA 3 2)) (C := RX1) (T := TX1) (N := 2) hx hb hts hin_X1 hown hK hP 8 rfl rfl 1 (by decide) lk_1 (fun _ h9 => h9) rfl dX7_now_28 ?_
      refine lv_iload_n hx hb dX7_now_31 rfl (lv_at hl 1 rfl) ?_
      obtain ⟨hi_4, h⟩ := h
      refine va_iald (D := (dC, dI)) (cl := vwCl) (i := x1) hx hb hK hP 9 5 rfl rfl hi_4 dX7_now_32 ?_
      have hFc := fl_freeN hS hA
      refine va_calli (va_runS (As := [.int (uh.2.1 1 x1.toNatClampNeg)]) (rest := []) ⟨hx, hb, hml, hown, hts⟩ (c_X6_size l H.size (uh.2.1 1 x1.toNatClampNeg) _ h) (va_cwS 1 hts gX7_now_X6_size rfl rfl rfl (by decide +kernel) ⟨Nat.le_of_ble_eq_true rfl, Nat.le_of_ble_eq_true rfl⟩) ⟨fun a U g mk q => by obtain ⟨q0, q1⟩ := q; exact ⟨q0, q1⟩, fun U hU hW => ⟨rfl, congrArg Array.size hU⟩⟩ rfl rfl hl.1 rfl (lv_room (Nat.le_of_ble_eq_true rfl)) dX7_now_33 ⟨Nat.zero_le _, Nat.zero_le _⟩) hS (fun q _ h => hFc q h) hFc (fun r_5 zz t H1 locs ht hvm hw hB hz1 hk1 hS => ?_)
      replace hP := fl_keep hP hk1
      replace h := hw
      generalize H1 = H at hP hS ⊢
      refine lv_istore_n (lv' := [(3, .int r_5), (0, .ref (AA 0 0)), (1, .int x1), (2, .int x2)]) hx hb dX7_now_36 rfl hl (by decide) rfl (fun ls hl => ?_)
      refine lv_iload_n hx hb dX7_now_37 rfl (lv_at hl 3 rfl) ?_
      refine lv_iconst (v := (-1)) hx hb dX7_now_38 (by decide) ?_
      refine lv_icmp_ne (tgt := 44) hx hb dX7_now_39 (by decide) (fun hc_6 => ?_) (fun hc_6 => ?_)
      · replace h := h.1 hc_6
        refine lv_iload_n hx hb dX7_now_44 rfl (lv_at hl 3 rfl) ?_
        refine lv_iload_n hx hb dX7_now_45 rfl (lv_at hl 0 rfl) ?_
        have hFc := fl_freeN hS hA
        refine va_calli (va_runS (As := [.int x2, .int r_5]) (rest := []) ⟨hx, hb, hml, hown, hts⟩ (c_X7_isAmong l H.size x2 r_5 _ h) (va_cwS 2 hts gX7_now_X7_isAmong rfl rfl rfl (by decide +kernel) ⟨Nat.le_of_ble_eq_true rfl, Nat.le_of_ble_eq_true rfl⟩) ⟨fun a U g mk q => by obtain ⟨q0, q1⟩ := q; exact ⟨q0, q1⟩, fun U hU hW => ⟨rfl, congrArg Array.size hU⟩⟩ rfl rfl hl.1 rfl (lv_room (Nat.le_of_ble_eq_true rfl)) dX7_now_46 ⟨Nat.zero_le _, Nat.zero_le _⟩) hS (fun q _ h => hFc q h) hFc (fun r_7 zz t H1 locs ht hvm hw hB hz1 hk1 hS => ?_)
        replace hP := fl_keep hP hk1
        replace h := hw
        generalize H1 = H at hP hS ⊢
        refine lv_if_eq (tgt := 68) hx hb dX7_now_49 (by decide) (fun hc_8 => ?_) (fun hc_8 => ?_)
        · replace h := h.1 hc_8
          refine lv_iconst (v := (-1)) hx hb dX7_now_68 (by decide) ?_
          subst hQ
          exact W.iret (v := (-1)) hx hb hr (fun t ht hW => ⟨⟨_, (), rfl, h, by rw [ht]; exact hP, hD⟩, hS.F ht⟩) hS.2.2 dX7_now_69
        · replace h := h.2 hc_8
          refine lv_aload_n hx hb dX7_now_52 rfl (lv_at hl 1 rfl) ?_
          refine va_get (D := (dC, dI)) (ci := 6) (v := .ref (AA 3 0)) (C := RX7) (T := TX7) (N := 8) hx hb hts hin_X7 hown hK hP 0 rfl rfl 2 (by decide) lk_0 (fun _ h9 => h9) rfl dX7_now_53 ?_
          refine va_get (D := (dC, dI)) (ci := 1) (v := .ref (AA 3 2)) (C := RX1) (T := TX1) (N := 2) hx hb hts hin_X1 hown hK hP 8 rfl rfl 1 (by decide) lk_1 (fun _ h9 => h9) rfl dX7_now_56 ?_
          refine lv_iload_n hx hb dX7_now_59 rfl (lv_at hl 2 rfl) ?_
          obtain ⟨hi_9, h⟩ := h
          refine va_iald (D := (dC, dI)) (cl := vwCl) (i := x1) hx hb hK hP 9 5 rfl rfl hi_9 dX7_now_60 ?_
          refine lv_iload_n hx hb dX7_now_61 rfl (lv_at hl 3 rfl) ?_
          have hFc := fl_freeN hS hA
          refine va_calli (va_runS (As := [.int (uh.2.1 1 x1.toNatClampNeg), .int x2]) (rest := []) ⟨hx, hb, hml, hown, hts⟩ (c_X6_at l H.size (uh.2.1 1 x1.toNatClampNeg) x2 _ h) (va_cwS 2 hts gX7_now_X6_at rfl rfl rfl (by decide +kernel) ⟨Nat.le_of_ble_eq_true rfl, Nat.le_of_ble_eq_true rfl⟩) ⟨fun a U g mk q => by obtain ⟨q0, q1⟩ := q; exact ⟨q0, q1⟩, fun U hU hW => ⟨rfl, congrArg Array.size hU⟩⟩ rfl rfl hl.1 rfl (lv_room (Nat.le_of_ble_eq_true rfl)) dX7_now_62 ⟨Nat.zero_le _, Nat.zero_le _⟩) hS (fun q _ h => hFc q h) hFc (fun r_10 zz t H1 locs ht hvm hw hB hz1 hk1 hS => ?_)
          replace hP := fl_keep hP hk1
          replace h := hw
          generalize H1 = H at hP hS ⊢
          refine lv_goto (tgt := 69) hx hb dX7_now_65 (by decide) ?_
          subst hQ
          exact W.iret (v := r_10) hx hb hr (fun t ht hW => ⟨⟨_, (), rfl, h, by rw [ht]; exact hP, hD⟩, hS.F ht⟩) hS.2.2 dX7_now_69
      · replace h := h.2 hc_6
        refine lv_iload_n hx hb dX7_now_42 rfl (lv_at hl 0 rfl) ?_
        subst hQ
        exact W.iret (v := r_5) hx hb hr (fun t ht hW => ⟨⟨_, (), rfl, h, by rw [ht]; exact hP, hD⟩, hS.F ht⟩) hS.2.2 dX7_now_43
    · replace h := h.2 hc_3
      refine lv_iconst (v := (-1)) hx hb dX7_now_22 (by decide) ?_
      subst hQ
      exact W.iret (v := (-1)) hx hb hr (fun t ht hW => ⟨⟨_, (), rfl, h, by rw [ht]; exact hP, hD⟩, hS.F ht⟩) hS.2.2 dX7_now_23
  · replace h := h.2 hc_1
    refine lv_aload_n hx hb dX7_now_6 rfl (lv_at hl 0 rfl) ?_
    refine va_get (D := (dC, dI)) (ci := 6) (v := .ref (AA 3 0)) (C := RX7) (T := TX7) (N := 8) hx hb hts hin_X7 hown hK hP 0 rfl rfl 2 (by decide) lk_0 (fun _ h9 => h9) rfl dX7_now_7 ?_
    refine va_get (D := (dC, dI)) (ci := 1) (v := .int (uh.1 0)) (C := RX1) (T := TX1) (N := 2) hx hb hts hin_X1 hown hK hP 8 rfl rfl 0 (by decide) lk_2 (fun _ h9 => h9) rfl dX7_now_10 ?_
    subst hQ
    exact W.iret (v := (uh.1 0)) hx hb hr (fun t ht hW => ⟨⟨_, (), rfl, h, by rw [ht]; exact hP, hD⟩, hS.F ht⟩) hS.2.2 dX7_now_13
abbrev rm_X7_reset : Room := { frames := 1, cells := 0, slots := 0, locals := 21 }
set_option maxHeartbeats 4000000 in
set_option maxRecDepth 100000 in
theorem c_X7_reset (l : Launch) (dC : Nat → ClassId) (dI : Nat → Nat → Nat) (AA : Nat → Nat → Nat) (CA : Nat → Nat → ClassId) (sz : Nat) (uf : Ob) (um : Ob) (ut : Ob) (uh : Ob) (ug : Ob) (ur : Ob) (uw : Ob) (ux : Ob) (uy : Ob) (post : Int32 → Ob → Prop) (h : wp_X7_reset uf uh post) : Met l yX7_reset wsX7_reset rm_X7_reset (va_Pc [.ref (AA 0 0)] (fun U => U.heap.size = sz ∧ va_P (dC, dI) vwCl (wd_X7 AA CA uf um ut uh ug ur uw ux uy) U.heap ∧ va_K (dC, dI) vwCl (ty_X7 CA) U ∧ va_D (fun _ => True) (wd_X7 AA CA uf um ut uh ug ur uw ux uy))) (va_Qi post (fun (zz : Ob) (t : State) => va_P (dC, dI) vwCl (wd_X7 AA CA uf um ut zz ug ur uw ux uy) t.heap ∧ va_D (va_A (wd_X7 AA CA uf um ut uh ug ur uw ux uy) sz) (wd_X7 AA CA uf um ut zz ug ur uw ux uy)) (va_A (wd_X7 AA CA uf um ut uh ug ur uw ux uy) sz)) 0 0 (va_A (wd_X7 AA CA uf um ut uh ug ur uw ux uy) sz) := by
  refine fl_ofW (cc := cX7_reset) (maxL := 1) (ret := (some .int)) (by decide) rfl ?_
  intro p e s m args below meth c s₁ Q B hml hv hQ
  obtain ⟨hargs, hsz, hP, hK, hD0⟩ := hv
  have hx := B.exec
  have hb := B.bytes
  have hr := B.returns
  have hts := atoms_spec (ws := wsX7_reset) B.pre
  have hown : s.vm.findClass RX7 = some m.cls := findClass_of_methodNamed B.named
  subst hsz
  have hD := hD0.self (sz := s.heap.size)
  generalize hAe : va_A (wd_X7 AA CA uf um ut uh ug ur uw ux uy) s.heap.size = A at hD hQ
  have hA : ∀ q : Nat, s.heap.size ≤ q → A q := fun q h => by rw [← hAe]; exact Or.inr h
  have hS : va_S A s.heap s.heap [] := va_S.rf
  have hl := lv_entry ([.ref (AA 0 0)]) (n := 1) (Nat.le_of_ble_eq_true rfl)
  refine W.eq (g2 := F0 m 0 ((lg_sl ([.ref (AA 0 0)]) ++ List.replicate (1 - (lg_sl ([.ref (AA 0 0)])).length) Slot.unset).toArray) []) (by rw [hargs]; exact lg_entry_eq m _ 1) ?_
  generalize (lg_sl ([.ref (AA 0 0)]) ++ List.replicate (1 - (lg_sl ([.ref (AA 0 0)])).length) Slot.unset).toArray = ls at hl ⊢
  have hl : lv_has ls 1 [(0, .ref (AA 0 0))] := hl
  suffices hstart : ∀ (H : Heap) (locs : List Loc) (ls : Array Slot), va_P (dC, dI) vwCl (wd_X7 AA CA uf um ut uh ug ur uw ux uy) H → va_D A (wd_X7 AA CA uf um ut uh ug ur uw ux uy) → va_S A s.heap H locs → lv_has ls 1 [(0, .ref (AA 0 0))] → W p l e (headSpec wsX7_reset rm_X7_reset).room s m args below meth c H locs 0 0 Q (F0 m 0 ls []) from hstart _ _ _ hP hD hS hl
  clear hS hP hD hD0
  intro H locs ls hP hD hS hl
  have hin_X7 : ∀ w ∈ wsX70, w ∈ wsX7_reset := by decide +kernel
  have lk_0 := hts (.fieldLink RX7 26 "ForgettingLines" "here" "LForgettingLines$Place;") (by decide +kernel)
  unfold wp_X7_reset at h
  refine lv_aload_n hx hb dX7_reset_0 rfl (lv_at hl 0 rfl) ?_
  refine va_get (D := (dC, dI)) (ci := 6) (v := .ref (AA 3 0)) (C := RX7) (T := TX7) (N := 8) hx hb hts hin_X7 hown hK hP 0 rfl rfl 2 (by decide) lk_0 (fun _ h9 => h9) rfl dX7_reset_1 ?_
  refine lv_iconst (v := 0) hx hb dX7_reset_4 (by decide) ?_
  have hPc := hP.sub (ws' := (wd_X1 (AA 3) (CA 3) uh)) [8, 9] rfl
  have hDc := hD.sub (ws' := (wd_X1 (AA 3) (CA 3) uh)) [8, 9] (by decide) rfl
  have hKc := hK.sub (tys' := (ty_X1 (CA 3))) [5] rfl
  have hFc := va_free (wc := (wd_X1 (AA 3) (CA 3) uh)) hD hS hA [8, 9] rfl
  refine va_callv (va_runV (As := [.int 0]) (rest := []) ⟨hx, hb, hml, hown, hts⟩ (c_X1_clear l dC dI (AA 3) (CA 3) H.size uh 0 _ h) (cwV 1 hts gX7_reset_X1_clear rfl rfl rfl (by decide +kernel) ⟨Nat.le_of_ble_eq_true rfl, Nat.le_of_ble_eq_true rfl⟩) ⟨fun a U g mk q => by obtain ⟨q0, q1, qP, qK, qD⟩ := q; exact ⟨q0, q1, qP, va_K.moved (u := U) (U := U.calling g mk a) (Vm.Alike.refl U.vm) qK, qD⟩, va_recv hKc hPc (ci := 1) (q0 := 0) rfl rfl, fun U hU hW => ⟨rfl, by rw [hU], by rw [hU]; exact hPc, va_K.moved hW.alike hKc, hDc.weaken (fun _ _ _ _ => trivial)⟩⟩ rfl rfl hl.1 rfl (lv_room (Nat.le_of_ble_eq_true rfl)) dX7_reset_5 ⟨Nat.zero_le _, Nat.zero_le _⟩) hS (fun q _ h => hFc q h) hFc (fun zz t H1 locs ht hvm hw hB hz1 hk1 hS => ?_)
  obtain ⟨uh_1, rfl⟩ : ∃ z, z = zz := ⟨_, rfl⟩
  replace h := hw
  obtain ⟨hP1, hD1⟩ := hB
  rw [ht] at hP1
  obtain ⟨hP, hD⟩ := va_join (wr := [0, 1, 2, 3, 4, 5, 6, 7, 10, 11, 12, 13, 14, 15, 16, 17, 18, 19, 20, 21, 22, 23, 24, 25].filterMap (fun i => (wd_X7 AA CA uf um ut uh ug ur uw ux uy)[i]?)) (w1 := (wd_X1 (AA 3) (CA 3) uh_1)) hP hD [8, 9] [0, 1, 2, 3, 4, 5, 6, 7, 10, 11, 12, 13, 14, 15, 16, 17, 18, 19, 20, 21, 22, 23, 24, 25] rfl rfl (by decide) (by decide) hk1 hFc hP1 hD1
  replace hP : va_P (dC, dI) vwCl (wd_X7 AA CA uf um ut uh_1 ug ur uw ux uy) H1 := (hP.sub [0, 1, 2, 3, 4, 5, 6, 7, 24, 25, 8, 9, 10, 11, 12, 13, 14, 15, 16, 17, 18, 19, 20, 21, 22, 23] rfl)
  replace hD : va_D A (wd_X7 AA CA uf um ut uh_1 ug ur uw ux uy) := (hD.sub [0, 1, 2, 3, 4, 5, 6, 7, 24, 25, 8, 9, 10, 11, 12, 13, 14, 15, 16, 17, 18, 19, 20, 21, 22, 23] (by decide) rfl)
  generalize H1 = H at hP hS ⊢
  refine lv_iconst (v := 1) hx hb dX7_reset_8 (by decide) ?_
  subst hQ
  exact W.iret (v := 1) hx hb hr (fun t ht hW => ⟨⟨_, uh_1, rfl, h, by rw [ht]; exact hP, hD⟩, hS.F ht⟩) hS.2.2 dX7_reset_9
abbrev rm_X7_aim : Room := { frames := 1, cells := 0, slots := 0, locals := 21 }
set_option maxHeartbeats 4000000 in
set_option maxRecDepth 100000 in
theorem c_X7_aim (l : Launch) (dC : Nat → ClassId) (dI : Nat → Nat → Nat) (AA : Nat → Nat → Nat) (CA : Nat → Nat → ClassId) (sz : Nat) (uf : Ob) (um : Ob) (ut : Ob) (uh : Ob) (ug : Ob) (ur : Ob) (uw : Ob) (ux : Ob) (uy : Ob) (x1 : Int32) (post : Int32 → Ob → Ob → Prop) (h : wp_X7_aim uf um ug x1 post) : Met l yX7_aim wsX7_aim rm_X7_aim (va_Pc [.ref (AA 0 0), .int x1] (fun U => U.heap.size = sz ∧ va_P (dC, dI) vwCl (wd_X7 AA CA uf um ut uh ug ur uw ux uy) U.heap ∧ va_K (dC, dI) vwCl (ty_X7 CA) U ∧ va_D (fun _ => True) (wd_X7 AA CA uf um ut uh ug ur uw ux uy))) (va_Qi (fun (rr : Int32) (zz : Ob × Ob) => post rr zz.1 zz.2) (fun (zz : Ob × Ob) (t : State) => va_P (dC, dI) vwCl (wd_X7 AA CA zz.1 um ut uh zz.2 ur uw ux uy) t.heap ∧ va_D (va_A (wd_X7 AA CA uf um ut uh ug ur uw ux uy) sz) (wd_X7 AA CA zz.1 um ut uh zz.2 ur uw ux uy)) (va_A (wd_X7 AA CA uf um ut uh ug ur uw ux uy) sz)) 0 0 (va_A (wd_X7 AA CA uf um ut uh ug ur uw ux uy) sz) := by
  refine fl_ofW (cc := cX7_aim) (maxL := 2) (ret := (some .int)) (by decide) rfl ?_
  intro p e s m args below meth c s₁ Q B hml hv hQ
  obtain ⟨hargs, hsz, hP, hK, hD0⟩ := hv
  have hx := B.exec
  have hb := B.bytes
  have hr := B.returns
  have hts := atoms_spec (ws := wsX7_aim) B.pre
  have hown : s.vm.findClass RX7 = some m.cls := findClass_of_methodNamed B.named
  subst hsz
  have hD := hD0.self (sz := s.heap.size)
  generalize hAe : va_A (wd_X7 AA CA uf um ut uh ug ur uw ux uy) s.heap.size = A at hD hQ
  have hA : ∀ q : Nat, s.heap.size ≤ q → A q := fun q h => by rw [← hAe]; exact Or.inr h
  have hS : va_S A s.heap s.heap [] := va_S.rf
  have hl := lv_entry ([.ref (AA 0 0), .int x1]) (n := 2) (Nat.le_of_ble_eq_true rfl)
  refine W.eq (g2 := F0 m 0 ((lg_sl ([.ref (AA 0 0), .int x1]) ++ List.replicate (2 - (lg_sl ([.ref (AA 0 0), .int x1])).length) Slot.unset).toArray) []) (by rw [hargs]; exact lg_entry_eq m _ 2) ?_
  generalize (lg_sl ([.ref (AA 0 0), .int x1]) ++ List.replicate (2 - (lg_sl ([.ref (AA 0 0), .int x1])).length) Slot.unset).toArray = ls at hl ⊢
  have hl : lv_has ls 2 [(0, .ref (AA 0 0)), (1, .int x1)] := hl
  suffices hstart : ∀ (H : Heap) (locs : List Loc) (ls : Array Slot), va_P (dC, dI) vwCl (wd_X7 AA CA uf um ut uh ug ur uw ux uy) H → va_D A (wd_X7 AA CA uf um ut uh ug ur uw ux uy) → va_S A s.heap H locs → lv_has ls 2 [(0, .ref (AA 0 0)), (1, .int x1)] → W p l e (headSpec wsX7_aim rm_X7_aim).room s m args below meth c H locs 0 0 Q (F0 m 0 ls []) from hstart _ _ _ hP hD hS hl
  clear hS hP hD hD0
  intro H locs ls hP hD hS hl
  have hin_X0 : ∀ w ∈ wsX00, w ∈ wsX7_aim := by decide +kernel
  have hin_X7 : ∀ w ∈ wsX70, w ∈ wsX7_aim := by decide +kernel
  have lk_0 := hts (.fieldLink RX7 10 "ForgettingLines" "machine" "LForgettingLines$Machine;") (by decide +kernel)
  have lk_1 := hts (.fieldLink RX7 54 "ForgettingLines$Machine" "states" "I") (by decide +kernel)
  have lk_2 := hts (.fieldLink RX7 30 "ForgettingLines" "target" "LForgettingLines$Place;") (by decide +kernel)
  have lk_3 := hts (.fieldLink RX7 146 "ForgettingLines" "searched" "Z") (by decide +kernel)
  unfold wp_X7_aim at h
  refine lv_iload_n hx hb dX7_aim_0 rfl (lv_at hl 1 rfl) ?_
  refine lv_aload_n hx hb dX7_aim_1 rfl (lv_at hl 0 rfl) ?_
  refine va_get (D := (dC, dI)) (ci := 6) (v := .ref (AA 1 0)) (C := RX7) (T := TX7) (N := 8) hx hb hts hin_X7 hown hK hP 0 rfl rfl 0 (by decide) lk_0 (fun _ h9 => h9) rfl dX7_aim_2 ?_
  refine va_get (D := (dC, dI)) (ci := 0) (v := .int (um.1 0)) (C := RX0) (T := TX0) (N := 4) hx hb hts hin_X0 hown hK hP 2 rfl rfl 0 (by decide) lk_1 (fun _ h9 => h9) rfl dX7_aim_5 ?_
  have hFc := fl_freeN hS hA
  refine va_calli (va_runS (As := [.int x1, .int (um.1 0)]) (rest := []) ⟨hx, hb, hml, hown, hts⟩ (c_X7_isAmong l H.size x1 (um.1 0) _ h) (va_cwS 2 hts gX7_aim_X7_isAmong rfl rfl rfl (by decide +kernel) ⟨Nat.le_of_ble_eq_true rfl, Nat.le_of_ble_eq_true rfl⟩) ⟨fun a U g mk q => by obtain ⟨q0, q1⟩ := q; exact ⟨q0, q1⟩, fun U hU hW => ⟨rfl, congrArg Array.size hU⟩⟩ rfl rfl hl.1 rfl (lv_room (Nat.le_of_ble_eq_true rfl)) dX7_aim_8 ⟨Nat.zero_le _, Nat.zero_le _⟩) hS (fun q _ h => hFc q h) hFc (fun r_1 zz t H1 locs ht hvm hw hB hz1 hk1 hS => ?_)
  replace hP := fl_keep hP hk1
  replace h := hw
  generalize H1 = H at hP hS ⊢
  refine lv_if_ne (tgt := 16) hx hb dX7_aim_11 (by decide) (fun hc_2 => ?_) (fun hc_2 => ?_)
  · replace h := h.1 hc_2
    refine lv_aload_n hx hb dX7_aim_16 rfl (lv_at hl 0 rfl) ?_
    refine va_get (D := (dC, dI)) (ci := 6) (v := .ref (AA 4 0)) (C := RX7) (T := TX7) (N := 8) hx hb hts hin_X7 hown hK hP 0 rfl rfl 3 (by decide) lk_2 (fun _ h9 => h9) rfl dX7_aim_17 ?_
    refine lv_iload_n hx hb dX7_aim_20 rfl (lv_at hl 1 rfl) ?_
    have hPc := hP.sub (ws' := (wd_X1 (AA 4) (CA 4) ug)) [10, 11] rfl
    have hDc := hD.sub (ws' := (wd_X1 (AA 4) (CA 4) ug)) [10, 11] (by decide) rfl
    have hKc := hK.sub (tys' := (ty_X1 (CA 4))) [6] rfl
    have hFc := va_free (wc := (wd_X1 (AA 4) (CA 4) ug)) hD hS hA [10, 11] rfl
    refine va_callv (va_runV (As := [.int x1]) (rest := []) ⟨hx, hb, hml, hown, hts⟩ (c_X1_clear l dC dI (AA 4) (CA 4) H.size ug x1 _ h) (cwV 1 hts gX7_aim_X1_clear rfl rfl rfl (by decide +kernel) ⟨Nat.le_of_ble_eq_true rfl, Nat.le_of_ble_eq_true rfl⟩) ⟨fun a U g mk q => by obtain ⟨q0, q1, qP, qK, qD⟩ := q; exact ⟨q0, q1, qP, va_K.moved (u := U) (U := U.calling g mk a) (Vm.Alike.refl U.vm) qK, qD⟩, va_recv hKc hPc (ci := 1) (q0 := 0) rfl rfl, fun U hU hW => ⟨rfl, by rw [hU], by rw [hU]; exact hPc, va_K.moved hW.alike hKc, hDc.weaken (fun _ _ _ _ => trivial)⟩⟩ rfl rfl hl.1 rfl (lv_room (Nat.le_of_ble_eq_true rfl)) dX7_aim_21 ⟨Nat.zero_le _, Nat.zero_le _⟩) hS (fun q _ h => hFc q h) hFc (fun zz t H1 locs ht hvm hw hB hz1 hk1 hS => ?_)
    obtain ⟨ug_3, rfl⟩ : ∃ z, z = zz := ⟨_, rfl⟩
    replace h := hw
    obtain ⟨hP1, hD1⟩ := hB
    rw [ht] at hP1
    obtain ⟨hP, hD⟩ := va_join (wr := [0, 1, 2, 3, 4, 5, 6, 7, 8, 9, 12, 13, 14, 15, 16, 17, 18, 19, 20, 21, 22, 23, 24, 25].filterMap (fun i => (wd_X7 AA CA uf um ut uh ug ur uw ux uy)[i]?)) (w1 := (wd_X1 (AA 4) (CA 4) ug_3)) hP hD [10, 11] [0, 1, 2, 3, 4, 5, 6, 7, 8, 9, 12, 13, 14, 15, 16, 17, 18, 19, 20, 21, 22, 23, 24, 25] rfl rfl (by decide) (by decide) hk1 hFc hP1 hD1
    replace hP : va_P (dC, dI) vwCl (wd_X7 AA CA uf um ut uh ug_3 ur uw ux uy) H1 := (hP.sub [0, 1, 2, 3, 4, 5, 6, 7, 8, 9, 24, 25, 10, 11, 12, 13, 14, 15, 16, 17, 18, 19, 20, 21, 22, 23] rfl)
    replace hD : va_D A (wd_X7 AA CA uf um ut uh ug_3 ur uw ux uy) := (hD.sub [0, 1, 2, 3, 4, 5, 6, 7, 8, 9, 24, 25, 10, 11, 12, 13, 14, 15, 16, 17, 18, 19, 20, 21, 22, 23] (by decide) rfl)
    generalize H1 = H at hP hS ⊢
    refine lv_aload_n hx hb dX7_aim_24 rfl (lv_at hl 0 rfl) ?_
    refine lv_iconst (v := 0) hx hb dX7_aim_25 (by decide) ?_
    refine va_put (D := (dC, dI)) (ci := 6) (v := .int 0) (ty := .boolean) (C := RX7) (T := TX7) (N := 8) hx hb hts hin_X7 tyX7 tyX7_ok nmX7 hown hK hP hD hS 0 rfl rfl 7 (by decide) lk_3 (fun _ h9 => h9) rfl (by decide +kernel) rfl rfl (Nat.le_of_ble_eq_true rfl) dX7_aim_26 (fun H locs hP hD hS => ?_)
    obtain ⟨uf_4, euf_4⟩ : ∃ z : Ob, z = fs_i uf 7 0 := ⟨_, rfl⟩
    replace h := h uf_4 euf_4
    replace hP : va_P (dC, dI) vwCl (wd_X7 AA CA uf_4 um ut uh ug_3 ur uw ux uy) H := by rw [euf_4]; exact hP
    replace hD : va_D A (wd_X7 AA CA uf_4 um ut uh ug_3 ur uw ux uy) := by rw [euf_4]; exact hD
    refine lv_iconst (v := 1) hx hb dX7_aim_29 (by decide) ?_
    subst hQ
    exact W.iret (v := 1) hx hb hr (fun t ht hW => ⟨⟨_, (uf_4, ug_3), rfl, h, by rw [ht]; exact hP, hD⟩, hS.F ht⟩) hS.2.2 dX7_aim_30
  · replace h := h.2 hc_2
    refine lv_iconst (v := (-1)) hx hb dX7_aim_14 (by decide) ?_
    subst hQ
    exact W.iret (v := (-1)) hx hb hr (fun t ht hW => ⟨⟨_, (uf, ug), rfl, h, by rw [ht]; exact hP, hD⟩, hS.F ht⟩) hS.2.2 dX7_aim_15
abbrev rm_X7_want : Room := { frames := 2, cells := 0, slots := 0, locals := 48 }
set_option maxHeartbeats 4000000 in
set_option maxRecDepth 100000 in
theorem c_X7_want (l : Launch) (dC : Nat → ClassId) (dI : Nat → Nat → Nat) (AA : Nat → Nat → Nat) (CA : Nat → Nat → ClassId) (sz : Nat) (uf : Ob) (um : Ob) (ut : Ob) (uh : Ob) (ug : Ob) (ur : Ob) (uw : Ob) (ux : Ob) (uy : Ob) (x1 : Int32) (x2 : Int32) (post : Int32 → Ob → Ob → Prop) (h : wp_X7_want uf um ug x1 x2 post) : Met l yX7_want wsX7_want rm_X7_want (va_Pc [.ref (AA 0 0), .int x1, .int x2] (fun U => U.heap.size = sz ∧ va_P (dC, dI) vwCl (wd_X7 AA CA uf um ut uh ug ur uw ux uy) U.heap ∧ va_K (dC, dI) vwCl (ty_X7 CA) U ∧ va_D (fun _ => True) (wd_X7 AA CA uf um ut uh ug ur uw ux uy))) (va_Qi (fun (rr : Int32) (zz : Ob × Ob) => post rr zz.1 zz.2) (fun (zz : Ob × Ob) (t : State) => va_P (dC, dI) vwCl (wd_X7 AA CA zz.1 um ut uh zz.2 ur uw ux uy) t.heap ∧ va_D (va_A (wd_X7 AA CA uf um ut uh ug ur uw ux uy) sz) (wd_X7 AA CA zz.1 um ut uh zz.2 ur uw ux uy)) (va_A (wd_X7 AA CA uf um ut uh ug ur uw ux uy) sz)) 0 0 (va_A (wd_X7 AA CA uf um ut uh ug ur uw ux uy) sz) := by
  refine fl_ofW (cc := cX7_want) (maxL := 4) (ret := (some .int)) (by decide) rfl ?_
  intro p e s m args below meth c s₁ Q B hml hv hQ
  obtain ⟨hargs, hsz, hP, hK, hD0⟩ := hv
  have hx := B.exec
  have hb := B.bytes
  have hr := B.returns
  have hts := atoms_spec (ws := wsX7_want) B.pre
  have hown : s.vm.findClass RX7 = some m.cls := findClass_of_methodNamed B.named
  subst hsz
  have hD := hD0.self (sz := s.heap.size)
  generalize hAe : va_A (wd_X7 AA CA uf um ut uh ug ur uw ux uy) s.heap.size = A at hD hQ
  have hA : ∀ q : Nat, s.heap.size ≤ q → A q := fun q h => by rw [← hAe]; exact Or.inr h
  have hS : va_S A s.heap s.heap [] := va_S.rf
  have hl := lv_entry ([.ref (AA 0 0), .int x1, .int x2]) (n := 4) (Nat.le_of_ble_eq_true rfl)
  refine W.eq (g2 := F0 m 0 ((lg_sl ([.ref (AA 0 0), .int x1, .int x2]) ++ List.replicate (4 - (lg_sl ([.ref (AA 0 0), .int x1, .int x2])).length) Slot.unset).toArray) []) (by rw [hargs]; exact lg_entry_eq m _ 4) ?_
  generalize (lg_sl ([.ref (AA 0 0), .int x1, .int x2]) ++ List.replicate (4 - (lg_sl ([.ref (AA 0 0), .int x1, .int x2])).length) Slot.unset).toArray = ls at hl ⊢
  have hl : lv_has ls 4 [(0, .ref (AA 0 0)), (1, .int x1), (2, .int x2)] := hl
  suffices hstart : ∀ (H : Heap) (locs : List Loc) (ls : Array Slot), va_P (dC, dI) vwCl (wd_X7 AA CA uf um ut uh ug ur uw ux uy) H → va_D A (wd_X7 AA CA uf um ut uh ug ur uw ux uy) → va_S A s.heap H locs → lv_has ls 4 [(0, .ref (AA 0 0)), (1, .int x1), (2, .int x2)] → W p l e (headSpec wsX7_want rm_X7_want).room s m args below meth c H locs 0 0 Q (F0 m 0 ls []) from hstart _ _ _ hP hD hS hl
  clear hS hP hD hD0
  intro H locs ls hP hD hS hl
  have hin_X1 : ∀ w ∈ wsX10, w ∈ wsX7_want := by decide +kernel
  have hin_X7 : ∀ w ∈ wsX70, w ∈ wsX7_want := by decide +kernel
  have lk_0 := hts (.fieldLink RX7 30 "ForgettingLines" "target" "LForgettingLines$Place;") (by decide +kernel)
  have lk_1 := hts (.fieldLink RX7 127 "ForgettingLines$Place" "words" "[I") (by decide +kernel)
  have lk_2 := hts (.fieldLink RX7 10 "ForgettingLines" "machine" "LForgettingLines$Machine;") (by decide +kernel)
  have lk_3 := hts (.fieldLink RX7 146 "ForgettingLines" "searched" "Z") (by decide +kernel)
  unfold wp_X7_want at h
  refine lv_iload_n hx hb dX7_want_0 rfl (lv_at hl 1 rfl) ?_
  refine lv_iconst (v := 2) hx hb dX7_want_1 (by decide) ?_
  have hFc := fl_freeN hS hA
  refine va_calli (va_runS (As := [.int x1, .int 2]) (rest := []) ⟨hx, hb, hml, hown, hts⟩ (c_X7_isAmong l H.size x1 2 _ h) (va_cwS 2 hts gX7_want_X7_isAmong rfl rfl rfl (by decide +kernel) ⟨Nat.le_of_ble_eq_true rfl, Nat.le_of_ble_eq_true rfl⟩) ⟨fun a U g mk q => by obtain ⟨q0, q1⟩ := q; exact ⟨q0, q1⟩, fun U hU hW => ⟨rfl, congrArg Array.size hU⟩⟩ rfl rfl hl.1 rfl (lv_room (Nat.le_of_ble_eq_true rfl)) dX7_want_2 ⟨Nat.zero_le _, Nat.zero_le _⟩) hS (fun q _ h => hFc q h) hFc (fun r_1 zz t H1 locs ht hvm hw hB hz1 hk1 hS => ?_)
  replace hP := fl_keep hP hk1
  replace h := hw
  generalize H1 = H at hP hS ⊢
  refine lv_if_eq (tgt := 16) hx hb dX7_want_5 (by decide) (fun hc_2 => ?_) (fun hc_2 => ?_)
  · replace h := h.1 hc_2
    refine lv_iconst (v := (-1)) hx hb dX7_want_16 (by decide) ?_
    subst hQ
    exact W.iret (v := (-1)) hx hb hr (fun t ht hW => ⟨⟨_, (uf, ug), rfl, h, by rw [ht]; exact hP, hD⟩, hS.F ht⟩) hS.2.2 dX7_want_17
  · replace h := h.2 hc_2
    refine lv_iload_n hx hb dX7_want_8 rfl (lv_at hl 2 rfl) ?_
    refine lv_iconst (v := 3) hx hb dX7_want_9 (by decide) ?_
    have hFc := fl_freeN hS hA
    refine va_calli (va_runS (As := [.int x2, .int 3]) (rest := []) ⟨hx, hb, hml, hown, hts⟩ (c_X7_isAmong l H.size x2 3 _ h) (va_cwS 2 hts gX7_want_X7_isAmong rfl rfl rfl (by decide +kernel) ⟨Nat.le_of_ble_eq_true rfl, Nat.le_of_ble_eq_true rfl⟩) ⟨fun a U g mk q => by obtain ⟨q0, q1⟩ := q; exact ⟨q0, q1⟩, fun U hU hW => ⟨rfl, congrArg Array.size hU⟩⟩ rfl rfl hl.1 rfl (lv_room (Nat.le_of_ble_eq_true rfl)) dX7_want_10 ⟨Nat.zero_le _, Nat.zero_le _⟩) hS (fun q _ h => hFc q h) hFc (fun r_3 zz t H1 locs ht hvm hw hB hz1 hk1 hS => ?_)
    replace hP := fl_keep hP hk1
    replace h := hw
    generalize H1 = H at hP hS ⊢
    refine lv_if_ne (tgt := 18) hx hb dX7_want_13 (by decide) (fun hc_4 => ?_) (fun hc_4 => ?_)
    · replace h := h.1 hc_4
      refine lv_aload_n hx hb dX7_want_18 rfl (lv_at hl 0 rfl) ?_
      refine va_get (D := (dC, dI)) (ci := 6) (v := .ref (AA 4 0)) (C := RX7) (T := TX7) (N := 8) hx hb hts hin_X7 hown hK hP 0 rfl rfl 3 (by decide) lk_0 (fun _ h9 => h9) rfl dX7_want_19 ?_
      refine va_get (D := (dC, dI)) (ci := 1) (v := .ref (AA 4 2)) (C := RX1) (T := TX1) (N := 2) hx hb hts hin_X1 hown hK hP 10 rfl rfl 1 (by decide) lk_1 (fun _ h9 => h9) rfl dX7_want_22 ?_
      refine lv_iload_n hx hb dX7_want_25 rfl (lv_at hl 1 rfl) ?_
      obtain ⟨hi_5, h⟩ := h
      refine va_iald (D := (dC, dI)) (cl := vwCl) (i := x1) hx hb hK hP 11 6 rfl rfl hi_5 dX7_want_26 ?_
      have hFc := fl_freeN hS hA
      refine va_calli (va_runS (As := [.int (ug.2.1 1 x1.toNatClampNeg)]) (rest := []) ⟨hx, hb, hml, hown, hts⟩ (c_X6_size l H.size (ug.2.1 1 x1.toNatClampNeg) _ h) (va_cwS 1 hts gX7_want_X6_size rfl rfl rfl (by decide +kernel) ⟨Nat.le_of_ble_eq_true rfl, Nat.le_of_ble_eq_true rfl⟩) ⟨fun a U g mk q => by obtain ⟨q0, q1⟩ := q; exact ⟨q0, q1⟩, fun U hU hW => ⟨rfl, congrArg Array.size hU⟩⟩ rfl rfl hl.1 rfl (lv_room (Nat.le_of_ble_eq_true rfl)) dX7_want_27 ⟨Nat.zero_le _, Nat.zero_le _⟩) hS (fun q _ h => hFc q h) hFc (fun r_6 zz t H1 locs ht hvm hw hB hz1 hk1 hS => ?_)
      replace hP := fl_keep hP hk1
      replace h := hw
      generalize H1 = H at hP hS ⊢
      refine lv_istore_n (lv' := [(3, .int r_6), (0, .ref (AA 0 0)), (1, .int x1), (2, .int x2)]) hx hb dX7_want_30 rfl hl (by decide) rfl (fun ls hl => ?_)
      refine lv_iload_n hx hb dX7_want_31 rfl (lv_at hl 0 rfl) ?_
      refine lv_bipush (v := 10) hx hb dX7_want_32 (by decide) ?_
      refine lv_icmp_lt (tgt := 40) hx hb dX7_want_34 (by decide) (fun hc_7 => ?_) (fun hc_7 => ?_)
      · replace h := h.1 hc_7
        refine lv_aload_n hx hb dX7_want_40 rfl (lv_at hl 1 rfl) ?_
        refine va_get (D := (dC, dI)) (ci := 6) (v := .ref (AA 4 0)) (C := RX7) (T := TX7) (N := 8) hx hb hts hin_X7 hown hK hP 0 rfl rfl 3 (by decide) lk_0 (fun _ h9 => h9) rfl dX7_want_41 ?_
        refine va_get (D := (dC, dI)) (ci := 1) (v := .ref (AA 4 2)) (C := RX1) (T := TX1) (N := 2) hx hb hts hin_X1 hown hK hP 10 rfl rfl 1 (by decide) lk_1 (fun _ h9 => h9) rfl dX7_want_44 ?_
        refine lv_iload_n hx hb dX7_want_47 rfl (lv_at hl 2 rfl) ?_
        refine lv_aload_n hx hb dX7_want_48 rfl (lv_at hl 1 rfl) ?_
        refine va_get (D := (dC, dI)) (ci := 6) (v := .ref (AA 1 0)) (C := RX7) (T := TX7) (N := 8) hx hb hts hin_X7 hown hK hP 0 rfl rfl 0 (by decide) lk_2 (fun _ h9 => h9) rfl dX7_want_49 ?_
        refine lv_iload_n hx hb dX7_want_52 rfl (lv_at hl 2 rfl) ?_
        refine lv_aload_n hx hb dX7_want_53 rfl (lv_at hl 1 rfl) ?_
        refine va_get (D := (dC, dI)) (ci := 6) (v := .ref (AA 4 0)) (C := RX7) (T := TX7) (N := 8) hx hb hts hin_X7 hown hK hP 0 rfl rfl 3 (by decide) lk_0 (fun _ h9 => h9) rfl dX7_want_54 ?_
        refine va_get (D := (dC, dI)) (ci := 1) (v := .ref (AA 4 2)) (C := RX1) (T := TX1) (N := 2) hx hb hts hin_X1 hown hK hP 10 rfl rfl 1 (by decide) lk_1 (fun _ h9 => h9) rfl dX7_want_57 ?_
        refine lv_iload_n hx hb dX7_want_60 rfl (lv_at hl 2 rfl) ?_
        obtain ⟨hi_8, h⟩ := h
        refine va_iald (D := (dC, dI)) (cl := vwCl) (i := x1) hx hb hK hP 11 6 rfl rfl hi_8 dX7_want_61 ?_
        refine lv_iload_n hx hb dX7_want_62 rfl (lv_at hl 3 rfl) ?_
        have hPc := hP.sub (ws' := (wd_X0 (AA 1) (CA 1) um)) [2, 3, 4] rfl
        have hDc := hD.sub (ws' := (wd_X0 (AA 1) (CA 1) um)) [2, 3, 4] (by decide) rfl
        have hKc := hK.sub (tys' := (ty_X0 (CA 1))) [1, 2] rfl
        have hFc := va_free (wc := (wd_X0 (AA 1) (CA 1) um)) hD hS hA [2, 3, 4] rfl
        refine va_calli (va_runV (As := [.int x1, .int (ug.2.1 1 x1.toNatClampNeg), .int x2]) (rest := [.int x1, .ref (AA 4 2)]) ⟨hx, hb, hml, hown, hts⟩ (c_X0_wordWith l dC dI (AA 1) (CA 1) H.size um x1 (ug.2.1 1 x1.toNatClampNeg) x2 _ h) (cwV 3 hts gX7_want_X0_wordWith rfl rfl rfl (by decide +kernel) ⟨Nat.le_of_ble_eq_true rfl, Nat.le_of_ble_eq_true rfl⟩) ⟨fun a U g mk q => by obtain ⟨q0, q1, qP, qK, qD⟩ := q; exact ⟨q0, q1, qP, va_K.moved (u := U) (U := U.calling g mk a) (Vm.Alike.refl U.vm) qK, qD⟩, va_recv hKc hPc (ci := 0) (q0 := 0) rfl rfl, fun U hU hW => ⟨rfl, by rw [hU], by rw [hU]; exact hPc, va_K.moved hW.alike hKc, hDc.weaken (fun _ _ _ _ => trivial)⟩⟩ rfl rfl hl.1 rfl (lv_room (Nat.le_of_ble_eq_true rfl)) dX7_want_63 ⟨Nat.zero_le _, Nat.zero_le _⟩) hS (fun q _ h => hFc q h) hFc (fun r_9 zz t H1 locs ht hvm hw hB hz1 hk1 hS => ?_)
        replace h := hw
        obtain ⟨hP1, hD1⟩ := hB
        rw [ht] at hP1
        obtain ⟨hP, hD⟩ := va_join (wr := [0, 1, 5, 6, 7, 8, 9, 10, 11, 12, 13, 14, 15, 16, 17, 18, 19, 20, 21, 22, 23, 24, 25].filterMap (fun i => (wd_X7 AA CA uf um ut uh ug ur uw ux uy)[i]?)) (w1 := (wd_X0 (AA 1) (CA 1) um)) hP hD [2, 3, 4] [0, 1, 5, 6, 7, 8, 9, 10, 11, 12, 13, 14, 15, 16, 17, 18, 19, 20, 21, 22, 23, 24, 25] rfl rfl (by decide) (by decide) hk1 hFc hP1 hD1
        replace hP : va_P (dC, dI) vwCl (wd_X7 AA CA uf um ut uh ug ur uw ux uy) H1 := (hP.sub [0, 1, 23, 24, 25, 2, 3, 4, 5, 6, 7, 8, 9, 10, 11, 12, 13, 14, 15, 16, 17, 18, 19, 20, 21, 22] rfl)
        replace hD : va_D A (wd_X7 AA CA uf um ut uh ug ur uw ux uy) := (hD.sub [0, 1, 23, 24, 25, 2, 3, 4, 5, 6, 7, 8, 9, 10, 11, 12, 13, 14, 15, 16, 17, 18, 19, 20, 21, 22] (by decide) rfl)
        generalize H1 = H at hP hS ⊢
        obtain ⟨hi_10, h⟩ := h
        refine va_iast (D := (dC, dI)) (cl := vwCl) (i := x1) hx hb hK hP hD hS 11 6 rfl rfl hi_10 dX7_want_66 (fun H locs hP hD hS => ?_)
        obtain ⟨ug_11, eug_11⟩ : ∃ z : Ob, z = fs_a ug 1 (upd (ug.2.1 1) x1.toNatClampNeg r_9) := ⟨_, rfl⟩
        replace h := h ug_11 eug_11
        replace hP : va_P (dC, dI) vwCl (wd_X7 AA CA uf um ut uh ug_11 ur uw ux uy) H := by rw [eug_11]; exact hP
        replace hD : va_D A (wd_X7 AA CA uf um ut uh ug_11 ur uw ux uy) := by rw [eug_11]; exact hD
        refine lv_aload_n hx hb dX7_want_67 rfl (lv_at hl 1 rfl) ?_
        refine lv_iconst (v := 0) hx hb dX7_want_68 (by decide) ?_
        refine va_put (D := (dC, dI)) (ci := 6) (v := .int 0) (ty := .boolean) (C := RX7) (T := TX7) (N := 8) hx hb hts hin_X7 tyX7 tyX7_ok nmX7 hown hK hP hD hS 0 rfl rfl 7 (by decide) lk_3 (fun _ h9 => h9) rfl (by decide +kernel) rfl rfl (Nat.le_of_ble_eq_true rfl) dX7_want_69 (fun H locs hP hD hS => ?_)
        obtain ⟨uf_12, euf_12⟩ : ∃ z : Ob, z = fs_i uf 7 0 := ⟨_, rfl⟩
        replace h := h uf_12 euf_12
        replace hP : va_P (dC, dI) vwCl (wd_X7 AA CA uf_12 um ut uh ug_11 ur uw ux uy) H := by rw [euf_12]; exact hP
        replace hD : va_D A (wd_X7 AA CA uf_12 um ut uh ug_11 ur uw ux uy) := by rw [euf_12]; exact hD
        refine lv_iload_n hx hb dX7_want_72 rfl (lv_at hl 0 rfl) ?_
        refine lv_iconst (v := 1) hx hb dX7_want_73 (by decide) ?_
        refine lv_iadd hx hb dX7_want_74 ?_
        subst hQ
        exact W.iret (v := (r_6 + 1)) hx hb hr (fun t ht hW => ⟨⟨_, (uf_12, ug_11), rfl, h, by rw [ht]; exact hP, hD⟩, hS.F ht⟩) hS.2.2 dX7_want_75
      · replace h := h.2 hc_7
        refine lv_bipush (v := (-3)) hx hb dX7_want_37 (by decide) ?_
        subst hQ
        exact W.iret (v := (-3)) hx hb hr (fun t ht hW => ⟨⟨_, (uf, ug), rfl, h, by rw [ht]; exact hP, hD⟩, hS.F ht⟩) hS.2.2 dX7_want_39
    · replace h := h.2 hc_4
      refine lv_iconst (v := (-1)) hx hb dX7_want_16 (by decide) ?_
      subst hQ
      exact W.iret (v := (-1)) hx hb hr (fun t ht hW => ⟨⟨_, (uf, ug), rfl, h, by rw [ht]; exact hP, hD⟩, hS.F ht⟩) hS.2.2 dX7_want_17
abbrev rm_X7_searchOnce : Room := { frames := 5, cells := 0, slots := 0, locals := 124 }
set_option maxHeartbeats 4000000 in
set_option maxRecDepth 100000 in
theorem c_X7_searchOnce (l : Launch) (dC : Nat → ClassId) (dI : Nat → Nat → Nat) (AA : Nat → Nat → Nat) (CA : Nat → Nat → ClassId) (sz : Nat) (uf : Ob) (um : Ob) (ut : Ob) (uh : Ob) (ug : Ob) (ur : Ob) (uw : Ob) (ux : Ob) (uy : Ob) (post : Ob → Ob → Prop) (h : wp_X7_searchOnce uf um ug ur post) : Met l yX7_searchOnce wsX7_searchOnce rm_X7_searchOnce (va_Pc [.ref (AA 0 0)] (fun U => U.heap.size = sz ∧ va_P (dC, dI) vwCl (wd_X7 AA CA uf um ut uh ug ur uw ux uy) U.heap ∧ va_K (dC, dI) vwCl (ty_X7 CA) U ∧ va_D (fun _ => True) (wd_X7 AA CA uf um ut uh ug ur uw ux uy))) (va_Qv (fun zz : Ob × Ob => post zz.1 zz.2) (fun (zz : Ob × Ob) (t : State) => va_P (dC, dI) vwCl (wd_X7 AA CA zz.1 um ut uh ug zz.2 uw ux uy) t.heap ∧ va_D (va_A (wd_X7 AA CA uf um ut uh ug ur uw ux uy) sz) (wd_X7 AA CA zz.1 um ut uh ug zz.2 uw ux uy)) (va_A (wd_X7 AA CA uf um ut uh ug ur uw ux uy) sz)) 0 0 (va_A (wd_X7 AA CA uf um ut uh ug ur uw ux uy) sz) := by
  refine fl_ofW (cc := cX7_searchOnce) (maxL := 1) (ret := none) (by decide) rfl ?_
  intro p e s m args below meth c s₁ Q B hml hv hQ
  obtain ⟨hargs, hsz, hP, hK, hD0⟩ := hv
  have hx := B.exec
  have hb := B.bytes
  have hr := B.returns
  have hts := atoms_spec (ws := wsX7_searchOnce) B.pre
  have hown : s.vm.findClass RX7 = some m.cls := findClass_of_methodNamed B.named
  subst hsz
  have hD := hD0.self (sz := s.heap.size)
  generalize hAe : va_A (wd_X7 AA CA uf um ut uh ug ur uw ux uy) s.heap.size = A at hD hQ
  have hA : ∀ q : Nat, s.heap.size ≤ q → A q := fun q h => by rw [← hAe]; exact Or.inr h
  have hS : va_S A s.heap s.heap [] := va_S.rf
  have hl := lv_entry ([.ref (AA 0 0)]) (n := 1) (Nat.le_of_ble_eq_true rfl)
  refine W.eq (g2 := F0 m 0 ((lg_sl ([.ref (AA 0 0)]) ++ List.replicate (1 - (lg_sl ([.ref (AA 0 0)])).length) Slot.unset).toArray) []) (by rw [hargs]; exact lg_entry_eq m _ 1) ?_
  generalize (lg_sl ([.ref (AA 0 0)]) ++ List.replicate (1 - (lg_sl ([.ref (AA 0 0)])).length) Slot.unset).toArray = ls at hl ⊢
  have hl : lv_has ls 1 [(0, .ref (AA 0 0))] := hl
  suffices hstart : ∀ (H : Heap) (locs : List Loc) (ls : Array Slot), va_P (dC, dI) vwCl (wd_X7 AA CA uf um ut uh ug ur uw ux uy) H → va_D A (wd_X7 AA CA uf um ut uh ug ur uw ux uy) → va_S A s.heap H locs → lv_has ls 1 [(0, .ref (AA 0 0))] → W p l e (headSpec wsX7_searchOnce rm_X7_searchOnce).room s m args below meth c H locs 0 0 Q (F0 m 0 ls []) from hstart _ _ _ hP hD hS hl
  clear hS hP hD hD0
  intro H locs ls hP hD hS hl
  have hin_X7 : ∀ w ∈ wsX70, w ∈ wsX7_searchOnce := by decide +kernel
  have lk_0 := hts (.fieldLink RX7 146 "ForgettingLines" "searched" "Z") (by decide +kernel)
  have lk_1 := hts (.fieldLink RX7 36 "ForgettingLines" "search" "LForgettingLines$Search;") (by decide +kernel)
  have lk_2 := hts (.fieldLink RX7 10 "ForgettingLines" "machine" "LForgettingLines$Machine;") (by decide +kernel)
  have lk_3 := hts (.fieldLink RX7 30 "ForgettingLines" "target" "LForgettingLines$Place;") (by decide +kernel)
  unfold wp_X7_searchOnce at h
  refine lv_aload_n hx hb dX7_searchOnce_0 rfl (lv_at hl 0 rfl) ?_
  refine va_get (D := (dC, dI)) (ci := 6) (v := .int (uf.1 7)) (C := RX7) (T := TX7) (N := 8) hx hb hts hin_X7 hown hK hP 0 rfl rfl 7 (by decide) lk_0 (fun _ h9 => h9) rfl dX7_searchOnce_1 ?_
  refine lv_if_ne (tgt := 27) hx hb dX7_searchOnce_4 (by decide) (fun hc_1 => ?_) (fun hc_1 => ?_)
  · replace h := h.1 hc_1
    subst hQ
    exact W.vret hx hb hr (fun t ht hW => ⟨⟨(uf, ur), rfl, h, by rw [ht]; exact hP, hD⟩, hS.F ht⟩) hS.2.2 dX7_searchOnce_27
  · replace h := h.2 hc_1
    refine lv_aload_n hx hb dX7_searchOnce_7 rfl (lv_at hl 0 rfl) ?_
    refine va_get (D := (dC, dI)) (ci := 6) (v := .ref (AA 5 0)) (C := RX7) (T := TX7) (N := 8) hx hb hts hin_X7 hown hK hP 0 rfl rfl 4 (by decide) lk_1 (fun _ h9 => h9) rfl dX7_searchOnce_8 ?_
    refine lv_aload_n hx hb dX7_searchOnce_11 rfl (lv_at hl 0 rfl) ?_
    refine va_get (D := (dC, dI)) (ci := 6) (v := .ref (AA 1 0)) (C := RX7) (T := TX7) (N := 8) hx hb hts hin_X7 hown hK hP 0 rfl rfl 0 (by decide) lk_2 (fun _ h9 => h9) rfl dX7_searchOnce_12 ?_
    refine lv_aload_n hx hb dX7_searchOnce_15 rfl (lv_at hl 0 rfl) ?_
    refine va_get (D := (dC, dI)) (ci := 6) (v := .ref (AA 4 0)) (C := RX7) (T := TX7) (N := 8) hx hb hts hin_X7 hown hK hP 0 rfl rfl 3 (by decide) lk_3 (fun _ h9 => h9) rfl dX7_searchOnce_16 ?_
    have hPc := hP.sub (ws' := (wd_X2 (AA 5) (CA 5) ur ++ (wd_X0 (AA 1) (CA 1) um ++ (wd_X1 (AA 4) (CA 4) ug)))) [12, 13, 14, 15, 16, 17, 18, 2, 3, 4, 10, 11] rfl
    have hDc := hD.sub (ws' := (wd_X2 (AA 5) (CA 5) ur ++ (wd_X0 (AA 1) (CA 1) um ++ (wd_X1 (AA 4) (CA 4) ug)))) [12, 13, 14, 15, 16, 17, 18, 2, 3, 4, 10, 11] (by decide) rfl
    have hKc := hK.sub (tys' := (ty_X2 (CA 5) ++ (ty_X0 (CA 1) ++ (ty_X1 (CA 4))))) [7, 8, 9, 10, 11, 12, 1, 2, 6] rfl
    have hFc := va_free (wc := (wd_X2 (AA 5) (CA 5) ur ++ (wd_X0 (AA 1) (CA 1) um ++ (wd_X1 (AA 4) (CA 4) ug)))) hD hS hA [12, 13, 14, 15, 16, 17, 18, 2, 3, 4, 10, 11] rfl
    refine va_callv (va_runV (As := [.ref (AA 1 0), .ref (AA 4 0)]) (rest := []) ⟨hx, hb, hml, hown, hts⟩ (c_X2_run l dC dI (AA 5) (CA 5) (AA 1) (CA 1) (AA 4) (CA 4) H.size ur um ug _ h) (cwV 2 hts gX7_searchOnce_X2_run rfl rfl rfl (by decide +kernel) ⟨Nat.le_of_ble_eq_true rfl, Nat.le_of_ble_eq_true rfl⟩) ⟨fun a U g mk q => by obtain ⟨q0, q1, qP, qK, qD⟩ := q; exact ⟨q0, q1, qP, va_K.moved (u := U) (U := U.calling g mk a) (Vm.Alike.refl U.vm) qK, qD⟩, va_recv hKc hPc (ci := 2) (q0 := 0) rfl rfl, fun U hU hW => ⟨rfl, by rw [hU], by rw [hU]; exact hPc, va_K.moved hW.alike hKc, hDc.weaken (fun _ _ _ _ => trivial)⟩⟩ rfl rfl hl.1 rfl (lv_room (Nat.le_of_ble_eq_true rfl)) dX7_searchOnce_19 ⟨Nat.zero_le _, Nat.zero_le _⟩) hS (fun q _ h => hFc q h) hFc (fun zz t H1 locs ht hvm hw hB hz1 hk1 hS => ?_)
    obtain ⟨ur_2, rfl⟩ : ∃ z, z = zz := ⟨_, rfl⟩
    replace h := hw
    obtain ⟨hP1, hD1⟩ := hB
    rw [ht] at hP1
    obtain ⟨hP, hD⟩ := va_join (wr := [0, 1, 5, 6, 7, 8, 9, 19, 20, 21, 22, 23, 24, 25].filterMap (fun i => (wd_X7 AA CA uf um ut uh ug ur uw ux uy)[i]?)) (w1 := (wd_X2 (AA 5) (CA 5) ur_2 ++ (wd_X0 (AA 1) (CA 1) um ++ (wd_X1 (AA 4) (CA 4) ug)))) hP hD [12, 13, 14, 15, 16, 17, 18, 2, 3, 4, 10, 11] [0, 1, 5, 6, 7, 8, 9, 19, 20, 21, 22, 23, 24, 25] rfl rfl (by decide) (by decide) hk1 hFc hP1 hD1
    replace hP : va_P (dC, dI) vwCl (wd_X7 AA CA uf um ut uh ug ur_2 uw ux uy) H1 := (hP.sub [0, 1, 21, 22, 23, 2, 3, 4, 5, 6, 24, 25, 14, 15, 16, 17, 18, 19, 20, 7, 8, 9, 10, 11, 12, 13] rfl)
    replace hD : va_D A (wd_X7 AA CA uf um ut uh ug ur_2 uw ux uy) := (hD.sub [0, 1, 21, 22, 23, 2, 3, 4, 5, 6, 24, 25, 14, 15, 16, 17, 18, 19, 20, 7, 8, 9, 10, 11, 12, 13] (by decide) rfl)
    generalize H1 = H at hP hS ⊢
    refine lv_aload_n hx hb dX7_searchOnce_22 rfl (lv_at hl 0 rfl) ?_
    refine lv_iconst (v := 1) hx hb dX7_searchOnce_23 (by decide) ?_
    refine va_put (D := (dC, dI)) (ci := 6) (v := .int 1) (ty := .boolean) (C := RX7) (T := TX7) (N := 8) hx hb hts hin_X7 tyX7 tyX7_ok nmX7 hown hK hP hD hS 0 rfl rfl 7 (by decide) lk_0 (fun _ h9 => h9) rfl (by decide +kernel) rfl rfl (Nat.le_of_ble_eq_true rfl) dX7_searchOnce_24 (fun H locs hP hD hS => ?_)
    obtain ⟨uf_3, euf_3⟩ : ∃ z : Ob, z = fs_i uf 7 1 := ⟨_, rfl⟩
    replace h := h uf_3 euf_3
    replace hP : va_P (dC, dI) vwCl (wd_X7 AA CA uf_3 um ut uh ug ur_2 uw ux uy) H := by rw [euf_3]; exact hP
    replace hD : va_D A (wd_X7 AA CA uf_3 um ut uh ug ur_2 uw ux uy) := by rw [euf_3]; exact hD
    subst hQ
    exact W.vret hx hb hr (fun t ht hW => ⟨⟨(uf_3, ur_2), rfl, h, by rw [ht]; exact hP, hD⟩, hS.F ht⟩) hS.2.2 dX7_searchOnce_27
abbrev rm_X7_found : Room := { frames := 6, cells := 0, slots := 0, locals := 144 }
set_option maxHeartbeats 4000000 in
set_option maxRecDepth 100000 in
theorem c_X7_found (l : Launch) (dC : Nat → ClassId) (dI : Nat → Nat → Nat) (AA : Nat → Nat → Nat) (CA : Nat → Nat → ClassId) (sz : Nat) (uf : Ob) (um : Ob) (ut : Ob) (uh : Ob) (ug : Ob) (ur : Ob) (uw : Ob) (ux : Ob) (uy : Ob) (post : Int32 → Ob → Ob → Prop) (h : wp_X7_found uf um ug ur post) : Met l yX7_found wsX7_found rm_X7_found (va_Pc [.ref (AA 0 0)] (fun U => U.heap.size = sz ∧ va_P (dC, dI) vwCl (wd_X7 AA CA uf um ut uh ug ur uw ux uy) U.heap ∧ va_K (dC, dI) vwCl (ty_X7 CA) U ∧ va_D (fun _ => True) (wd_X7 AA CA uf um ut uh ug ur uw ux uy))) (va_Qi (fun (rr : Int32) (zz : Ob × Ob) => post rr zz.1 zz.2) (fun (zz : Ob × Ob) (t : State) => va_P (dC, dI) vwCl (wd_X7 AA CA zz.1 um ut uh ug zz.2 uw ux uy) t.heap ∧ va_D (va_A (wd_X7 AA CA uf um ut uh ug ur uw ux uy) sz) (wd_X7 AA CA zz.1 um ut uh ug zz.2 uw ux uy)) (va_A (wd_X7 AA CA uf um ut uh ug ur uw ux uy) sz)) 0 0 (va_A (wd_X7 AA CA uf um ut uh ug ur uw ux uy) sz) := by
  refine fl_ofW (cc := cX7_found) (maxL := 1) (ret := (some .int)) (by decide) rfl ?_
  intro p e s m args below meth c s₁ Q B hml hv hQ
  obtain ⟨hargs, hsz, hP, hK, hD0⟩ := hv
  have hx := B.exec
  have hb := B.bytes
  have hr := B.returns
  have hts := atoms_spec (ws := wsX7_found) B.pre
  have hown : s.vm.findClass RX7 = some m.cls := findClass_of_methodNamed B.named
  subst hsz
  have hD := hD0.self (sz := s.heap.size)
  generalize hAe : va_A (wd_X7 AA CA uf um ut uh ug ur uw ux uy) s.heap.size = A at hD hQ
  have hA : ∀ q : Nat, s.heap.size ≤ q → A q := fun q h => by rw [← hAe]; exact Or.inr h
  have hS : va_S A s.heap s.heap [] := va_S.rf
  have hl := lv_entry ([.ref (AA 0 0)]) (n := 1) (Nat.le_of_ble_eq_true rfl)
  refine W.eq (g2 := F0 m 0 ((lg_sl ([.ref (AA 0 0)]) ++ List.replicate (1 - (lg_sl ([.ref (AA 0 0)])).length) Slot.unset).toArray) []) (by rw [hargs]; exact lg_entry_eq m _ 1) ?_
  generalize (lg_sl ([.ref (AA 0 0)]) ++ List.replicate (1 - (lg_sl ([.ref (AA 0 0)])).length) Slot.unset).toArray = ls at hl ⊢
  have hl : lv_has ls 1 [(0, .ref (AA 0 0))] := hl
  suffices hstart : ∀ (H : Heap) (locs : List Loc) (ls : Array Slot), va_P (dC, dI) vwCl (wd_X7 AA CA uf um ut uh ug ur uw ux uy) H → va_D A (wd_X7 AA CA uf um ut uh ug ur uw ux uy) → va_S A s.heap H locs → lv_has ls 1 [(0, .ref (AA 0 0))] → W p l e (headSpec wsX7_found rm_X7_found).room s m args below meth c H locs 0 0 Q (F0 m 0 ls []) from hstart _ _ _ hP hD hS hl
  clear hS hP hD hD0
  intro H locs ls hP hD hS hl
  have hin_X2 : ∀ w ∈ wsX20, w ∈ wsX7_found := by decide +kernel
  have hin_X7 : ∀ w ∈ wsX70, w ∈ wsX7_found := by decide +kernel
  have lk_0 := hts (.fieldLink RX7 36 "ForgettingLines" "search" "LForgettingLines$Search;") (by decide +kernel)
  have lk_1 := hts (.fieldLink RX7 157 "ForgettingLines$Search" "spent" "Z") (by decide +kernel)
  have lk_2 := hts (.fieldLink RX7 160 "ForgettingLines$Search" "count" "I") (by decide +kernel)
  unfold wp_X7_found at h
  refine lv_aload_n hx hb dX7_found_0 rfl (lv_at hl 0 rfl) ?_
  have hPc := hP
  have hDc := hD
  have hKc := hK
  have hFc := va_free (wc := (wd_X7 AA CA uf um ut uh ug ur uw ux uy)) hD hS hA [0, 1, 2, 3, 4, 5, 6, 7, 8, 9, 10, 11, 12, 13, 14, 15, 16, 17, 18, 19, 20, 21, 22, 23, 24, 25] rfl
  refine va_callv (va_runV (As := []) (rest := []) ⟨hx, hb, hml, hown, hts⟩ (c_X7_searchOnce l dC dI AA CA H.size uf um ut uh ug ur uw ux uy _ h) (cwV 0 hts gX7_found_X7_searchOnce rfl rfl rfl (by decide +kernel) ⟨Nat.le_of_ble_eq_true rfl, Nat.le_of_ble_eq_true rfl⟩) ⟨fun a U g mk q => by obtain ⟨q0, q1, qP, qK, qD⟩ := q; exact ⟨q0, q1, qP, va_K.moved (u := U) (U := U.calling g mk a) (Vm.Alike.refl U.vm) qK, qD⟩, va_recv hKc hPc (ci := 6) (q0 := 0) rfl rfl, fun U hU hW => ⟨rfl, by rw [hU], by rw [hU]; exact hPc, va_K.moved hW.alike hKc, hDc.weaken (fun _ _ _ _ => trivial)⟩⟩ rfl rfl hl.1 rfl (lv_room (Nat.le_of_ble_eq_true rfl)) dX7_found_1 ⟨Nat.zero_le _, Nat.zero_le _⟩) hS (fun q _ h => hFc q h) hFc (fun zz t H1 locs ht hvm hw hB hz1 hk1 hS => ?_)
  obtain ⟨uf_1, ur_2⟩ := zz
  replace h := hw
  obtain ⟨hP1, hD1⟩ := hB
  rw [ht] at hP1
  replace hD : va_D A (wd_X7 AA CA uf_1 um ut uh ug ur_2 uw ux uy) := hD1.weaken (fun _ _ _ h9 => hFc _ h9)
  replace hP : va_P (dC, dI) vwCl (wd_X7 AA CA uf_1 um ut uh ug ur_2 uw ux uy) H1 := hP1
  generalize H1 = H at hP hS ⊢
  refine lv_aload_n hx hb dX7_found_4 rfl (lv_at hl 0 rfl) ?_
  refine va_get (D := (dC, dI)) (ci := 6) (v := .ref (AA 5 0)) (C := RX7) (T := TX7) (N := 8) hx hb hts hin_X7 hown hK hP 0 rfl rfl 4 (by decide) lk_0 (fun _ h9 => h9) rfl dX7_found_5 ?_
  refine va_get (D := (dC, dI)) (ci := 2) (v := .int (ur_2.1 1)) (C := RX2) (T := TX2) (N := 8) hx hb hts hin_X2 hown hK hP 12 rfl rfl 1 (by decide) lk_1 (fun _ h9 => h9) rfl dX7_found_8 ?_
  refine lv_if_eq (tgt := 19) hx hb dX7_found_11 (by decide) (fun hc_3 => ?_) (fun hc_3 => ?_)
  · replace h := h.1 hc_3
    refine lv_aload_n hx hb dX7_found_19 rfl (lv_at hl 0 rfl) ?_
    refine va_get (D := (dC, dI)) (ci := 6) (v := .ref (AA 5 0)) (C := RX7) (T := TX7) (N := 8) hx hb hts hin_X7 hown hK hP 0 rfl rfl 4 (by decide) lk_0 (fun _ h9 => h9) rfl dX7_found_20 ?_
    refine va_get (D := (dC, dI)) (ci := 2) (v := .int (ur_2.1 0)) (C := RX2) (T := TX2) (N := 8) hx hb hts hin_X2 hown hK hP 12 rfl rfl 0 (by decide) lk_2 (fun _ h9 => h9) rfl dX7_found_23 ?_
    subst hQ
    exact W.iret (v := (ur_2.1 0)) hx hb hr (fun t ht hW => ⟨⟨_, (uf_1, ur_2), rfl, h, by rw [ht]; exact hP, hD⟩, hS.F ht⟩) hS.2.2 dX7_found_26
  · replace h := h.2 hc_3
    refine lv_bipush (v := (-3)) hx hb dX7_found_14 (by decide) ?_
    refine lv_goto (tgt := 26) hx hb dX7_found_16 (by decide) ?_
    subst hQ
    exact W.iret (v := (-3)) hx hb hr (fun t ht hW => ⟨⟨_, (uf_1, ur_2), rfl, h, by rw [ht]; exact hP, hD⟩, hS.F ht⟩) hS.2.2 dX7_found_26
abbrev rm_X7_about : Room := { frames := 6, cells := 0, slots := 0, locals := 144 }
set_option maxHeartbeats 4000000 in
set_option maxRecDepth 100000 in
theorem c_X7_about (l : Launch) (dC : Nat → ClassId) (dI : Nat → Nat → Nat) (AA : Nat → Nat → Nat) (CA : Nat → Nat → ClassId) (sz : Nat) (uf : Ob) (um : Ob) (ut : Ob) (uh : Ob) (ug : Ob) (ur : Ob) (uw : Ob) (ux : Ob) (uy : Ob) (x1 : Int32) (x2 : Int32) (post : Int32 → Ob → Ob → Prop) (h : wp_X7_about uf um ug ur x1 x2 post) : Met l yX7_about wsX7_about rm_X7_about (va_Pc [.ref (AA 0 0), .int x1, .int x2] (fun U => U.heap.size = sz ∧ va_P (dC, dI) vwCl (wd_X7 AA CA uf um ut uh ug ur uw ux uy) U.heap ∧ va_K (dC, dI) vwCl (ty_X7 CA) U ∧ va_D (fun _ => True) (wd_X7 AA CA uf um ut uh ug ur uw ux uy))) (va_Qi (fun (rr : Int32) (zz : Ob × Ob) => post rr zz.1 zz.2) (fun (zz : Ob × Ob) (t : State) => va_P (dC, dI) vwCl (wd_X7 AA CA zz.1 um ut uh ug zz.2 uw ux uy) t.heap ∧ va_D (va_A (wd_X7 AA CA uf um ut uh ug ur uw ux uy) sz) (wd_X7 AA CA zz.1 um ut uh ug zz.2 uw ux uy)) (va_A (wd_X7 AA CA uf um ut uh ug ur uw ux uy) sz)) 0 0 (va_A (wd_X7 AA CA uf um ut uh ug ur uw ux uy) sz) := by
  refine fl_ofW (cc := cX7_about) (maxL := 3) (ret := (some .int)) (by decide) rfl ?_
  intro p e s m args below meth c s₁ Q B hml hv hQ
  obtain ⟨hargs, hsz, hP, hK, hD0⟩ := hv
  have hx := B.exec
  have hb := B.bytes
  have hr := B.returns
  have hts := atoms_spec (ws := wsX7_about) B.pre
  have hown : s.vm.findClass RX7 = some m.cls := findClass_of_methodNamed B.named
  subst hsz
  have hD := hD0.self (sz := s.heap.size)
  generalize hAe : va_A (wd_X7 AA CA uf um ut uh ug ur uw ux uy) s.heap.size = A at hD hQ
  have hA : ∀ q : Nat, s.heap.size ≤ q → A q := fun q h => by rw [← hAe]; exact Or.inr h
  have hS : va_S A s.heap s.heap [] := va_S.rf
  have hl := lv_entry ([.ref (AA 0 0), .int x1, .int x2]) (n := 3) (Nat.le_of_ble_eq_true rfl)
  refine W.eq (g2 := F0 m 0 ((lg_sl ([.ref (AA 0 0), .int x1, .int x2]) ++ List.replicate (3 - (lg_sl ([.ref (AA 0 0), .int x1, .int x2])).length) Slot.unset).toArray) []) (by rw [hargs]; exact lg_entry_eq m _ 3) ?_
  generalize (lg_sl ([.ref (AA 0 0), .int x1, .int x2]) ++ List.replicate (3 - (lg_sl ([.ref (AA 0 0), .int x1, .int x2])).length) Slot.unset).toArray = ls at hl ⊢
  have hl : lv_has ls 3 [(0, .ref (AA 0 0)), (1, .int x1), (2, .int x2)] := hl
  suffices hstart : ∀ (H : Heap) (locs : List Loc) (ls : Array Slot), va_P (dC, dI) vwCl (wd_X7 AA CA uf um ut uh ug ur uw ux uy) H → va_D A (wd_X7 AA CA uf um ut uh ug ur uw ux uy) → va_S A s.heap H locs → lv_has ls 3 [(0, .ref (AA 0 0)), (1, .int x1), (2, .int x2)] → W p l e (headSpec wsX7_about rm_X7_about).room s m args below meth c H locs 0 0 Q (F0 m 0 ls []) from hstart _ _ _ hP hD hS hl
  clear hS hP hD hD0
  intro H locs ls hP hD hS hl
  have hin_X2 : ∀ w ∈ wsX20, w ∈ wsX7_about := by decide +kernel
  have hin_X7 : ∀ w ∈ wsX70, w ∈ wsX7_about := by decide +kernel
  have lk_0 := hts (.fieldLink RX7 36 "ForgettingLines" "search" "LForgettingLines$Search;") (by decide +kernel)
  have lk_1 := hts (.fieldLink RX7 157 "ForgettingLines$Search" "spent" "Z") (by decide +kernel)
  have lk_2 := hts (.fieldLink RX7 160 "ForgettingLines$Search" "count" "I") (by decide +kernel)
  unfold wp_X7_about at h
  refine lv_iload_n hx hb dX7_about_0 rfl (lv_at hl 1 rfl) ?_
  refine lv_if_lt (tgt := 14) hx hb dX7_about_1 (by decide) (fun hc_1 => ?_) (fun hc_1 => ?_)
  · replace h := h.1 hc_1
    refine lv_iconst (v := (-1)) hx hb dX7_about_14 (by decide) ?_
    subst hQ
    exact W.iret (v := (-1)) hx hb hr (fun t ht hW => ⟨⟨_, (uf, ur), rfl, h, by rw [ht]; exact hP, hD⟩, hS.F ht⟩) hS.2.2 dX7_about_15
  · replace h := h.2 hc_1
    refine lv_iload_n hx hb dX7_about_4 rfl (lv_at hl 2 rfl) ?_
    refine lv_if_lt (tgt := 14) hx hb dX7_about_5 (by decide) (fun hc_2 => ?_) (fun hc_2 => ?_)
    · replace h := h.1 hc_2
      refine lv_iconst (v := (-1)) hx hb dX7_about_14 (by decide) ?_
      subst hQ
      exact W.iret (v := (-1)) hx hb hr (fun t ht hW => ⟨⟨_, (uf, ur), rfl, h, by rw [ht]; exact hP, hD⟩, hS.F ht⟩) hS.2.2 dX7_about_15
    · replace h := h.2 hc_2
      refine lv_iload_n hx hb dX7_about_8 rfl (lv_at hl 2 rfl) ?_
      refine lv_bipush (v := 6) hx hb dX7_about_9 (by decide) ?_
      refine lv_icmp_le (tgt := 16) hx hb dX7_about_11 (by decide) (fun hc_3 => ?_) (fun hc_3 => ?_)
      · replace h := h.1 hc_3
        refine lv_aload_n hx hb dX7_about_16 rfl (lv_at hl 0 rfl) ?_
        have hPc := hP
        have hDc := hD
        have hKc := hK
        have hFc := va_free (wc := (wd_X7 AA CA uf um ut uh ug ur uw ux uy)) hD hS hA [0, 1, 2, 3, 4, 5, 6, 7, 8, 9, 10, 11, 12, 13, 14, 15, 16, 17, 18, 19, 20, 21, 22, 23, 24, 25] rfl
        refine va_callv (va_runV (As := []) (rest := []) ⟨hx, hb, hml, hown, hts⟩ (c_X7_searchOnce l dC dI AA CA H.size uf um ut uh ug ur uw ux uy _ h) (cwV 0 hts gX7_about_X7_searchOnce rfl rfl rfl (by decide +kernel) ⟨Nat.le_of_ble_eq_true rfl, Nat.le_of_ble_eq_true rfl⟩) ⟨fun a U g mk q => by obtain ⟨q0, q1, qP, qK, qD⟩ := q; exact ⟨q0, q1, qP, va_K.moved (u := U) (U := U.calling g mk a) (Vm.Alike.refl U.vm) qK, qD⟩, va_recv hKc hPc (ci := 6) (q0 := 0) rfl rfl, fun U hU hW => ⟨rfl, by rw [hU], by rw [hU]; exact hPc, va_K.moved hW.alike hKc, hDc.weaken (fun _ _ _ _ => trivial)⟩⟩ rfl rfl hl.1 rfl (lv_room (Nat.le_of_ble_eq_true rfl)) dX7_about_17 ⟨Nat.zero_le _, Nat.zero_le _⟩) hS (fun q _ h => hFc q h) hFc (fun zz t H1 locs ht hvm hw hB hz1 hk1 hS => ?_)
        obtain ⟨uf_4, ur_5⟩ := zz
        replace h := hw
        obtain ⟨hP1, hD1⟩ := hB
        rw [ht] at hP1
        replace hD : va_D A (wd_X7 AA CA uf_4 um ut uh ug ur_5 uw ux uy) := hD1.weaken (fun _ _ _ h9 => hFc _ h9)
        replace hP : va_P (dC, dI) vwCl (wd_X7 AA CA uf_4 um ut uh ug ur_5 uw ux uy) H1 := hP1
        generalize H1 = H at hP hS ⊢
        refine lv_aload_n hx hb dX7_about_20 rfl (lv_at hl 0 rfl) ?_
        refine va_get (D := (dC, dI)) (ci := 6) (v := .ref (AA 5 0)) (C := RX7) (T := TX7) (N := 8) hx hb hts hin_X7 hown hK hP 0 rfl rfl 4 (by decide) lk_0 (fun _ h9 => h9) rfl dX7_about_21 ?_
        refine va_get (D := (dC, dI)) (ci := 2) (v := .int (ur_5.1 1)) (C := RX2) (T := TX2) (N := 8) hx hb hts hin_X2 hown hK hP 12 rfl rfl 1 (by decide) lk_1 (fun _ h9 => h9) rfl dX7_about_24 ?_
        refine lv_if_eq (tgt := 33) hx hb dX7_about_27 (by decide) (fun hc_6 => ?_) (fun hc_6 => ?_)
        · replace h := h.1 hc_6
          refine lv_iload_n hx hb dX7_about_33 rfl (lv_at hl 1 rfl) ?_
          refine lv_aload_n hx hb dX7_about_34 rfl (lv_at hl 0 rfl) ?_
          refine va_get (D := (dC, dI)) (ci := 6) (v := .ref (AA 5 0)) (C := RX7) (T := TX7) (N := 8) hx hb hts hin_X7 hown hK hP 0 rfl rfl 4 (by decide) lk_0 (fun _ h9 => h9) rfl dX7_about_35 ?_
          refine va_get (D := (dC, dI)) (ci := 2) (v := .int (ur_5.1 0)) (C := RX2) (T := TX2) (N := 8) hx hb hts hin_X2 hown hK hP 12 rfl rfl 0 (by decide) lk_2 (fun _ h9 => h9) rfl dX7_about_38 ?_
          refine lv_icmp_ge (tgt := 56) hx hb dX7_about_41 (by decide) (fun hc_7 => ?_) (fun hc_7 => ?_)
          · replace h := h.1 hc_7
            refine lv_iconst (v := (-1)) hx hb dX7_about_56 (by decide) ?_
            subst hQ
            exact W.iret (v := (-1)) hx hb hr (fun t ht hW => ⟨⟨_, (uf_4, ur_5), rfl, h, by rw [ht]; exact hP, hD⟩, hS.F ht⟩) hS.2.2 dX7_about_57
          · replace h := h.2 hc_7
            refine lv_aload_n hx hb dX7_about_44 rfl (lv_at hl 0 rfl) ?_
            refine va_get (D := (dC, dI)) (ci := 6) (v := .ref (AA 5 0)) (C := RX7) (T := TX7) (N := 8) hx hb hts hin_X7 hown hK hP 0 rfl rfl 4 (by decide) lk_0 (fun _ h9 => h9) rfl dX7_about_45 ?_
            refine lv_iload_n hx hb dX7_about_48 rfl (lv_at hl 1 rfl) ?_
            refine lv_iload_n hx hb dX7_about_49 rfl (lv_at hl 2 rfl) ?_
            have hPc := hP.sub (ws' := (wd_X2 (AA 5) (CA 5) ur_5)) [12, 13, 14, 15, 16, 17, 18] rfl
            have hDc := hD.sub (ws' := (wd_X2 (AA 5) (CA 5) ur_5)) [12, 13, 14, 15, 16, 17, 18] (by decide) rfl
            have hKc := hK.sub (tys' := (ty_X2 (CA 5))) [7, 8, 9, 10, 11, 12] rfl
            have hFc := va_free (wc := (wd_X2 (AA 5) (CA 5) ur_5)) hD hS hA [12, 13, 14, 15, 16, 17, 18] rfl
            refine va_calli (va_runV (As := [.int x1, .int x2]) (rest := []) ⟨hx, hb, hml, hown, hts⟩ (c_X2_fact l dC dI (AA 5) (CA 5) H.size ur_5 x1 x2 _ h) (cwV 2 hts gX7_about_X2_fact rfl rfl rfl (by decide +kernel) ⟨Nat.le_of_ble_eq_true rfl, Nat.le_of_ble_eq_true rfl⟩) ⟨fun a U g mk q => by obtain ⟨q0, q1, qP, qK, qD⟩ := q; exact ⟨q0, q1, qP, va_K.moved (u := U) (U := U.calling g mk a) (Vm.Alike.refl U.vm) qK, qD⟩, va_recv hKc hPc (ci := 2) (q0 := 0) rfl rfl, fun U hU hW => ⟨rfl, by rw [hU], by rw [hU]; exact hPc, va_K.moved hW.alike hKc, hDc.weaken (fun _ _ _ _ => trivial)⟩⟩ rfl rfl hl.1 rfl (lv_room (Nat.le_of_ble_eq_true rfl)) dX7_about_50 ⟨Nat.zero_le _, Nat.zero_le _⟩) hS (fun q _ h => hFc q h) hFc (fun r_8 zz t H1 locs ht hvm hw hB hz1 hk1 hS => ?_)
            replace h := hw
            obtain ⟨hP1, hD1⟩ := hB
            rw [ht] at hP1
            obtain ⟨hP, hD⟩ := va_join (wr := [0, 1, 2, 3, 4, 5, 6, 7, 8, 9, 10, 11, 19, 20, 21, 22, 23, 24, 25].filterMap (fun i => (wd_X7 AA CA uf_4 um ut uh ug ur_5 uw ux uy)[i]?)) (w1 := (wd_X2 (AA 5) (CA 5) ur_5)) hP hD [12, 13, 14, 15, 16, 17, 18] [0, 1, 2, 3, 4, 5, 6, 7, 8, 9, 10, 11, 19, 20, 21, 22, 23, 24, 25] rfl rfl (by decide) (by decide) hk1 hFc hP1 hD1
            replace hP : va_P (dC, dI) vwCl (wd_X7 AA CA uf_4 um ut uh ug ur_5 uw ux uy) H1 := (hP.sub [0, 1, 2, 3, 4, 5, 6, 7, 8, 9, 10, 11, 19, 20, 21, 22, 23, 24, 25, 12, 13, 14, 15, 16, 17, 18] rfl)
            replace hD : va_D A (wd_X7 AA CA uf_4 um ut uh ug ur_5 uw ux uy) := (hD.sub [0, 1, 2, 3, 4, 5, 6, 7, 8, 9, 10, 11, 19, 20, 21, 22, 23, 24, 25, 12, 13, 14, 15, 16, 17, 18] (by decide) rfl)
            generalize H1 = H at hP hS ⊢
            refine lv_goto (tgt := 57) hx hb dX7_about_53 (by decide) ?_
            subst hQ
            exact W.iret (v := r_8) hx hb hr (fun t ht hW => ⟨⟨_, (uf_4, ur_5), rfl, h, by rw [ht]; exact hP, hD⟩, hS.F ht⟩) hS.2.2 dX7_about_57
        · replace h := h.2 hc_6
          refine lv_bipush (v := (-3)) hx hb dX7_about_30 (by decide) ?_
          subst hQ
          exact W.iret (v := (-3)) hx hb hr (fun t ht hW => ⟨⟨_, (uf_4, ur_5), rfl, h, by rw [ht]; exact hP, hD⟩, hS.F ht⟩) hS.2.2 dX7_about_32
      · replace h := h.2 hc_3
        refine lv_iconst (v := (-1)) hx hb dX7_about_14 (by decide) ?_
        subst hQ
        exact W.iret (v := (-1)) hx hb hr (fun t ht hW => ⟨⟨_, (uf, ur), rfl, h, by rw [ht]; exact hP, hD⟩, hS.F ht⟩) hS.2.2 dX7_about_15
