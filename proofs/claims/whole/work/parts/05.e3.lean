abbrev rm_X8_ahead : Room := { frames := 2, cells := 0, slots := 0, locals := 47 }
set_option maxHeartbeats 4000000 in
set_option maxRecDepth 100000 in
theorem c_X8_ahead (l : Launch) (dC : Nat → ClassId) (dI : Nat → Nat → Nat) (a : Nat → Nat) (ca : Nat → ClassId) (sz : Nat) (u : Ob) (x1 : Int32) (x2 : Int32) (post : Ob → Prop) (h : wp_X8_ahead u x1 x2 post) : Met l yX8_ahead wsX8_ahead rm_X8_ahead (va_Pc [.ref (a 0), .int x1, .int x2] (fun U => U.heap.size = sz ∧ va_P (dC, dI) vwCl (wd_X8 a ca u) U.heap ∧ va_K (dC, dI) vwCl (ty_X8 ca) U ∧ va_D (fun _ => True) (wd_X8 a ca u))) (va_Qv post (fun (zz : Ob) (t : State) => va_P (dC, dI) vwCl (wd_X8 a ca zz) t.heap ∧ va_D (va_A (wd_X8 a ca u) sz) (wd_X8 a ca zz)) (va_A (wd_X8 a ca u) sz)) 0 0 (va_A (wd_X8 a ca u) sz) := by
  refine fl_ofW (cc := cX8_ahead) (maxL := 7) (ret := none) (by decide) rfl ?_
  intro p e s m args below meth c s₁ Q B hml hv hQ
  obtain ⟨hargs, hsz, hP, hK, hD0⟩ := hv
  have hx := B.exec
  have hb := B.bytes
  have hr := B.returns
  have hts := atoms_spec (ws := wsX8_ahead) B.pre
  have hown : s.vm.findClass RX8 = some m.cls := findClass_of_methodNamed B.named
  subst hsz
  have hD := hD0.self (sz := s.heap.size)
  generalize hAe : va_A (wd_X8 a ca u) s.heap.size = A at hD hQ
  have hA : ∀ q : Nat, s.heap.size ≤ q → A q := fun q h => by rw [← hAe]; exact Or.inr h
  have hS : va_S A s.heap s.heap [] := va_S.rf
  have hl := lv_entry ([.ref (a 0), .int x1, .int x2]) (n := 7) (Nat.le_of_ble_eq_true rfl)
  refine W.eq (g2 := F0 m 0 ((lg_sl ([.ref (a 0), .int x1, .int x2]) ++ List.replicate (7 - (lg_sl ([.ref (a 0), .int x1, .int x2])).length) Slot.unset).toArray) []) (by rw [hargs]; exact lg_entry_eq m _ 7) ?_
  generalize (lg_sl ([.ref (a 0), .int x1, .int x2]) ++ List.replicate (7 - (lg_sl ([.ref (a 0), .int x1, .int x2])).length) Slot.unset).toArray = ls at hl ⊢
  have hl : lv_has ls 7 [(0, .ref (a 0)), (1, .int x1), (2, .int x2)] := hl
  suffices hstart : ∀ (H : Heap) (locs : List Loc) (ls : Array Slot), va_P (dC, dI) vwCl (wd_X8 a ca u) H → va_D A (wd_X8 a ca u) → va_S A s.heap H locs → lv_has ls 7 [(0, .ref (a 0)), (1, .int x1), (2, .int x2)] → W p l e (headSpec wsX8_ahead rm_X8_ahead).room s m args below meth c H locs 0 0 Q (F0 m 0 ls []) from hstart _ _ _ hP hD hS hl
  clear hS hP hD hD0
  intro H locs ls hP hD hS hl
  have hin_X8 : ∀ w ∈ wsX80, w ∈ wsX8_ahead := by decide +kernel
  have lk_0 := hts (.fieldLink RX8 39 "ForgettingLinesModel" "stateOf" "[I") (by decide +kernel)
  have lk_1 := hts (.fieldLink RX8 17 "ForgettingLinesModel" "froms" "[I") (by decide +kernel)
  have lk_2 := hts (.fieldLink RX8 24 "ForgettingLinesModel" "lines" "[I") (by decide +kernel)
  have lk_3 := hts (.fieldLink RX8 27 "ForgettingLinesModel" "letters" "[I") (by decide +kernel)
  have lk_4 := hts (.fieldLink RX8 42 "ForgettingLinesModel" "sizes" "[I") (by decide +kernel)
  have lk_5 := hts (.fieldLink RX8 21 "ForgettingLinesModel" "acts" "[I") (by decide +kernel)
  have lk_6 := hts (.fieldLink RX8 13 "ForgettingLinesModel" "bags" "[Z") (by decide +kernel)
  have lk_7 := hts (.fieldLink RX8 45 "ForgettingLinesModel" "words" "[I") (by decide +kernel)
  unfold wp_X8_ahead at h
  refine lv_aload_n hx hb dX8_ahead_0 rfl (lv_at hl 0 rfl) ?_
  refine lv_iload_n hx hb dX8_ahead_1 rfl (lv_at hl 1 rfl) ?_
  refine lv_bipush (v := 80) hx hb dX8_ahead_2 (by decide) ?_
  have hPc := hP
  have hDc := hD
  have hKc := hK
  have hFc := va_free (wc := (wd_X8 a ca u)) hD hS hA [0, 1, 2, 3, 4, 5, 6, 7, 8, 9, 10, 11, 12, 13, 14, 15, 16, 17, 18, 19] rfl
  refine va_callv (va_runV (As := [.int x1, .int 80]) (rest := []) ⟨hx, hb, hml, hown, hts⟩ (c_X8_copy l dC dI a ca H.size u x1 80 _ h) (cwV 2 hts gX8_ahead_X8_copy rfl rfl rfl (by decide +kernel) ⟨Nat.le_of_ble_eq_true rfl, Nat.le_of_ble_eq_true rfl⟩) ⟨fun a U g mk q => by obtain ⟨q0, q1, qP, qK, qD⟩ := q; exact ⟨q0, q1, qP, va_K.moved (u := U) (U := U.calling g mk a) (Vm.Alike.refl U.vm) qK, qD⟩, va_recv hKc hPc (ci := 7) (q0 := 0) rfl rfl, fun U hU hW => ⟨rfl, by rw [hU], by rw [hU]; exact hPc, va_K.moved hW.alike hKc, hDc.weaken (fun _ _ _ _ => trivial)⟩⟩ rfl rfl hl.1 rfl (lv_room (Nat.le_of_ble_eq_true rfl)) dX8_ahead_4 ⟨Nat.zero_le _, Nat.zero_le _⟩) hS (fun q _ h => hFc q h) hFc (fun zz t H1 locs ht hvm hw hB hz1 hk1 hS => ?_)
  obtain ⟨u_1, rfl⟩ : ∃ z, z = zz := ⟨_, rfl⟩
  replace h := hw
  obtain ⟨hP1, hD1⟩ := hB
  rw [ht] at hP1
  replace hD : va_D A (wd_X8 a ca u_1) := hD1.weaken (fun _ _ _ h9 => hFc _ h9)
  replace hP : va_P (dC, dI) vwCl (wd_X8 a ca u_1) H1 := hP1
  generalize H1 = H at hP hS ⊢
  refine lv_aload_n hx hb dX8_ahead_7 rfl (lv_at hl 0 rfl) ?_
  refine va_get (D := (dC, dI)) (ci := 7) (v := .ref (a 14)) (C := RX8) (T := TX8) (N := 25) hx hb hts hin_X8 hown hK hP 0 rfl rfl 13 (by decide) lk_0 (fun _ h9 => h9) rfl dX8_ahead_8 ?_
  refine lv_bipush (v := 80) hx hb dX8_ahead_11 (by decide) ?_
  refine lv_aload_n hx hb dX8_ahead_13 rfl (lv_at hl 0 rfl) ?_
  refine va_get (D := (dC, dI)) (ci := 7) (v := .ref (a 4)) (C := RX8) (T := TX8) (N := 25) hx hb hts hin_X8 hown hK hP 0 rfl rfl 3 (by decide) lk_1 (fun _ h9 => h9) rfl dX8_ahead_14 ?_
  refine lv_iload_n hx hb dX8_ahead_17 rfl (lv_at hl 2 rfl) ?_
  obtain ⟨hi_2, h⟩ := h
  refine va_iald (D := (dC, dI)) (cl := vwCl) (i := x2) hx hb hK hP 2 1 rfl rfl hi_2 dX8_ahead_18 ?_
  obtain ⟨hi_3, h⟩ := h
  refine va_iast (D := (dC, dI)) (cl := vwCl) (i := 80) hx hb hK hP hD hS 9 8 rfl rfl hi_3 dX8_ahead_19 (fun H locs hP hD hS => ?_)
  obtain ⟨u_4, eu_4⟩ : ∃ z : Ob, z = fs_a u_1 13 (upd (u_1.2.1 13) (80 : Int32).toNatClampNeg (u_1.2.1 3 x2.toNatClampNeg)) := ⟨_, rfl⟩
  replace h := h u_4 eu_4
  replace hP : va_P (dC, dI) vwCl (wd_X8 a ca u_4) H := by rw [eu_4]; exact hP
  replace hD : va_D A (wd_X8 a ca u_4) := by rw [eu_4]; exact hD
  refine lv_aload_n hx hb dX8_ahead_20 rfl (lv_at hl 0 rfl) ?_
  refine va_get (D := (dC, dI)) (ci := 7) (v := .ref (a 6)) (C := RX8) (T := TX8) (N := 25) hx hb hts hin_X8 hown hK hP 0 rfl rfl 5 (by decide) lk_2 (fun _ h9 => h9) rfl dX8_ahead_21 ?_
  refine lv_iload_n hx hb dX8_ahead_24 rfl (lv_at hl 2 rfl) ?_
  obtain ⟨hi_5, h⟩ := h
  refine va_iald (D := (dC, dI)) (cl := vwCl) (i := x2) hx hb hK hP 4 3 rfl rfl hi_5 dX8_ahead_25 ?_
  refine lv_istore_n (lv' := [(3, .int (u_4.2.1 5 x2.toNatClampNeg)), (0, .ref (a 0)), (1, .int x1), (2, .int x2)]) hx hb dX8_ahead_26 rfl hl (by decide) rfl (fun ls hl => ?_)
  refine lv_aload_n hx hb dX8_ahead_27 rfl (lv_at hl 1 rfl) ?_
  refine va_get (D := (dC, dI)) (ci := 7) (v := .ref (a 7)) (C := RX8) (T := TX8) (N := 25) hx hb hts hin_X8 hown hK hP 0 rfl rfl 6 (by decide) lk_3 (fun _ h9 => h9) rfl dX8_ahead_28 ?_
  refine lv_iload_n hx hb dX8_ahead_31 rfl (lv_at hl 3 rfl) ?_
  obtain ⟨hi_6, h⟩ := h
  refine va_iald (D := (dC, dI)) (cl := vwCl) (i := x2) hx hb hK hP 5 4 rfl rfl hi_6 dX8_ahead_32 ?_
  refine lv_istore (lv' := [(4, .int (u_4.2.1 6 x2.toNatClampNeg)), (3, .int (u_4.2.1 5 x2.toNatClampNeg)), (0, .ref (a 0)), (1, .int x1), (2, .int x2)]) hx hb dX8_ahead_33 hl (by decide) rfl (fun ls hl => ?_)
  refine lv_aload_n hx hb dX8_ahead_35 rfl (lv_at hl 2 rfl) ?_
  refine va_get (D := (dC, dI)) (ci := 7) (v := .ref (a 15)) (C := RX8) (T := TX8) (N := 25) hx hb hts hin_X8 hown hK hP 0 rfl rfl 14 (by decide) lk_4 (fun _ h9 => h9) rfl dX8_ahead_36 ?_
  refine lv_sipush (v := 160) hx hb dX8_ahead_39 (by decide) ?_
  refine lv_iload_n hx hb dX8_ahead_42 rfl (lv_at hl 1 rfl) ?_
  refine lv_iadd hx hb dX8_ahead_43 ?_
  obtain ⟨hi_7, h⟩ := h
  refine va_iald (D := (dC, dI)) (cl := vwCl) (i := (160 + (u_4.2.1 5 x2.toNatClampNeg))) hx hb hK hP 10 9 rfl rfl hi_7 dX8_ahead_44 ?_
  refine lv_istore (lv' := [(5, .int (u_4.2.1 14 (160 + (u_4.2.1 5 x2.toNatClampNeg)).toNatClampNeg)), (4, .int (u_4.2.1 6 x2.toNatClampNeg)), (3, .int (u_4.2.1 5 x2.toNatClampNeg)), (0, .ref (a 0)), (1, .int x1), (2, .int x2)]) hx hb dX8_ahead_45 hl (by decide) rfl (fun ls hl => ?_)
  refine lv_aload_n hx hb dX8_ahead_47 rfl (lv_at hl 3 rfl) ?_
  refine va_get (D := (dC, dI)) (ci := 7) (v := .ref (a 5)) (C := RX8) (T := TX8) (N := 25) hx hb hts hin_X8 hown hK hP 0 rfl rfl 4 (by decide) lk_5 (fun _ h9 => h9) rfl dX8_ahead_48 ?_
  refine lv_iload_n hx hb dX8_ahead_51 rfl (lv_at hl 5 rfl) ?_
  obtain ⟨hi_8, h⟩ := h
  refine va_iald (D := (dC, dI)) (cl := vwCl) (i := x2) hx hb hK hP 3 2 rfl rfl hi_8 dX8_ahead_52 ?_
  refine lv_iconst (v := 2) hx hb dX8_ahead_53 (by decide) ?_
  refine lv_icmp_ne (tgt := 91) hx hb dX8_ahead_54 (by decide) (fun hc_9 => ?_) (fun hc_9 => ?_)
  · replace h := h.1 hc_9
    refine lv_aload_n hx hb dX8_ahead_91 rfl (lv_at hl 3 rfl) ?_
    refine va_get (D := (dC, dI)) (ci := 7) (v := .ref (a 5)) (C := RX8) (T := TX8) (N := 25) hx hb hts hin_X8 hown hK hP 0 rfl rfl 4 (by decide) lk_5 (fun _ h9 => h9) rfl dX8_ahead_92 ?_
    refine lv_iload_n hx hb dX8_ahead_95 rfl (lv_at hl 5 rfl) ?_
    obtain ⟨hi_10, h⟩ := h
    refine va_iald (D := (dC, dI)) (cl := vwCl) (i := x2) hx hb hK hP 3 2 rfl rfl hi_10 dX8_ahead_96 ?_
    refine lv_iconst (v := 1) hx hb dX8_ahead_97 (by decide) ?_
    refine lv_icmp_ne (tgt := 171) hx hb dX8_ahead_98 (by decide) (fun hc_11 => ?_) (fun hc_11 => ?_)
    · replace h := h.1 hc_11
      subst hQ
      exact W.vret hx hb hr (fun t ht hW => ⟨⟨u_4, rfl, h, by rw [ht]; exact hP, hD⟩, hS.F ht⟩) hS.2.2 dX8_ahead_171
    · replace h := h.2 hc_11
      refine lv_aload_n hx hb dX8_ahead_101 rfl (lv_at hl 3 rfl) ?_
      refine va_get (D := (dC, dI)) (ci := 7) (v := .ref (a 2)) (C := RX8) (T := TX8) (N := 25) hx hb hts hin_X8 hown hK hP 0 rfl rfl 1 (by decide) lk_6 (fun _ h9 => h9) rfl dX8_ahead_102 ?_
      refine lv_iload_n hx hb dX8_ahead_105 rfl (lv_at hl 2 rfl) ?_
      obtain ⟨hi_12, h⟩ := h
      refine va_zald (D := (dC, dI)) (cl := vwCl) (i := (u_4.2.1 5 x2.toNatClampNeg)) hx hb hK hP 1 0 rfl rfl hi_12 dX8_ahead_106 ?_
      refine jn1_ind (GG := (fun (w_14 : Int32) => ∀ (H : Heap) (locs : List Loc) (ls : Array Slot), va_P (dC, dI) vwCl (wd_X8 a ca u_4) H → va_D A (wd_X8 a ca u_4) → va_S A s.heap H locs → lv_has ls 7 [(3, .int (u_4.2.1 5 x2.toNatClampNeg)), (0, .ref (a 0))] → W p l e (headSpec wsX8_ahead rm_X8_ahead).room s m args below meth c H locs 0 0 Q (F0 m 155 ls [.int w_14]))) h (fun w_14 h H locs ls hP hD hS hl => ?_) (fun JJ_13 ih_JJ_13 h => ?_)
      · refine lv_istore (lv' := [(6, .int w_14), (3, .int (u_4.2.1 5 x2.toNatClampNeg)), (0, .ref (a 0))]) hx hb dX8_ahead_155 hl (by decide) rfl (fun ls hl => ?_)
        refine lv_iload hx hb dX8_ahead_157 (lv_at hl 0 rfl) ?_
        refine lv_if_lt (tgt := 171) hx hb dX8_ahead_159 (by decide) (fun hc_15 => ?_) (fun hc_15 => ?_)
        · replace h := h.1 hc_15
          subst hQ
          exact W.vret hx hb hr (fun t ht hW => ⟨⟨u_4, rfl, h, by rw [ht]; exact hP, hD⟩, hS.F ht⟩) hS.2.2 dX8_ahead_171
        · replace h := h.2 hc_15
          refine lv_aload_n hx hb dX8_ahead_162 rfl (lv_at hl 2 rfl) ?_
          refine lv_bipush (v := 80) hx hb dX8_ahead_163 (by decide) ?_
          refine lv_iload_n hx hb dX8_ahead_165 rfl (lv_at hl 1 rfl) ?_
          refine lv_iload hx hb dX8_ahead_166 (lv_at hl 0 rfl) ?_
          have hPc := hP
          have hDc := hD
          have hKc := hK
          have hFc := va_free (wc := (wd_X8 a ca u_4)) hD hS hA [0, 1, 2, 3, 4, 5, 6, 7, 8, 9, 10, 11, 12, 13, 14, 15, 16, 17, 18, 19] rfl
          refine va_callv (va_runV (As := [.int 80, .int (u_4.2.1 5 x2.toNatClampNeg), .int w_14]) (rest := []) ⟨hx, hb, hml, hown, hts⟩ (c_X8_takeOut l dC dI a ca H.size u_4 80 (u_4.2.1 5 x2.toNatClampNeg) w_14 _ h) (cwV 3 hts gX8_ahead_X8_takeOut rfl rfl rfl (by decide +kernel) ⟨Nat.le_of_ble_eq_true rfl, Nat.le_of_ble_eq_true rfl⟩) ⟨fun a U g mk q => by obtain ⟨q0, q1, qP, qK, qD⟩ := q; exact ⟨q0, q1, qP, va_K.moved (u := U) (U := U.calling g mk a) (Vm.Alike.refl U.vm) qK, qD⟩, va_recv hKc hPc (ci := 7) (q0 := 0) rfl rfl, fun U hU hW => ⟨rfl, by rw [hU], by rw [hU]; exact hPc, va_K.moved hW.alike hKc, hDc.weaken (fun _ _ _ _ => trivial)⟩⟩ rfl rfl hl.1 rfl (lv_room (Nat.le_of_ble_eq_true rfl)) dX8_ahead_168 ⟨Nat.zero_le _, Nat.zero_le _⟩) hS (fun q _ h => hFc q h) hFc (fun zz t H1 locs ht hvm hw hB hz1 hk1 hS => ?_)
          obtain ⟨u_16, rfl⟩ : ∃ z, z = zz := ⟨_, rfl⟩
          replace h := hw
          obtain ⟨hP1, hD1⟩ := hB
          rw [ht] at hP1
          replace hD : va_D A (wd_X8 a ca u_16) := hD1.weaken (fun _ _ _ h9 => hFc _ h9)
          replace hP : va_P (dC, dI) vwCl (wd_X8 a ca u_16) H1 := hP1
          generalize H1 = H at hP hS ⊢
          subst hQ
          exact W.vret hx hb hr (fun t ht hW => ⟨⟨u_16, rfl, h, by rw [ht]; exact hP, hD⟩, hS.F ht⟩) hS.2.2 dX8_ahead_171
      · refine lv_if_eq (tgt := 122) hx hb dX8_ahead_107 (by decide) (fun hc_17 => ?_) (fun hc_17 => ?_)
        · replace h := h.1 hc_17
          refine lv_iload hx hb dX8_ahead_122 (lv_at hl 0 rfl) ?_
          refine lv_if_le (tgt := 154) hx hb dX8_ahead_124 (by decide) (fun hc_18 => ?_) (fun hc_18 => ?_)
          · replace h := h.1 hc_18
            refine lv_iconst (v := (-1)) hx hb dX8_ahead_154 (by decide) ?_
            exact ih_JJ_13 _ h _ _ _ hP hD hS (lv_sub hl [2, 3] rfl)
          · replace h := h.2 hc_18
            refine lv_aload_n hx hb dX8_ahead_127 rfl (lv_at hl 3 rfl) ?_
            refine va_get (D := (dC, dI)) (ci := 7) (v := .ref (a 16)) (C := RX8) (T := TX8) (N := 25) hx hb hts hin_X8 hown hK hP 0 rfl rfl 15 (by decide) lk_7 (fun _ h9 => h9) rfl dX8_ahead_128 ?_
            refine lv_bipush (v := 80) hx hb dX8_ahead_131 (by decide) ?_
            refine lv_iload_n hx hb dX8_ahead_133 rfl (lv_at hl 2 rfl) ?_
            refine lv_iload hx hb dX8_ahead_134 (lv_at hl 0 rfl) ?_
            refine lv_iconst (v := 1) hx hb dX8_ahead_136 (by decide) ?_
            refine lv_isub hx hb dX8_ahead_137 ?_
            have hFc := fl_freeN hS hA
            refine va_calli (va_runS (As := [.int 80, .int (u_4.2.1 5 x2.toNatClampNeg), .int ((u_4.2.1 14 (160 + (u_4.2.1 5 x2.toNatClampNeg)).toNatClampNeg) - 1)]) (rest := [.ref (a 16)]) ⟨hx, hb, hml, hown, hts⟩ (c_X8_spot l H.size 80 (u_4.2.1 5 x2.toNatClampNeg) ((u_4.2.1 14 (160 + (u_4.2.1 5 x2.toNatClampNeg)).toNatClampNeg) - 1) _ h) (va_cwS 3 hts gX8_ahead_X8_spot rfl rfl rfl (by decide +kernel) ⟨Nat.le_of_ble_eq_true rfl, Nat.le_of_ble_eq_true rfl⟩) ⟨fun a U g mk q => by obtain ⟨q0, q1⟩ := q; exact ⟨q0, q1⟩, fun U hU hW => ⟨rfl, congrArg Array.size hU⟩⟩ rfl rfl hl.1 rfl (lv_room (Nat.le_of_ble_eq_true rfl)) dX8_ahead_138 ⟨Nat.zero_le _, Nat.zero_le _⟩) hS (fun q _ h => hFc q h) hFc (fun r_19 zz t H1 locs ht hvm hw hB hz1 hk1 hS => ?_)
            replace hP := fl_keep hP hk1
            replace h := hw
            generalize H1 = H at hP hS ⊢
            obtain ⟨hi_20, h⟩ := h
            refine va_iald (D := (dC, dI)) (cl := vwCl) (i := r_19) hx hb hK hP 11 10 rfl rfl hi_20 dX8_ahead_141 ?_
            refine lv_iload hx hb dX8_ahead_142 (lv_at hl 1 rfl) ?_
            refine lv_icmp_ne (tgt := 154) hx hb dX8_ahead_144 (by decide) (fun hc_21 => ?_) (fun hc_21 => ?_)
            · replace h := h.1 hc_21
              refine lv_iconst (v := (-1)) hx hb dX8_ahead_154 (by decide) ?_
              exact ih_JJ_13 _ h _ _ _ hP hD hS (lv_sub hl [2, 3] rfl)
            · replace h := h.2 hc_21
              refine lv_iload hx hb dX8_ahead_147 (lv_at hl 0 rfl) ?_
              refine lv_iconst (v := 1) hx hb dX8_ahead_149 (by decide) ?_
              refine lv_isub hx hb dX8_ahead_150 ?_
              refine lv_goto (tgt := 155) hx hb dX8_ahead_151 (by decide) ?_
              exact ih_JJ_13 _ h _ _ _ hP hD hS (lv_sub hl [2, 3] rfl)
        · replace h := h.2 hc_17
          refine lv_aload_n hx hb dX8_ahead_110 rfl (lv_at hl 3 rfl) ?_
          refine lv_bipush (v := 80) hx hb dX8_ahead_111 (by decide) ?_
          refine lv_iload_n hx hb dX8_ahead_113 rfl (lv_at hl 2 rfl) ?_
          refine lv_iload hx hb dX8_ahead_114 (lv_at hl 1 rfl) ?_
          have hPc := hP
          have hDc := hD
          have hKc := hK
          have hFc := va_free (wc := (wd_X8 a ca u_4)) hD hS hA [0, 1, 2, 3, 4, 5, 6, 7, 8, 9, 10, 11, 12, 13, 14, 15, 16, 17, 18, 19] rfl
          refine va_calli (va_runV (As := [.int 80, .int (u_4.2.1 5 x2.toNatClampNeg), .int (u_4.2.1 6 x2.toNatClampNeg)]) (rest := []) ⟨hx, hb, hml, hown, hts⟩ (c_X8_firstOf l dC dI a ca H.size u_4 80 (u_4.2.1 5 x2.toNatClampNeg) (u_4.2.1 6 x2.toNatClampNeg) _ h) (cwV 3 hts gX8_ahead_X8_firstOf rfl rfl rfl (by decide +kernel) ⟨Nat.le_of_ble_eq_true rfl, Nat.le_of_ble_eq_true rfl⟩) ⟨fun a U g mk q => by obtain ⟨q0, q1, qP, qK, qD⟩ := q; exact ⟨q0, q1, qP, va_K.moved (u := U) (U := U.calling g mk a) (Vm.Alike.refl U.vm) qK, qD⟩, va_recv hKc hPc (ci := 7) (q0 := 0) rfl rfl, fun U hU hW => ⟨rfl, by rw [hU], by rw [hU]; exact hPc, va_K.moved hW.alike hKc, hDc.weaken (fun _ _ _ _ => trivial)⟩⟩ rfl rfl hl.1 rfl (lv_room (Nat.le_of_ble_eq_true rfl)) dX8_ahead_116 ⟨Nat.zero_le _, Nat.zero_le _⟩) hS (fun q _ h => hFc q h) hFc (fun r_22 zz t H1 locs ht hvm hw hB hz1 hk1 hS => ?_)
          replace h := hw
          obtain ⟨hP1, hD1⟩ := hB
          rw [ht] at hP1
          replace hD : va_D A (wd_X8 a ca u_4) := hD1.weaken (fun _ _ _ h9 => hFc _ h9)
          replace hP : va_P (dC, dI) vwCl (wd_X8 a ca u_4) H1 := hP1
          generalize H1 = H at hP hS ⊢
          refine lv_goto (tgt := 155) hx hb dX8_ahead_119 (by decide) ?_
          exact ih_JJ_13 _ h _ _ _ hP hD hS (lv_sub hl [2, 3] rfl)
  · replace h := h.2 hc_9
    refine lv_aload_n hx hb dX8_ahead_57 rfl (lv_at hl 3 rfl) ?_
    refine lv_bipush (v := 80) hx hb dX8_ahead_58 (by decide) ?_
    refine lv_iload_n hx hb dX8_ahead_60 rfl (lv_at hl 2 rfl) ?_
    refine lv_aload_n hx hb dX8_ahead_61 rfl (lv_at hl 3 rfl) ?_
    refine va_get (D := (dC, dI)) (ci := 7) (v := .ref (a 2)) (C := RX8) (T := TX8) (N := 25) hx hb hts hin_X8 hown hK hP 0 rfl rfl 1 (by decide) lk_6 (fun _ h9 => h9) rfl dX8_ahead_62 ?_
    refine lv_iload_n hx hb dX8_ahead_65 rfl (lv_at hl 2 rfl) ?_
    obtain ⟨hi_23, h⟩ := h
    refine va_zald (D := (dC, dI)) (cl := vwCl) (i := (u_4.2.1 5 x2.toNatClampNeg)) hx hb hK hP 1 0 rfl rfl hi_23 dX8_ahead_66 ?_
    refine jn1_ind (GG := (fun (w_25 : Int32) => ∀ (H : Heap) (locs : List Loc) (ls : Array Slot), va_P (dC, dI) vwCl (wd_X8 a ca u_4) H → va_D A (wd_X8 a ca u_4) → va_S A s.heap H locs → lv_has ls 7 [(4, .int (u_4.2.1 6 x2.toNatClampNeg))] → W p l e (headSpec wsX8_ahead rm_X8_ahead).room s m args below meth c H locs 0 0 Q (F0 m 83 ls [.int w_25, .int (u_4.2.1 5 x2.toNatClampNeg), .int 80, .ref (a 0)]))) h (fun w_25 h H locs ls hP hD hS hl => ?_) (fun JJ_24 ih_JJ_24 h => ?_)
    · refine lv_iload hx hb dX8_ahead_83 (lv_at hl 0 rfl) ?_
      have hPc := hP
      have hDc := hD
      have hKc := hK
      have hFc := va_free (wc := (wd_X8 a ca u_4)) hD hS hA [0, 1, 2, 3, 4, 5, 6, 7, 8, 9, 10, 11, 12, 13, 14, 15, 16, 17, 18, 19] rfl
      refine va_callv (va_runV (As := [.int 80, .int (u_4.2.1 5 x2.toNatClampNeg), .int w_25, .int (u_4.2.1 6 x2.toNatClampNeg)]) (rest := []) ⟨hx, hb, hml, hown, hts⟩ (c_X8_putIn l dC dI a ca H.size u_4 80 (u_4.2.1 5 x2.toNatClampNeg) w_25 (u_4.2.1 6 x2.toNatClampNeg) _ h) (cwV 4 hts gX8_ahead_X8_putIn rfl rfl rfl (by decide +kernel) ⟨Nat.le_of_ble_eq_true rfl, Nat.le_of_ble_eq_true rfl⟩) ⟨fun a U g mk q => by obtain ⟨q0, q1, qP, qK, qD⟩ := q; exact ⟨q0, q1, qP, va_K.moved (u := U) (U := U.calling g mk a) (Vm.Alike.refl U.vm) qK, qD⟩, va_recv hKc hPc (ci := 7) (q0 := 0) rfl rfl, fun U hU hW => ⟨rfl, by rw [hU], by rw [hU]; exact hPc, va_K.moved hW.alike hKc, hDc.weaken (fun _ _ _ _ => trivial)⟩⟩ rfl rfl hl.1 rfl (lv_room (Nat.le_of_ble_eq_true rfl)) dX8_ahead_85 ⟨Nat.zero_le _, Nat.zero_le _⟩) hS (fun q _ h => hFc q h) hFc (fun zz t H1 locs ht hvm hw hB hz1 hk1 hS => ?_)
      obtain ⟨u_26, rfl⟩ : ∃ z, z = zz := ⟨_, rfl⟩
      replace h := hw
      obtain ⟨hP1, hD1⟩ := hB
      rw [ht] at hP1
      replace hD : va_D A (wd_X8 a ca u_26) := hD1.weaken (fun _ _ _ h9 => hFc _ h9)
      replace hP : va_P (dC, dI) vwCl (wd_X8 a ca u_26) H1 := hP1
      generalize H1 = H at hP hS ⊢
      refine lv_goto (tgt := 171) hx hb dX8_ahead_88 (by decide) ?_
      subst hQ
      exact W.vret hx hb hr (fun t ht hW => ⟨⟨u_26, rfl, h, by rw [ht]; exact hP, hD⟩, hS.F ht⟩) hS.2.2 dX8_ahead_171
    · refine lv_if_eq (tgt := 82) hx hb dX8_ahead_67 (by decide) (fun hc_27 => ?_) (fun hc_27 => ?_)
      · replace h := h.1 hc_27
        refine lv_iconst (v := 0) hx hb dX8_ahead_82 (by decide) ?_
        exact ih_JJ_24 _ h _ _ _ hP hD hS (lv_sub hl [1] rfl)
      · replace h := h.2 hc_27
        refine lv_aload_n hx hb dX8_ahead_70 rfl (lv_at hl 3 rfl) ?_
        refine lv_bipush (v := 80) hx hb dX8_ahead_71 (by decide) ?_
        refine lv_iload_n hx hb dX8_ahead_73 rfl (lv_at hl 2 rfl) ?_
        refine lv_iload hx hb dX8_ahead_74 (lv_at hl 1 rfl) ?_
        have hPc := hP
        have hDc := hD
        have hKc := hK
        have hFc := va_free (wc := (wd_X8 a ca u_4)) hD hS hA [0, 1, 2, 3, 4, 5, 6, 7, 8, 9, 10, 11, 12, 13, 14, 15, 16, 17, 18, 19] rfl
        refine va_calli (va_runV (As := [.int 80, .int (u_4.2.1 5 x2.toNatClampNeg), .int (u_4.2.1 6 x2.toNatClampNeg)]) (rest := [.int (u_4.2.1 5 x2.toNatClampNeg), .int 80, .ref (a 0)]) ⟨hx, hb, hml, hown, hts⟩ (c_X8_inOrder l dC dI a ca H.size u_4 80 (u_4.2.1 5 x2.toNatClampNeg) (u_4.2.1 6 x2.toNatClampNeg) _ h) (cwV 3 hts gX8_ahead_X8_inOrder rfl rfl rfl (by decide +kernel) ⟨Nat.le_of_ble_eq_true rfl, Nat.le_of_ble_eq_true rfl⟩) ⟨fun a U g mk q => by obtain ⟨q0, q1, qP, qK, qD⟩ := q; exact ⟨q0, q1, qP, va_K.moved (u := U) (U := U.calling g mk a) (Vm.Alike.refl U.vm) qK, qD⟩, va_recv hKc hPc (ci := 7) (q0 := 0) rfl rfl, fun U hU hW => ⟨rfl, by rw [hU], by rw [hU]; exact hPc, va_K.moved hW.alike hKc, hDc.weaken (fun _ _ _ _ => trivial)⟩⟩ rfl rfl hl.1 rfl (lv_room (Nat.le_of_ble_eq_true rfl)) dX8_ahead_76 ⟨Nat.zero_le _, Nat.zero_le _⟩) hS (fun q _ h => hFc q h) hFc (fun r_28 zz t H1 locs ht hvm hw hB hz1 hk1 hS => ?_)
        replace h := hw
        obtain ⟨hP1, hD1⟩ := hB
        rw [ht] at hP1
        replace hD : va_D A (wd_X8 a ca u_4) := hD1.weaken (fun _ _ _ h9 => hFc _ h9)
        replace hP : va_P (dC, dI) vwCl (wd_X8 a ca u_4) H1 := hP1
        generalize H1 = H at hP hS ⊢
        refine lv_goto (tgt := 83) hx hb dX8_ahead_79 (by decide) ?_
        exact ih_JJ_24 _ h _ _ _ hP hD hS (lv_sub hl [1] rfl)
abbrev rm_X8_isNew : Room := { frames := 2, cells := 0, slots := 0, locals := 48 }
set_option maxHeartbeats 4000000 in
set_option maxRecDepth 100000 in
theorem c_X8_isNew (l : Launch) (dC : Nat → ClassId) (dI : Nat → Nat → Nat) (a : Nat → Nat) (ca : Nat → ClassId) (sz : Nat) (u : Ob) (post : Int32 → Prop) (h : wp_X8_isNew u post) : Met l yX8_isNew wsX8_isNew rm_X8_isNew (va_Pc [.ref (a 0)] (fun U => U.heap.size = sz ∧ va_P (dC, dI) vwCl (wd_X8 a ca u) U.heap ∧ va_K (dC, dI) vwCl (ty_X8 ca) U ∧ va_D (fun _ => True) (wd_X8 a ca u))) (va_Qi (fun (rr : Int32) (_ : Unit) => post rr) (fun (zz : Unit) (t : State) => va_P (dC, dI) vwCl (wd_X8 a ca u) t.heap ∧ va_D (va_A (wd_X8 a ca u) sz) (wd_X8 a ca u)) (va_A (wd_X8 a ca u) sz)) 0 0 (va_A (wd_X8 a ca u) sz) := by
  refine fl_ofW (cc := cX8_isNew) (maxL := 3) (ret := (some .boolean)) (by decide) rfl ?_
  intro p e s m args below meth c s₁ Q B hml hv hQ
  obtain ⟨hargs, hsz, hP, hK, hD0⟩ := hv
  have hx := B.exec
  have hb := B.bytes
  have hr := B.returns
  have hts := atoms_spec (ws := wsX8_isNew) B.pre
  have hown : s.vm.findClass RX8 = some m.cls := findClass_of_methodNamed B.named
  subst hsz
  have hD := hD0.self (sz := s.heap.size)
  generalize hAe : va_A (wd_X8 a ca u) s.heap.size = A at hD hQ
  have hA : ∀ q : Nat, s.heap.size ≤ q → A q := fun q h => by rw [← hAe]; exact Or.inr h
  have hS : va_S A s.heap s.heap [] := va_S.rf
  have hl := lv_entry ([.ref (a 0)]) (n := 3) (Nat.le_of_ble_eq_true rfl)
  refine W.eq (g2 := F0 m 0 ((lg_sl ([.ref (a 0)]) ++ List.replicate (3 - (lg_sl ([.ref (a 0)])).length) Slot.unset).toArray) []) (by rw [hargs]; exact lg_entry_eq m _ 3) ?_
  generalize (lg_sl ([.ref (a 0)]) ++ List.replicate (3 - (lg_sl ([.ref (a 0)])).length) Slot.unset).toArray = ls at hl ⊢
  have hl : lv_has ls 3 [(0, .ref (a 0))] := hl
  suffices hstart : ∀ (H : Heap) (locs : List Loc) (ls : Array Slot), va_P (dC, dI) vwCl (wd_X8 a ca u) H → va_D A (wd_X8 a ca u) → va_S A s.heap H locs → lv_has ls 3 [(0, .ref (a 0))] → W p l e (headSpec wsX8_isNew rm_X8_isNew).room s m args below meth c H locs 0 0 Q (F0 m 0 ls []) from hstart _ _ _ hP hD hS hl
  clear hS hP hD hD0
  intro H locs ls hP hD hS hl
  have hin_X8 : ∀ w ∈ wsX80, w ∈ wsX8_isNew := by decide +kernel
  have lk_0 := hts (.fieldLink RX8 143 "ForgettingLinesModel" "many" "I") (by decide +kernel)
  unfold wp_X8_isNew at h
  refine lv_iconst (v := 1) hx hb dX8_isNew_0 (by decide) ?_
  refine lv_istore_n (lv' := [(1, .int 1), (0, .ref (a 0))]) hx hb dX8_isNew_1 rfl hl (by decide) rfl (fun ls hl => ?_)
  refine lv_iconst (v := 0) hx hb dX8_isNew_2 (by decide) ?_
  refine lv_istore_n (lv' := [(2, .int 0), (1, .int 1), (0, .ref (a 0))]) hx hb dX8_isNew_3 rfl hl (by decide) rfl (fun ls hl => ?_)
  obtain ⟨n_10, h⟩ := h
  refine lq2_ind (GG := (fun (v2_2 : Int32) (v1_3 : Int32) => ∀ (H : Heap) (locs : List Loc) (ls : Array Slot), va_P (dC, dI) vwCl (wd_X8 a ca u) H → va_D A (wd_X8 a ca u) → va_S A s.heap H locs → lv_has ls 3 [(2, .int v2_2), (1, .int v1_3), (0, .ref (a 0))] → W p l e (headSpec wsX8_isNew rm_X8_isNew).room s m args below meth c H locs 0 0 Q (F0 m 4 ls []))) (fun LL_1 ih_LL_1 v2_2 v1_3 h H locs ls hP hD hS hl => ?_) n_10 _ _ h _ _ _ hP hD hS (lv_sub hl [0, 1, 2] rfl)
  refine lv_iload_n hx hb dX8_isNew_4 rfl (lv_at hl 0 rfl) ?_
  refine lv_aload_n hx hb dX8_isNew_5 rfl (lv_at hl 2 rfl) ?_
  refine va_get (D := (dC, dI)) (ci := 7) (v := .int (u.1 16)) (C := RX8) (T := TX8) (N := 25) hx hb hts hin_X8 hown hK hP 0 rfl rfl 16 (by decide) lk_0 (fun _ h9 => h9) rfl dX8_isNew_6 ?_
  refine lv_icmp_ge (tgt := 38) hx hb dX8_isNew_9 (by decide) (fun hc_4 => ?_) (fun hc_4 => ?_)
  · replace h := h.1 hc_4
    refine lv_iload_n hx hb dX8_isNew_38 rfl (lv_at hl 1 rfl) ?_
    obtain ⟨hz, h⟩ := h
    subst hQ
    exact W.zret (v := v1_3) hx hb hr hz (fun t ht hW => ⟨⟨_, (), rfl, h, by rw [ht]; exact hP, hD⟩, hS.F ht⟩) hS.2.2 dX8_isNew_39
  · replace h := h.2 hc_4
    refine lv_iload_n hx hb dX8_isNew_12 rfl (lv_at hl 1 rfl) ?_
    refine lv_if_eq (tgt := 38) hx hb dX8_isNew_13 (by decide) (fun hc_5 => ?_) (fun hc_5 => ?_)
    · replace h := h.1 hc_5
      refine lv_iload_n hx hb dX8_isNew_38 rfl (lv_at hl 1 rfl) ?_
      obtain ⟨hz, h⟩ := h
      subst hQ
      exact W.zret (v := v1_3) hx hb hr hz (fun t ht hW => ⟨⟨_, (), rfl, h, by rw [ht]; exact hP, hD⟩, hS.F ht⟩) hS.2.2 dX8_isNew_39
    · replace h := h.2 hc_5
      refine lv_aload_n hx hb dX8_isNew_16 rfl (lv_at hl 2 rfl) ?_
      refine lv_iload_n hx hb dX8_isNew_17 rfl (lv_at hl 0 rfl) ?_
      refine lv_bipush (v := 80) hx hb dX8_isNew_18 (by decide) ?_
      have hPc := hP
      have hDc := hD
      have hKc := hK
      have hFc := va_free (wc := (wd_X8 a ca u)) hD hS hA [0, 1, 2, 3, 4, 5, 6, 7, 8, 9, 10, 11, 12, 13, 14, 15, 16, 17, 18, 19] rfl
      refine va_calli (va_runV (As := [.int v2_2, .int 80]) (rest := []) ⟨hx, hb, hml, hown, hts⟩ (c_X8_isBelow l dC dI a ca H.size u v2_2 80 _ h) (cwV 2 hts gX8_isNew_X8_isBelow rfl rfl rfl (by decide +kernel) ⟨Nat.le_of_ble_eq_true rfl, Nat.le_of_ble_eq_true rfl⟩) ⟨fun a U g mk q => by obtain ⟨q0, q1, qP, qK, qD⟩ := q; exact ⟨q0, q1, qP, va_K.moved (u := U) (U := U.calling g mk a) (Vm.Alike.refl U.vm) qK, qD⟩, va_recv hKc hPc (ci := 7) (q0 := 0) rfl rfl, fun U hU hW => ⟨rfl, by rw [hU], by rw [hU]; exact hPc, va_K.moved hW.alike hKc, hDc.weaken (fun _ _ _ _ => trivial)⟩⟩ rfl rfl hl.1 rfl (lv_room (Nat.le_of_ble_eq_true rfl)) dX8_isNew_20 ⟨Nat.zero_le _, Nat.zero_le _⟩) hS (fun q _ h => hFc q h) hFc (fun r_6 zz t H1 locs ht hvm hw hB hz1 hk1 hS => ?_)
      replace h := hw
      obtain ⟨hP1, hD1⟩ := hB
      rw [ht] at hP1
      replace hD : va_D A (wd_X8 a ca u) := hD1.weaken (fun _ _ _ h9 => hFc _ h9)
      replace hP : va_P (dC, dI) vwCl (wd_X8 a ca u) H1 := hP1
      generalize H1 = H at hP hS ⊢
      refine jn1_ind (GG := (fun (w_8 : Int32) => ∀ (H : Heap) (locs : List Loc) (ls : Array Slot), va_P (dC, dI) vwCl (wd_X8 a ca u) H → va_D A (wd_X8 a ca u) → va_S A s.heap H locs → lv_has ls 3 [(2, .int v2_2), (0, .ref (a 0))] → W p l e (headSpec wsX8_isNew rm_X8_isNew).room s m args below meth c H locs 0 0 Q (F0 m 31 ls [.int w_8]))) h (fun w_8 h H locs ls hP hD hS hl => ?_) (fun JJ_7 ih_JJ_7 h => ?_)
      · refine lv_istore_n (lv' := [(1, .int w_8), (2, .int v2_2), (0, .ref (a 0))]) hx hb dX8_isNew_31 rfl hl (by decide) rfl (fun ls hl => ?_)
        refine lv_iinc (v := (v2_2 + 1)) (lv' := [(2, .int (v2_2 + 1)), (1, .int w_8), (0, .ref (a 0))]) hx hb dX8_isNew_32 hl (k := 1) rfl rfl (by decide) rfl (fun ls hl => ?_)
        refine lv_goto (tgt := 4) hx hb dX8_isNew_35 (by decide) ?_
        exact ih_LL_1 _ _ h _ _ _ hP hD hS (lv_sub hl [0, 1, 2] rfl)
      · refine lv_if_ne (tgt := 30) hx hb dX8_isNew_23 (by decide) (fun hc_9 => ?_) (fun hc_9 => ?_)
        · replace h := h.1 hc_9
          refine lv_iconst (v := 0) hx hb dX8_isNew_30 (by decide) ?_
          exact ih_JJ_7 _ h _ _ _ hP hD hS (lv_sub hl [0, 2] rfl)
        · replace h := h.2 hc_9
          refine lv_iconst (v := 1) hx hb dX8_isNew_26 (by decide) ?_
          refine lv_goto (tgt := 31) hx hb dX8_isNew_27 (by decide) ?_
          exact ih_JJ_7 _ h _ _ _ hP hD hS (lv_sub hl [0, 2] rfl)
abbrev rm_X8_find : Room := { frames := 2, cells := 0, slots := 0, locals := 46 }
set_option maxHeartbeats 4000000 in
set_option maxRecDepth 100000 in
theorem c_X8_find (l : Launch) (dC : Nat → ClassId) (dI : Nat → Nat → Nat) (a : Nat → Nat) (ca : Nat → ClassId) (sz : Nat) (u : Ob) (x1 : Int32) (x2 : Int32) (x3 : Int32) (post : Ob → Prop) (h : wp_X8_find u x1 x2 x3 post) : Met l yX8_find wsX8_find rm_X8_find (va_Pc [.ref (a 0), .int x1, .int x2, .int x3] (fun U => U.heap.size = sz ∧ va_P (dC, dI) vwCl (wd_X8 a ca u) U.heap ∧ va_K (dC, dI) vwCl (ty_X8 ca) U ∧ va_D (fun _ => True) (wd_X8 a ca u))) (va_Qv post (fun (zz : Ob) (t : State) => va_P (dC, dI) vwCl (wd_X8 a ca zz) t.heap ∧ va_D (va_A (wd_X8 a ca u) sz) (wd_X8 a ca zz)) (va_A (wd_X8 a ca u) sz)) 0 0 (va_A (wd_X8 a ca u) sz) := by
  refine fl_ofW (cc := cX8_find) (maxL := 4) (ret := none) (by decide) rfl ?_
  intro p e s m args below meth c s₁ Q B hml hv hQ
  obtain ⟨hargs, hsz, hP, hK, hD0⟩ := hv
  have hx := B.exec
  have hb := B.bytes
  have hr := B.returns
  have hts := atoms_spec (ws := wsX8_find) B.pre
  have hown : s.vm.findClass RX8 = some m.cls := findClass_of_methodNamed B.named
  subst hsz
  have hD := hD0.self (sz := s.heap.size)
  generalize hAe : va_A (wd_X8 a ca u) s.heap.size = A at hD hQ
  have hA : ∀ q : Nat, s.heap.size ≤ q → A q := fun q h => by rw [← hAe]; exact Or.inr h
  have hS : va_S A s.heap s.heap [] := va_S.rf
  have hl := lv_entry ([.ref (a 0), .int x1, .int x2, .int x3]) (n := 4) (Nat.le_of_ble_eq_true rfl)
  refine W.eq (g2 := F0 m 0 ((lg_sl ([.ref (a 0), .int x1, .int x2, .int x3]) ++ List.replicate (4 - (lg_sl ([.ref (a 0), .int x1, .int x2, .int x3])).length) Slot.unset).toArray) []) (by rw [hargs]; exact lg_entry_eq m _ 4) ?_
  generalize (lg_sl ([.ref (a 0), .int x1, .int x2, .int x3]) ++ List.replicate (4 - (lg_sl ([.ref (a 0), .int x1, .int x2, .int x3])).length) Slot.unset).toArray = ls at hl ⊢
  have hl : lv_has ls 4 [(0, .ref (a 0)), (1, .int x1), (2, .int x2), (3, .int x3)] := hl
  suffices hstart : ∀ (H : Heap) (locs : List Loc) (ls : Array Slot), va_P (dC, dI) vwCl (wd_X8 a ca u) H → va_D A (wd_X8 a ca u) → va_S A s.heap H locs → lv_has ls 4 [(0, .ref (a 0)), (1, .int x1), (2, .int x2), (3, .int x3)] → W p l e (headSpec wsX8_find rm_X8_find).room s m args below meth c H locs 0 0 Q (F0 m 0 ls []) from hstart _ _ _ hP hD hS hl
  clear hS hP hD hD0
  intro H locs ls hP hD hS hl
  have hin_X8 : ∀ w ∈ wsX80, w ∈ wsX8_find := by decide +kernel
  have lk_0 := hts (.fieldLink RX8 143 "ForgettingLinesModel" "many" "I") (by decide +kernel)
  have lk_1 := hts (.fieldLink RX8 48 "ForgettingLinesModel" "rounds" "[I") (by decide +kernel)
  have lk_2 := hts (.fieldLink RX8 51 "ForgettingLinesModel" "byArc" "[I") (by decide +kernel)
  have lk_3 := hts (.fieldLink RX8 54 "ForgettingLinesModel" "aheadOf" "[I") (by decide +kernel)
  unfold wp_X8_find at h
  refine lv_aload_n hx hb dX8_find_0 rfl (lv_at hl 0 rfl) ?_
  refine lv_bipush (v := 80) hx hb dX8_find_1 (by decide) ?_
  refine lv_aload_n hx hb dX8_find_3 rfl (lv_at hl 0 rfl) ?_
  refine va_get (D := (dC, dI)) (ci := 7) (v := .int (u.1 16)) (C := RX8) (T := TX8) (N := 25) hx hb hts hin_X8 hown hK hP 0 rfl rfl 16 (by decide) lk_0 (fun _ h9 => h9) rfl dX8_find_4 ?_
  have hPc := hP
  have hDc := hD
  have hKc := hK
  have hFc := va_free (wc := (wd_X8 a ca u)) hD hS hA [0, 1, 2, 3, 4, 5, 6, 7, 8, 9, 10, 11, 12, 13, 14, 15, 16, 17, 18, 19] rfl
  refine va_callv (va_runV (As := [.int 80, .int (u.1 16)]) (rest := []) ⟨hx, hb, hml, hown, hts⟩ (c_X8_copy l dC dI a ca H.size u 80 (u.1 16) _ h) (cwV 2 hts gX8_find_X8_copy rfl rfl rfl (by decide +kernel) ⟨Nat.le_of_ble_eq_true rfl, Nat.le_of_ble_eq_true rfl⟩) ⟨fun a U g mk q => by obtain ⟨q0, q1, qP, qK, qD⟩ := q; exact ⟨q0, q1, qP, va_K.moved (u := U) (U := U.calling g mk a) (Vm.Alike.refl U.vm) qK, qD⟩, va_recv hKc hPc (ci := 7) (q0 := 0) rfl rfl, fun U hU hW => ⟨rfl, by rw [hU], by rw [hU]; exact hPc, va_K.moved hW.alike hKc, hDc.weaken (fun _ _ _ _ => trivial)⟩⟩ rfl rfl hl.1 rfl (lv_room (Nat.le_of_ble_eq_true rfl)) dX8_find_7 ⟨Nat.zero_le _, Nat.zero_le _⟩) hS (fun q _ h => hFc q h) hFc (fun zz t H1 locs ht hvm hw hB hz1 hk1 hS => ?_)
  obtain ⟨u_1, rfl⟩ : ∃ z, z = zz := ⟨_, rfl⟩
  replace h := hw
  obtain ⟨hP1, hD1⟩ := hB
  rw [ht] at hP1
  replace hD : va_D A (wd_X8 a ca u_1) := hD1.weaken (fun _ _ _ h9 => hFc _ h9)
  replace hP : va_P (dC, dI) vwCl (wd_X8 a ca u_1) H1 := hP1
  generalize H1 = H at hP hS ⊢
  refine lv_aload_n hx hb dX8_find_10 rfl (lv_at hl 0 rfl) ?_
  refine va_get (D := (dC, dI)) (ci := 7) (v := .ref (a 18)) (C := RX8) (T := TX8) (N := 25) hx hb hts hin_X8 hown hK hP 0 rfl rfl 17 (by decide) lk_1 (fun _ h9 => h9) rfl dX8_find_11 ?_
  refine lv_aload_n hx hb dX8_find_14 rfl (lv_at hl 0 rfl) ?_
  refine va_get (D := (dC, dI)) (ci := 7) (v := .int (u_1.1 16)) (C := RX8) (T := TX8) (N := 25) hx hb hts hin_X8 hown hK hP 0 rfl rfl 16 (by decide) lk_0 (fun _ h9 => h9) rfl dX8_find_15 ?_
  refine lv_iload_n hx hb dX8_find_18 rfl (lv_at hl 1 rfl) ?_
  obtain ⟨hi_2, h⟩ := h
  refine va_iast (D := (dC, dI)) (cl := vwCl) (i := (u_1.1 16)) hx hb hK hP hD hS 12 11 rfl rfl hi_2 dX8_find_19 (fun H locs hP hD hS => ?_)
  obtain ⟨u_3, eu_3⟩ : ∃ z : Ob, z = fs_a u_1 17 (upd (u_1.2.1 17) (u_1.1 16).toNatClampNeg x1) := ⟨_, rfl⟩
  replace h := h u_3 eu_3
  replace hP : va_P (dC, dI) vwCl (wd_X8 a ca u_3) H := by rw [eu_3]; exact hP
  replace hD : va_D A (wd_X8 a ca u_3) := by rw [eu_3]; exact hD
  refine lv_aload_n hx hb dX8_find_20 rfl (lv_at hl 0 rfl) ?_
  refine va_get (D := (dC, dI)) (ci := 7) (v := .ref (a 19)) (C := RX8) (T := TX8) (N := 25) hx hb hts hin_X8 hown hK hP 0 rfl rfl 18 (by decide) lk_2 (fun _ h9 => h9) rfl dX8_find_21 ?_
  refine lv_aload_n hx hb dX8_find_24 rfl (lv_at hl 0 rfl) ?_
  refine va_get (D := (dC, dI)) (ci := 7) (v := .int (u_3.1 16)) (C := RX8) (T := TX8) (N := 25) hx hb hts hin_X8 hown hK hP 0 rfl rfl 16 (by decide) lk_0 (fun _ h9 => h9) rfl dX8_find_25 ?_
  refine lv_iload_n hx hb dX8_find_28 rfl (lv_at hl 2 rfl) ?_
  obtain ⟨hi_4, h⟩ := h
  refine va_iast (D := (dC, dI)) (cl := vwCl) (i := (u_3.1 16)) hx hb hK hP hD hS 13 12 rfl rfl hi_4 dX8_find_29 (fun H locs hP hD hS => ?_)
  obtain ⟨u_5, eu_5⟩ : ∃ z : Ob, z = fs_a u_3 18 (upd (u_3.2.1 18) (u_3.1 16).toNatClampNeg x2) := ⟨_, rfl⟩
  replace h := h u_5 eu_5
  replace hP : va_P (dC, dI) vwCl (wd_X8 a ca u_5) H := by rw [eu_5]; exact hP
  replace hD : va_D A (wd_X8 a ca u_5) := by rw [eu_5]; exact hD
  refine lv_aload_n hx hb dX8_find_30 rfl (lv_at hl 0 rfl) ?_
  refine va_get (D := (dC, dI)) (ci := 7) (v := .ref (a 20)) (C := RX8) (T := TX8) (N := 25) hx hb hts hin_X8 hown hK hP 0 rfl rfl 19 (by decide) lk_3 (fun _ h9 => h9) rfl dX8_find_31 ?_
  refine lv_aload_n hx hb dX8_find_34 rfl (lv_at hl 0 rfl) ?_
  refine va_get (D := (dC, dI)) (ci := 7) (v := .int (u_5.1 16)) (C := RX8) (T := TX8) (N := 25) hx hb hts hin_X8 hown hK hP 0 rfl rfl 16 (by decide) lk_0 (fun _ h9 => h9) rfl dX8_find_35 ?_
  refine lv_iload_n hx hb dX8_find_38 rfl (lv_at hl 3 rfl) ?_
  obtain ⟨hi_6, h⟩ := h
  refine va_iast (D := (dC, dI)) (cl := vwCl) (i := (u_5.1 16)) hx hb hK hP hD hS 14 13 rfl rfl hi_6 dX8_find_39 (fun H locs hP hD hS => ?_)
  obtain ⟨u_7, eu_7⟩ : ∃ z : Ob, z = fs_a u_5 19 (upd (u_5.2.1 19) (u_5.1 16).toNatClampNeg x3) := ⟨_, rfl⟩
  replace h := h u_7 eu_7
  replace hP : va_P (dC, dI) vwCl (wd_X8 a ca u_7) H := by rw [eu_7]; exact hP
  replace hD : va_D A (wd_X8 a ca u_7) := by rw [eu_7]; exact hD
  refine lv_aload_n hx hb dX8_find_40 rfl (lv_at hl 0 rfl) ?_
  refine lv_dup hx hb dX8_find_41 rfl ?_
  refine va_get (D := (dC, dI)) (ci := 7) (v := .int (u_7.1 16)) (C := RX8) (T := TX8) (N := 25) hx hb hts hin_X8 hown hK hP 0 rfl rfl 16 (by decide) lk_0 (fun _ h9 => h9) rfl dX8_find_42 ?_
  refine lv_iconst (v := 1) hx hb dX8_find_45 (by decide) ?_
  refine lv_iadd hx hb dX8_find_46 ?_
  refine va_put (D := (dC, dI)) (ci := 7) (v := .int ((u_7.1 16) + 1)) (ty := .int) (C := RX8) (T := TX8) (N := 25) hx hb hts hin_X8 tyX8 tyX8_ok nmX8 hown hK hP hD hS 0 rfl rfl 16 (by decide) lk_0 (fun _ h9 => h9) rfl (by decide +kernel) rfl rfl (Nat.le_of_ble_eq_true rfl) dX8_find_47 (fun H locs hP hD hS => ?_)
  obtain ⟨u_8, eu_8⟩ : ∃ z : Ob, z = fs_i u_7 16 ((u_7.1 16) + 1) := ⟨_, rfl⟩
  replace h := h u_8 eu_8
  replace hP : va_P (dC, dI) vwCl (wd_X8 a ca u_8) H := by rw [eu_8]; exact hP
  replace hD : va_D A (wd_X8 a ca u_8) := by rw [eu_8]; exact hD
  subst hQ
  exact W.vret hx hb hr (fun t ht hW => ⟨⟨u_8, rfl, h, by rw [ht]; exact hP, hD⟩, hS.F ht⟩) hS.2.2 dX8_find_50
abbrev rm_X8_search : Room := { frames := 3, cells := 0, slots := 0, locals := 73 }
set_option maxHeartbeats 4000000 in
set_option maxRecDepth 100000 in
theorem c_X8_search (l : Launch) (dC : Nat → ClassId) (dI : Nat → Nat → Nat) (a : Nat → Nat) (ca : Nat → ClassId) (sz : Nat) (u : Ob) (post : Int32 → Ob → Prop) (h : wp_X8_search u post) : Met l yX8_search wsX8_search rm_X8_search (va_Pc [.ref (a 0)] (fun U => U.heap.size = sz ∧ va_P (dC, dI) vwCl (wd_X8 a ca u) U.heap ∧ va_K (dC, dI) vwCl (ty_X8 ca) U ∧ va_D (fun _ => True) (wd_X8 a ca u))) (va_Qi post (fun (zz : Ob) (t : State) => va_P (dC, dI) vwCl (wd_X8 a ca zz) t.heap ∧ va_D (va_A (wd_X8 a ca u) sz) (wd_X8 a ca zz)) (va_A (wd_X8 a ca u) sz)) 0 0 (va_A (wd_X8 a ca u) sz) := by
  refine fl_ofW (cc := cX8_search) (maxL := 3) (ret := (some .boolean)) (by decide) rfl ?_
  intro p e s m args below meth c s₁ Q B hml hv hQ
  obtain ⟨hargs, hsz, hP, hK, hD0⟩ := hv
  have hx := B.exec
  have hb := B.bytes
  have hr := B.returns
  have hts := atoms_spec (ws := wsX8_search) B.pre
  have hown : s.vm.findClass RX8 = some m.cls := findClass_of_methodNamed B.named
  subst hsz
  have hD := hD0.self (sz := s.heap.size)
  generalize hAe : va_A (wd_X8 a ca u) s.heap.size = A at hD hQ
  have hA : ∀ q : Nat, s.heap.size ≤ q → A q := fun q h => by rw [← hAe]; exact Or.inr h
  have hS : va_S A s.heap s.heap [] := va_S.rf
  have hl := lv_entry ([.ref (a 0)]) (n := 3) (Nat.le_of_ble_eq_true rfl)
  refine W.eq (g2 := F0 m 0 ((lg_sl ([.ref (a 0)]) ++ List.replicate (3 - (lg_sl ([.ref (a 0)])).length) Slot.unset).toArray) []) (by rw [hargs]; exact lg_entry_eq m _ 3) ?_
  generalize (lg_sl ([.ref (a 0)]) ++ List.replicate (3 - (lg_sl ([.ref (a 0)])).length) Slot.unset).toArray = ls at hl ⊢
  have hl : lv_has ls 3 [(0, .ref (a 0))] := hl
  suffices hstart : ∀ (H : Heap) (locs : List Loc) (ls : Array Slot), va_P (dC, dI) vwCl (wd_X8 a ca u) H → va_D A (wd_X8 a ca u) → va_S A s.heap H locs → lv_has ls 3 [(0, .ref (a 0))] → W p l e (headSpec wsX8_search rm_X8_search).room s m args below meth c H locs 0 0 Q (F0 m 0 ls []) from hstart _ _ _ hP hD hS hl
  clear hS hP hD hD0
  intro H locs ls hP hD hS hl
  have hin_X8 : ∀ w ∈ wsX80, w ∈ wsX8_search := by decide +kernel
  have lk_0 := hts (.fieldLink RX8 143 "ForgettingLinesModel" "many" "I") (by decide +kernel)
  have lk_1 := hts (.fieldLink RX8 77 "ForgettingLinesModel" "arcs" "I") (by decide +kernel)
  have lk_2 := hts (.fieldLink RX8 30 "ForgettingLinesModel" "tos" "[I") (by decide +kernel)
  have lk_3 := hts (.fieldLink RX8 39 "ForgettingLinesModel" "stateOf" "[I") (by decide +kernel)
  have lk_4 := hts (.fieldLink RX8 42 "ForgettingLinesModel" "sizes" "[I") (by decide +kernel)
  have lk_5 := hts (.fieldLink RX8 48 "ForgettingLinesModel" "rounds" "[I") (by decide +kernel)
  unfold wp_X8_search at h
  refine lv_aload_n hx hb dX8_search_0 rfl (lv_at hl 0 rfl) ?_
  refine lv_iconst (v := 0) hx hb dX8_search_1 (by decide) ?_
  refine va_put (D := (dC, dI)) (ci := 7) (v := .int 0) (ty := .int) (C := RX8) (T := TX8) (N := 25) hx hb hts hin_X8 tyX8 tyX8_ok nmX8 hown hK hP hD hS 0 rfl rfl 16 (by decide) lk_0 (fun _ h9 => h9) rfl (by decide +kernel) rfl rfl (Nat.le_of_ble_eq_true rfl) dX8_search_2 (fun H locs hP hD hS => ?_)
  obtain ⟨u_1, eu_1⟩ : ∃ z : Ob, z = fs_i u 16 0 := ⟨_, rfl⟩
  replace h := h u_1 eu_1
  replace hP : va_P (dC, dI) vwCl (wd_X8 a ca u_1) H := by rw [eu_1]; exact hP
  replace hD : va_D A (wd_X8 a ca u_1) := by rw [eu_1]; exact hD
  refine lv_aload_n hx hb dX8_search_5 rfl (lv_at hl 0 rfl) ?_
  refine lv_bipush (v := 81) hx hb dX8_search_6 (by decide) ?_
  refine lv_bipush (v := 80) hx hb dX8_search_8 (by decide) ?_
  have hPc := hP
  have hDc := hD
  have hKc := hK
  have hFc := va_free (wc := (wd_X8 a ca u_1)) hD hS hA [0, 1, 2, 3, 4, 5, 6, 7, 8, 9, 10, 11, 12, 13, 14, 15, 16, 17, 18, 19] rfl
  refine va_callv (va_runV (As := [.int 81, .int 80]) (rest := []) ⟨hx, hb, hml, hown, hts⟩ (c_X8_copy l dC dI a ca H.size u_1 81 80 _ h) (cwV 2 hts gX8_search_X8_copy rfl rfl rfl (by decide +kernel) ⟨Nat.le_of_ble_eq_true rfl, Nat.le_of_ble_eq_true rfl⟩) ⟨fun a U g mk q => by obtain ⟨q0, q1, qP, qK, qD⟩ := q; exact ⟨q0, q1, qP, va_K.moved (u := U) (U := U.calling g mk a) (Vm.Alike.refl U.vm) qK, qD⟩, va_recv hKc hPc (ci := 7) (q0 := 0) rfl rfl, fun U hU hW => ⟨rfl, by rw [hU], by rw [hU]; exact hPc, va_K.moved hW.alike hKc, hDc.weaken (fun _ _ _ _ => trivial)⟩⟩ rfl rfl hl.1 rfl (lv_room (Nat.le_of_ble_eq_true rfl)) dX8_search_10 ⟨Nat.zero_le _, Nat.zero_le _⟩) hS (fun q _ h => hFc q h) hFc (fun zz t H1 locs ht hvm hw hB hz1 hk1 hS => ?_)
  obtain ⟨u_2, rfl⟩ : ∃ z, z = zz := ⟨_, rfl⟩
  replace h := hw
  obtain ⟨hP1, hD1⟩ := hB
  rw [ht] at hP1
  replace hD : va_D A (wd_X8 a ca u_2) := hD1.weaken (fun _ _ _ h9 => hFc _ h9)
  replace hP : va_P (dC, dI) vwCl (wd_X8 a ca u_2) H1 := hP1
  generalize H1 = H at hP hS ⊢
  refine lv_aload_n hx hb dX8_search_13 rfl (lv_at hl 0 rfl) ?_
  refine lv_iconst (v := 0) hx hb dX8_search_14 (by decide) ?_
  refine lv_bipush (v := (-2)) hx hb dX8_search_15 (by decide) ?_
  refine lv_bipush (v := (-2)) hx hb dX8_search_17 (by decide) ?_
  have hPc := hP
  have hDc := hD
  have hKc := hK
  have hFc := va_free (wc := (wd_X8 a ca u_2)) hD hS hA [0, 1, 2, 3, 4, 5, 6, 7, 8, 9, 10, 11, 12, 13, 14, 15, 16, 17, 18, 19] rfl
  refine va_callv (va_runV (As := [.int 0, .int (-2), .int (-2)]) (rest := []) ⟨hx, hb, hml, hown, hts⟩ (c_X8_find l dC dI a ca H.size u_2 0 (-2) (-2) _ h) (cwV 3 hts gX8_search_X8_find rfl rfl rfl (by decide +kernel) ⟨Nat.le_of_ble_eq_true rfl, Nat.le_of_ble_eq_true rfl⟩) ⟨fun a U g mk q => by obtain ⟨q0, q1, qP, qK, qD⟩ := q; exact ⟨q0, q1, qP, va_K.moved (u := U) (U := U.calling g mk a) (Vm.Alike.refl U.vm) qK, qD⟩, va_recv hKc hPc (ci := 7) (q0 := 0) rfl rfl, fun U hU hW => ⟨rfl, by rw [hU], by rw [hU]; exact hPc, va_K.moved hW.alike hKc, hDc.weaken (fun _ _ _ _ => trivial)⟩⟩ rfl rfl hl.1 rfl (lv_room (Nat.le_of_ble_eq_true rfl)) dX8_search_19 ⟨Nat.zero_le _, Nat.zero_le _⟩) hS (fun q _ h => hFc q h) hFc (fun zz t H1 locs ht hvm hw hB hz1 hk1 hS => ?_)
  obtain ⟨u_3, rfl⟩ : ∃ z, z = zz := ⟨_, rfl⟩
  replace h := hw
  obtain ⟨hP1, hD1⟩ := hB
  rw [ht] at hP1
  replace hD : va_D A (wd_X8 a ca u_3) := hD1.weaken (fun _ _ _ h9 => hFc _ h9)
  replace hP : va_P (dC, dI) vwCl (wd_X8 a ca u_3) H1 := hP1
  generalize H1 = H at hP hS ⊢
  refine lv_iconst (v := 0) hx hb dX8_search_22 (by decide) ?_
  refine lv_istore_n (lv' := [(1, .int 0), (0, .ref (a 0))]) hx hb dX8_search_23 rfl hl (by decide) rfl (fun ls hl => ?_)
  obtain ⟨n_26, h⟩ := h
  refine lq2_ind (GG := (fun (v1_5 : Int32) (u_6 : Ob) => ∀ (H : Heap) (locs : List Loc) (ls : Array Slot), va_P (dC, dI) vwCl (wd_X8 a ca u_6) H → va_D A (wd_X8 a ca u_6) → va_S A s.heap H locs → lv_has ls 3 [(1, .int v1_5), (0, .ref (a 0))] → W p l e (headSpec wsX8_search rm_X8_search).room s m args below meth c H locs 0 0 Q (F0 m 24 ls []))) (fun LL_4 ih_LL_4 v1_5 u_6 h H locs ls hP hD hS hl => ?_) n_26 _ _ h _ _ _ hP hD hS (lv_sub hl [0, 1] rfl)
  refine lv_iload_n hx hb dX8_search_24 rfl (lv_at hl 0 rfl) ?_
  refine lv_aload_n hx hb dX8_search_25 rfl (lv_at hl 1 rfl) ?_
  refine va_get (D := (dC, dI)) (ci := 7) (v := .int (u_6.1 16)) (C := RX8) (T := TX8) (N := 25) hx hb hts hin_X8 hown hK hP 0 rfl rfl 16 (by decide) lk_0 (fun _ h9 => h9) rfl dX8_search_26 ?_
  refine lv_icmp_ge (tgt := 133) hx hb dX8_search_29 (by decide) (fun hc_7 => ?_) (fun hc_7 => ?_)
  · replace h := h.1 hc_7
    refine lv_iconst (v := 1) hx hb dX8_search_133 (by decide) ?_
    subst hQ
    exact W.zret (v := 1) hx hb hr (by rfl) (fun t ht hW => ⟨⟨_, u_6, rfl, h, by rw [ht]; exact hP, hD⟩, hS.F ht⟩) hS.2.2 dX8_search_134
  · replace h := h.2 hc_7
    refine lv_iconst (v := 0) hx hb dX8_search_32 (by decide) ?_
    refine lv_istore_n (lv' := [(2, .int 0), (1, .int v1_5), (0, .ref (a 0))]) hx hb dX8_search_33 rfl hl (by decide) rfl (fun ls hl => ?_)
    obtain ⟨n_25, h⟩ := h
    refine lq2_ind (GG := (fun (v2_9 : Int32) (u_10 : Ob) => ∀ (H : Heap) (locs : List Loc) (ls : Array Slot), va_P (dC, dI) vwCl (wd_X8 a ca u_10) H → va_D A (wd_X8 a ca u_10) → va_S A s.heap H locs → lv_has ls 3 [(2, .int v2_9), (1, .int v1_5), (0, .ref (a 0))] → W p l e (headSpec wsX8_search rm_X8_search).room s m args below meth c H locs 0 0 Q (F0 m 34 ls []))) (fun LL_8 ih_LL_8 v2_9 u_10 h H locs ls hP hD hS hl => ?_) n_25 _ _ h _ _ _ hP hD hS (lv_sub hl [0, 1, 2] rfl)
    refine lv_iload_n hx hb dX8_search_34 rfl (lv_at hl 0 rfl) ?_
    refine lv_aload_n hx hb dX8_search_35 rfl (lv_at hl 2 rfl) ?_
    refine va_get (D := (dC, dI)) (ci := 7) (v := .int (u_10.1 2)) (C := RX8) (T := TX8) (N := 25) hx hb hts hin_X8 hown hK hP 0 rfl rfl 2 (by decide) lk_1 (fun _ h9 => h9) rfl dX8_search_36 ?_
    refine lv_icmp_ge (tgt := 127) hx hb dX8_search_39 (by decide) (fun hc_11 => ?_) (fun hc_11 => ?_)
    · replace h := h.1 hc_11
      refine lv_iinc (v := (v1_5 + 1)) (lv' := [(1, .int (v1_5 + 1)), (2, .int v2_9), (0, .ref (a 0))]) hx hb dX8_search_127 hl (k := 1) rfl rfl (by decide) rfl (fun ls hl => ?_)
      refine lv_goto (tgt := 24) hx hb dX8_search_130 (by decide) ?_
      exact ih_LL_4 _ _ h _ _ _ hP hD hS (lv_sub hl [0, 2] rfl)
    · replace h := h.2 hc_11
      refine lv_aload_n hx hb dX8_search_42 rfl (lv_at hl 2 rfl) ?_
      refine va_get (D := (dC, dI)) (ci := 7) (v := .ref (a 8)) (C := RX8) (T := TX8) (N := 25) hx hb hts hin_X8 hown hK hP 0 rfl rfl 7 (by decide) lk_2 (fun _ h9 => h9) rfl dX8_search_43 ?_
      refine lv_iload_n hx hb dX8_search_46 rfl (lv_at hl 0 rfl) ?_
      obtain ⟨hi_12, h⟩ := h
      refine va_iald (D := (dC, dI)) (cl := vwCl) (i := v2_9) hx hb hK hP 6 5 rfl rfl hi_12 dX8_search_47 ?_
      refine lv_aload_n hx hb dX8_search_48 rfl (lv_at hl 2 rfl) ?_
      refine va_get (D := (dC, dI)) (ci := 7) (v := .ref (a 14)) (C := RX8) (T := TX8) (N := 25) hx hb hts hin_X8 hown hK hP 0 rfl rfl 13 (by decide) lk_3 (fun _ h9 => h9) rfl dX8_search_49 ?_
      refine lv_iload_n hx hb dX8_search_52 rfl (lv_at hl 1 rfl) ?_
      obtain ⟨hi_13, h⟩ := h
      refine va_iald (D := (dC, dI)) (cl := vwCl) (i := v1_5) hx hb hK hP 9 8 rfl rfl hi_13 dX8_search_53 ?_
      refine lv_icmp_ne (tgt := 121) hx hb dX8_search_54 (by decide) (fun hc_14 => ?_) (fun hc_14 => ?_)
      · replace h := h.1 hc_14
        refine lv_iinc (v := (v2_9 + 1)) (lv' := [(2, .int (v2_9 + 1)), (1, .int v1_5), (0, .ref (a 0))]) hx hb dX8_search_121 hl (k := 0) rfl rfl (by decide) rfl (fun ls hl => ?_)
        refine lv_goto (tgt := 34) hx hb dX8_search_124 (by decide) ?_
        exact ih_LL_8 _ _ h _ _ _ hP hD hS (lv_sub hl [0, 1, 2] rfl)
      · replace h := h.2 hc_14
        refine lv_aload_n hx hb dX8_search_57 rfl (lv_at hl 2 rfl) ?_
        refine lv_iload_n hx hb dX8_search_58 rfl (lv_at hl 1 rfl) ?_
        refine lv_iload_n hx hb dX8_search_59 rfl (lv_at hl 0 rfl) ?_
        have hPc := hP
        have hDc := hD
        have hKc := hK
        have hFc := va_free (wc := (wd_X8 a ca u_10)) hD hS hA [0, 1, 2, 3, 4, 5, 6, 7, 8, 9, 10, 11, 12, 13, 14, 15, 16, 17, 18, 19] rfl
        refine va_callv (va_runV (As := [.int v1_5, .int v2_9]) (rest := []) ⟨hx, hb, hml, hown, hts⟩ (c_X8_ahead l dC dI a ca H.size u_10 v1_5 v2_9 _ h) (cwV 2 hts gX8_search_X8_ahead rfl rfl rfl (by decide +kernel) ⟨Nat.le_of_ble_eq_true rfl, Nat.le_of_ble_eq_true rfl⟩) ⟨fun a U g mk q => by obtain ⟨q0, q1, qP, qK, qD⟩ := q; exact ⟨q0, q1, qP, va_K.moved (u := U) (U := U.calling g mk a) (Vm.Alike.refl U.vm) qK, qD⟩, va_recv hKc hPc (ci := 7) (q0 := 0) rfl rfl, fun U hU hW => ⟨rfl, by rw [hU], by rw [hU]; exact hPc, va_K.moved hW.alike hKc, hDc.weaken (fun _ _ _ _ => trivial)⟩⟩ rfl rfl hl.1 rfl (lv_room (Nat.le_of_ble_eq_true rfl)) dX8_search_60 ⟨Nat.zero_le _, Nat.zero_le _⟩) hS (fun q _ h => hFc q h) hFc (fun zz t H1 locs ht hvm hw hB hz1 hk1 hS => ?_)
        obtain ⟨u_15, rfl⟩ : ∃ z, z = zz := ⟨_, rfl⟩
        replace h := hw
        obtain ⟨hP1, hD1⟩ := hB
        rw [ht] at hP1
        replace hD : va_D A (wd_X8 a ca u_15) := hD1.weaken (fun _ _ _ h9 => hFc _ h9)
        replace hP : va_P (dC, dI) vwCl (wd_X8 a ca u_15) H1 := hP1
        generalize H1 = H at hP hS ⊢
        refine lv_aload_n hx hb dX8_search_63 rfl (lv_at hl 2 rfl) ?_
        have hPc := hP
        have hDc := hD
        have hKc := hK
        have hFc := va_free (wc := (wd_X8 a ca u_15)) hD hS hA [0, 1, 2, 3, 4, 5, 6, 7, 8, 9, 10, 11, 12, 13, 14, 15, 16, 17, 18, 19] rfl
        refine va_calli (va_runV (As := []) (rest := []) ⟨hx, hb, hml, hown, hts⟩ (c_X8_isNew l dC dI a ca H.size u_15 _ h) (cwV 0 hts gX8_search_X8_isNew rfl rfl rfl (by decide +kernel) ⟨Nat.le_of_ble_eq_true rfl, Nat.le_of_ble_eq_true rfl⟩) ⟨fun a U g mk q => by obtain ⟨q0, q1, qP, qK, qD⟩ := q; exact ⟨q0, q1, qP, va_K.moved (u := U) (U := U.calling g mk a) (Vm.Alike.refl U.vm) qK, qD⟩, va_recv hKc hPc (ci := 7) (q0 := 0) rfl rfl, fun U hU hW => ⟨rfl, by rw [hU], by rw [hU]; exact hPc, va_K.moved hW.alike hKc, hDc.weaken (fun _ _ _ _ => trivial)⟩⟩ rfl rfl hl.1 rfl (lv_room (Nat.le_of_ble_eq_true rfl)) dX8_search_64 ⟨Nat.zero_le _, Nat.zero_le _⟩) hS (fun q _ h => hFc q h) hFc (fun r_16 zz t H1 locs ht hvm hw hB hz1 hk1 hS => ?_)
        replace h := hw
        obtain ⟨hP1, hD1⟩ := hB
        rw [ht] at hP1
        replace hD : va_D A (wd_X8 a ca u_15) := hD1.weaken (fun _ _ _ h9 => hFc _ h9)
        replace hP : va_P (dC, dI) vwCl (wd_X8 a ca u_15) H1 := hP1
        generalize H1 = H at hP hS ⊢
        refine lv_if_eq (tgt := 121) hx hb dX8_search_67 (by decide) (fun hc_17 => ?_) (fun hc_17 => ?_)
        · replace h := h.1 hc_17
          refine lv_iinc (v := (v2_9 + 1)) (lv' := [(2, .int (v2_9 + 1)), (1, .int v1_5), (0, .ref (a 0))]) hx hb dX8_search_121 hl (k := 0) rfl rfl (by decide) rfl (fun ls hl => ?_)
          refine lv_goto (tgt := 34) hx hb dX8_search_124 (by decide) ?_
          exact ih_LL_8 _ _ h _ _ _ hP hD hS (lv_sub hl [0, 1, 2] rfl)
        · replace h := h.2 hc_17
          refine lv_aload_n hx hb dX8_search_70 rfl (lv_at hl 2 rfl) ?_
          refine va_get (D := (dC, dI)) (ci := 7) (v := .ref (a 15)) (C := RX8) (T := TX8) (N := 25) hx hb hts hin_X8 hown hK hP 0 rfl rfl 14 (by decide) lk_4 (fun _ h9 => h9) rfl dX8_search_71 ?_
          refine lv_sipush (v := 160) hx hb dX8_search_74 (by decide) ?_
          obtain ⟨hi_18, h⟩ := h
          refine va_iald (D := (dC, dI)) (cl := vwCl) (i := 160) hx hb hK hP 10 9 rfl rfl hi_18 dX8_search_77 ?_
          refine lv_bipush (v := 10) hx hb dX8_search_78 (by decide) ?_
          refine lv_icmp_gt (tgt := 105) hx hb dX8_search_80 (by decide) (fun hc_19 => ?_) (fun hc_19 => ?_)
          · replace h := h.1 hc_19
            refine lv_iconst (v := 0) hx hb dX8_search_105 (by decide) ?_
            subst hQ
            exact W.zret (v := 0) hx hb hr (by rfl) (fun t ht hW => ⟨⟨_, u_15, rfl, h, by rw [ht]; exact hP, hD⟩, hS.F ht⟩) hS.2.2 dX8_search_106
          · replace h := h.2 hc_19
            refine lv_aload_n hx hb dX8_search_83 rfl (lv_at hl 2 rfl) ?_
            refine va_get (D := (dC, dI)) (ci := 7) (v := .ref (a 15)) (C := RX8) (T := TX8) (N := 25) hx hb hts hin_X8 hown hK hP 0 rfl rfl 14 (by decide) lk_4 (fun _ h9 => h9) rfl dX8_search_84 ?_
            refine lv_sipush (v := 161) hx hb dX8_search_87 (by decide) ?_
            obtain ⟨hi_20, h⟩ := h
            refine va_iald (D := (dC, dI)) (cl := vwCl) (i := 161) hx hb hK hP 10 9 rfl rfl hi_20 dX8_search_90 ?_
            refine lv_bipush (v := 10) hx hb dX8_search_91 (by decide) ?_
            refine lv_icmp_gt (tgt := 105) hx hb dX8_search_93 (by decide) (fun hc_21 => ?_) (fun hc_21 => ?_)
            · replace h := h.1 hc_21
              refine lv_iconst (v := 0) hx hb dX8_search_105 (by decide) ?_
              subst hQ
              exact W.zret (v := 0) hx hb hr (by rfl) (fun t ht hW => ⟨⟨_, u_15, rfl, h, by rw [ht]; exact hP, hD⟩, hS.F ht⟩) hS.2.2 dX8_search_106
            · replace h := h.2 hc_21
              refine lv_aload_n hx hb dX8_search_96 rfl (lv_at hl 2 rfl) ?_
              refine va_get (D := (dC, dI)) (ci := 7) (v := .int (u_15.1 16)) (C := RX8) (T := TX8) (N := 25) hx hb hts hin_X8 hown hK hP 0 rfl rfl 16 (by decide) lk_0 (fun _ h9 => h9) rfl dX8_search_97 ?_
              refine lv_bipush (v := 80) hx hb dX8_search_100 (by decide) ?_
              refine lv_icmp_ne (tgt := 107) hx hb dX8_search_102 (by decide) (fun hc_22 => ?_) (fun hc_22 => ?_)
              · replace h := h.1 hc_22
                refine lv_aload_n hx hb dX8_search_107 rfl (lv_at hl 2 rfl) ?_
                refine lv_aload_n hx hb dX8_search_108 rfl (lv_at hl 2 rfl) ?_
                refine va_get (D := (dC, dI)) (ci := 7) (v := .ref (a 18)) (C := RX8) (T := TX8) (N := 25) hx hb hts hin_X8 hown hK hP 0 rfl rfl 17 (by decide) lk_5 (fun _ h9 => h9) rfl dX8_search_109 ?_
                refine lv_iload_n hx hb dX8_search_112 rfl (lv_at hl 1 rfl) ?_
                obtain ⟨hi_23, h⟩ := h
                refine va_iald (D := (dC, dI)) (cl := vwCl) (i := v1_5) hx hb hK hP 12 11 rfl rfl hi_23 dX8_search_113 ?_
                refine lv_iconst (v := 1) hx hb dX8_search_114 (by decide) ?_
                refine lv_iadd hx hb dX8_search_115 ?_
                refine lv_iload_n hx hb dX8_search_116 rfl (lv_at hl 0 rfl) ?_
                refine lv_iload_n hx hb dX8_search_117 rfl (lv_at hl 1 rfl) ?_
                have hPc := hP
                have hDc := hD
                have hKc := hK
                have hFc := va_free (wc := (wd_X8 a ca u_15)) hD hS hA [0, 1, 2, 3, 4, 5, 6, 7, 8, 9, 10, 11, 12, 13, 14, 15, 16, 17, 18, 19] rfl
                refine va_callv (va_runV (As := [.int ((u_15.2.1 17 v1_5.toNatClampNeg) + 1), .int v2_9, .int v1_5]) (rest := []) ⟨hx, hb, hml, hown, hts⟩ (c_X8_find l dC dI a ca H.size u_15 ((u_15.2.1 17 v1_5.toNatClampNeg) + 1) v2_9 v1_5 _ h) (cwV 3 hts gX8_search_X8_find rfl rfl rfl (by decide +kernel) ⟨Nat.le_of_ble_eq_true rfl, Nat.le_of_ble_eq_true rfl⟩) ⟨fun a U g mk q => by obtain ⟨q0, q1, qP, qK, qD⟩ := q; exact ⟨q0, q1, qP, va_K.moved (u := U) (U := U.calling g mk a) (Vm.Alike.refl U.vm) qK, qD⟩, va_recv hKc hPc (ci := 7) (q0 := 0) rfl rfl, fun U hU hW => ⟨rfl, by rw [hU], by rw [hU]; exact hPc, va_K.moved hW.alike hKc, hDc.weaken (fun _ _ _ _ => trivial)⟩⟩ rfl rfl hl.1 rfl (lv_room (Nat.le_of_ble_eq_true rfl)) dX8_search_118 ⟨Nat.zero_le _, Nat.zero_le _⟩) hS (fun q _ h => hFc q h) hFc (fun zz t H1 locs ht hvm hw hB hz1 hk1 hS => ?_)
                obtain ⟨u_24, rfl⟩ : ∃ z, z = zz := ⟨_, rfl⟩
                replace h := hw
                obtain ⟨hP1, hD1⟩ := hB
                rw [ht] at hP1
                replace hD : va_D A (wd_X8 a ca u_24) := hD1.weaken (fun _ _ _ h9 => hFc _ h9)
                replace hP : va_P (dC, dI) vwCl (wd_X8 a ca u_24) H1 := hP1
                generalize H1 = H at hP hS ⊢
                refine lv_iinc (v := (v2_9 + 1)) (lv' := [(2, .int (v2_9 + 1)), (1, .int v1_5), (0, .ref (a 0))]) hx hb dX8_search_121 hl (k := 0) rfl rfl (by decide) rfl (fun ls hl => ?_)
                refine lv_goto (tgt := 34) hx hb dX8_search_124 (by decide) ?_
                exact ih_LL_8 _ _ h _ _ _ hP hD hS (lv_sub hl [0, 1, 2] rfl)
              · replace h := h.2 hc_22
                refine lv_iconst (v := 0) hx hb dX8_search_105 (by decide) ?_
                subst hQ
                exact W.zret (v := 0) hx hb hr (by rfl) (fun t ht hW => ⟨⟨_, u_15, rfl, h, by rw [ht]; exact hP, hD⟩, hS.F ht⟩) hS.2.2 dX8_search_106
abbrev rm_X8_isLeast : Room := { frames := 2, cells := 0, slots := 0, locals := 48 }
set_option maxHeartbeats 4000000 in
set_option maxRecDepth 100000 in
theorem c_X8_isLeast (l : Launch) (dC : Nat → ClassId) (dI : Nat → Nat → Nat) (a : Nat → Nat) (ca : Nat → ClassId) (sz : Nat) (u : Ob) (x1 : Int32) (post : Int32 → Prop) (h : wp_X8_isLeast u x1 post) : Met l yX8_isLeast wsX8_isLeast rm_X8_isLeast (va_Pc [.ref (a 0), .int x1] (fun U => U.heap.size = sz ∧ va_P (dC, dI) vwCl (wd_X8 a ca u) U.heap ∧ va_K (dC, dI) vwCl (ty_X8 ca) U ∧ va_D (fun _ => True) (wd_X8 a ca u))) (va_Qi (fun (rr : Int32) (_ : Unit) => post rr) (fun (zz : Unit) (t : State) => va_P (dC, dI) vwCl (wd_X8 a ca u) t.heap ∧ va_D (va_A (wd_X8 a ca u) sz) (wd_X8 a ca u)) (va_A (wd_X8 a ca u) sz)) 0 0 (va_A (wd_X8 a ca u) sz) := by
  refine fl_ofW (cc := cX8_isLeast) (maxL := 4) (ret := (some .boolean)) (by decide) rfl ?_
  intro p e s m args below meth c s₁ Q B hml hv hQ
  obtain ⟨hargs, hsz, hP, hK, hD0⟩ := hv
  have hx := B.exec
  have hb := B.bytes
  have hr := B.returns
  have hts := atoms_spec (ws := wsX8_isLeast) B.pre
  have hown : s.vm.findClass RX8 = some m.cls := findClass_of_methodNamed B.named
  subst hsz
  have hD := hD0.self (sz := s.heap.size)
  generalize hAe : va_A (wd_X8 a ca u) s.heap.size = A at hD hQ
  have hA : ∀ q : Nat, s.heap.size ≤ q → A q := fun q h => by rw [← hAe]; exact Or.inr h
  have hS : va_S A s.heap s.heap [] := va_S.rf
  have hl := lv_entry ([.ref (a 0), .int x1]) (n := 4) (Nat.le_of_ble_eq_true rfl)
  refine W.eq (g2 := F0 m 0 ((lg_sl ([.ref (a 0), .int x1]) ++ List.replicate (4 - (lg_sl ([.ref (a 0), .int x1])).length) Slot.unset).toArray) []) (by rw [hargs]; exact lg_entry_eq m _ 4) ?_
  generalize (lg_sl ([.ref (a 0), .int x1]) ++ List.replicate (4 - (lg_sl ([.ref (a 0), .int x1])).length) Slot.unset).toArray = ls at hl ⊢
  have hl : lv_has ls 4 [(0, .ref (a 0)), (1, .int x1)] := hl
  suffices hstart : ∀ (H : Heap) (locs : List Loc) (ls : Array Slot), va_P (dC, dI) vwCl (wd_X8 a ca u) H → va_D A (wd_X8 a ca u) → va_S A s.heap H locs → lv_has ls 4 [(0, .ref (a 0)), (1, .int x1)] → W p l e (headSpec wsX8_isLeast rm_X8_isLeast).room s m args below meth c H locs 0 0 Q (F0 m 0 ls []) from hstart _ _ _ hP hD hS hl
  clear hS hP hD hD0
  intro H locs ls hP hD hS hl
  have hin_X8 : ∀ w ∈ wsX80, w ∈ wsX8_isLeast := by decide +kernel
  have lk_0 := hts (.fieldLink RX8 143 "ForgettingLinesModel" "many" "I") (by decide +kernel)
  unfold wp_X8_isLeast at h
  refine lv_iconst (v := 1) hx hb dX8_isLeast_0 (by decide) ?_
  refine lv_istore_n (lv' := [(2, .int 1), (0, .ref (a 0)), (1, .int x1)]) hx hb dX8_isLeast_1 rfl hl (by decide) rfl (fun ls hl => ?_)
  refine lv_iconst (v := 0) hx hb dX8_isLeast_2 (by decide) ?_
  refine lv_istore_n (lv' := [(3, .int 0), (2, .int 1), (0, .ref (a 0)), (1, .int x1)]) hx hb dX8_isLeast_3 rfl hl (by decide) rfl (fun ls hl => ?_)
  obtain ⟨n_11, h⟩ := h
  refine lq2_ind (GG := (fun (v3_2 : Int32) (v2_3 : Int32) => ∀ (H : Heap) (locs : List Loc) (ls : Array Slot), va_P (dC, dI) vwCl (wd_X8 a ca u) H → va_D A (wd_X8 a ca u) → va_S A s.heap H locs → lv_has ls 4 [(3, .int v3_2), (2, .int v2_3), (0, .ref (a 0)), (1, .int x1)] → W p l e (headSpec wsX8_isLeast rm_X8_isLeast).room s m args below meth c H locs 0 0 Q (F0 m 4 ls []))) (fun LL_1 ih_LL_1 v3_2 v2_3 h H locs ls hP hD hS hl => ?_) n_11 _ _ h _ _ _ hP hD hS (lv_sub hl [0, 1, 2, 3] rfl)
  refine lv_iload_n hx hb dX8_isLeast_4 rfl (lv_at hl 0 rfl) ?_
  refine lv_aload_n hx hb dX8_isLeast_5 rfl (lv_at hl 2 rfl) ?_
  refine va_get (D := (dC, dI)) (ci := 7) (v := .int (u.1 16)) (C := RX8) (T := TX8) (N := 25) hx hb hts hin_X8 hown hK hP 0 rfl rfl 16 (by decide) lk_0 (fun _ h9 => h9) rfl dX8_isLeast_6 ?_
  refine lv_icmp_ge (tgt := 42) hx hb dX8_isLeast_9 (by decide) (fun hc_4 => ?_) (fun hc_4 => ?_)
  · replace h := h.1 hc_4
    refine lv_iload_n hx hb dX8_isLeast_42 rfl (lv_at hl 1 rfl) ?_
    obtain ⟨hz, h⟩ := h
    subst hQ
    exact W.zret (v := v2_3) hx hb hr hz (fun t ht hW => ⟨⟨_, (), rfl, h, by rw [ht]; exact hP, hD⟩, hS.F ht⟩) hS.2.2 dX8_isLeast_43
  · replace h := h.2 hc_4
    refine lv_iload_n hx hb dX8_isLeast_12 rfl (lv_at hl 1 rfl) ?_
    refine lv_if_eq (tgt := 42) hx hb dX8_isLeast_13 (by decide) (fun hc_5 => ?_) (fun hc_5 => ?_)
    · replace h := h.1 hc_5
      refine lv_iload_n hx hb dX8_isLeast_42 rfl (lv_at hl 1 rfl) ?_
      obtain ⟨hz, h⟩ := h
      subst hQ
      exact W.zret (v := v2_3) hx hb hr hz (fun t ht hW => ⟨⟨_, (), rfl, h, by rw [ht]; exact hP, hD⟩, hS.F ht⟩) hS.2.2 dX8_isLeast_43
    · replace h := h.2 hc_5
      refine lv_iload_n hx hb dX8_isLeast_16 rfl (lv_at hl 0 rfl) ?_
      refine lv_iload_n hx hb dX8_isLeast_17 rfl (lv_at hl 3 rfl) ?_
      refine jn1_ind (GG := (fun (w_7 : Int32) => ∀ (H : Heap) (locs : List Loc) (ls : Array Slot), va_P (dC, dI) vwCl (wd_X8 a ca u) H → va_D A (wd_X8 a ca u) → va_S A s.heap H locs → lv_has ls 4 [(3, .int v3_2), (0, .ref (a 0)), (1, .int x1)] → W p l e (headSpec wsX8_isLeast rm_X8_isLeast).room s m args below meth c H locs 0 0 Q (F0 m 35 ls [.int w_7]))) h (fun w_7 h H locs ls hP hD hS hl => ?_) (fun JJ_6 ih_JJ_6 h => ?_)
      · refine lv_istore_n (lv' := [(2, .int w_7), (3, .int v3_2), (0, .ref (a 0)), (1, .int x1)]) hx hb dX8_isLeast_35 rfl hl (by decide) rfl (fun ls hl => ?_)
        refine lv_iinc (v := (v3_2 + 1)) (lv' := [(3, .int (v3_2 + 1)), (2, .int w_7), (0, .ref (a 0)), (1, .int x1)]) hx hb dX8_isLeast_36 hl (k := 1) rfl rfl (by decide) rfl (fun ls hl => ?_)
        refine lv_goto (tgt := 4) hx hb dX8_isLeast_39 (by decide) ?_
        exact ih_LL_1 _ _ h _ _ _ hP hD hS (lv_sub hl [0, 1, 2, 3] rfl)
      · refine lv_icmp_eq (tgt := 30) hx hb dX8_isLeast_18 (by decide) (fun hc_8 => ?_) (fun hc_8 => ?_)
        · replace h := h.1 hc_8
          refine lv_iconst (v := 1) hx hb dX8_isLeast_30 (by decide) ?_
          refine lv_goto (tgt := 35) hx hb dX8_isLeast_31 (by decide) ?_
          exact ih_JJ_6 _ h _ _ _ hP hD hS (lv_sub hl [0, 2, 3] rfl)
        · replace h := h.2 hc_8
          refine lv_aload_n hx hb dX8_isLeast_21 rfl (lv_at hl 2 rfl) ?_
          refine lv_iload_n hx hb dX8_isLeast_22 rfl (lv_at hl 0 rfl) ?_
          refine lv_iload_n hx hb dX8_isLeast_23 rfl (lv_at hl 3 rfl) ?_
          have hPc := hP
          have hDc := hD
          have hKc := hK
          have hFc := va_free (wc := (wd_X8 a ca u)) hD hS hA [0, 1, 2, 3, 4, 5, 6, 7, 8, 9, 10, 11, 12, 13, 14, 15, 16, 17, 18, 19] rfl
          refine va_calli (va_runV (As := [.int v3_2, .int x1]) (rest := []) ⟨hx, hb, hml, hown, hts⟩ (c_X8_isBelow l dC dI a ca H.size u v3_2 x1 _ h) (cwV 2 hts gX8_isLeast_X8_isBelow rfl rfl rfl (by decide +kernel) ⟨Nat.le_of_ble_eq_true rfl, Nat.le_of_ble_eq_true rfl⟩) ⟨fun a U g mk q => by obtain ⟨q0, q1, qP, qK, qD⟩ := q; exact ⟨q0, q1, qP, va_K.moved (u := U) (U := U.calling g mk a) (Vm.Alike.refl U.vm) qK, qD⟩, va_recv hKc hPc (ci := 7) (q0 := 0) rfl rfl, fun U hU hW => ⟨rfl, by rw [hU], by rw [hU]; exact hPc, va_K.moved hW.alike hKc, hDc.weaken (fun _ _ _ _ => trivial)⟩⟩ rfl rfl hl.1 rfl (lv_room (Nat.le_of_ble_eq_true rfl)) dX8_isLeast_24 ⟨Nat.zero_le _, Nat.zero_le _⟩) hS (fun q _ h => hFc q h) hFc (fun r_9 zz t H1 locs ht hvm hw hB hz1 hk1 hS => ?_)
          replace h := hw
          obtain ⟨hP1, hD1⟩ := hB
          rw [ht] at hP1
          replace hD : va_D A (wd_X8 a ca u) := hD1.weaken (fun _ _ _ h9 => hFc _ h9)
          replace hP : va_P (dC, dI) vwCl (wd_X8 a ca u) H1 := hP1
          generalize H1 = H at hP hS ⊢
          refine lv_if_ne (tgt := 34) hx hb dX8_isLeast_27 (by decide) (fun hc_10 => ?_) (fun hc_10 => ?_)
          · replace h := h.1 hc_10
            refine lv_iconst (v := 0) hx hb dX8_isLeast_34 (by decide) ?_
            exact ih_JJ_6 _ h _ _ _ hP hD hS (lv_sub hl [0, 2, 3] rfl)
          · replace h := h.2 hc_10
            refine lv_iconst (v := 1) hx hb dX8_isLeast_30 (by decide) ?_
            refine lv_goto (tgt := 35) hx hb dX8_isLeast_31 (by decide) ?_
            exact ih_JJ_6 _ h _ _ _ hP hD hS (lv_sub hl [0, 2, 3] rfl)
abbrev rm_X8_found : Room := { frames := 4, cells := 0, slots := 0, locals := 95 }
set_option maxHeartbeats 4000000 in
set_option maxRecDepth 100000 in
theorem c_X8_found (l : Launch) (dC : Nat → ClassId) (dI : Nat → Nat → Nat) (a : Nat → Nat) (ca : Nat → ClassId) (sz : Nat) (u : Ob) (post : Int32 → Ob → Prop) (h : wp_X8_found u post) : Met l yX8_found wsX8_found rm_X8_found (va_Pc [.ref (a 0)] (fun U => U.heap.size = sz ∧ va_P (dC, dI) vwCl (wd_X8 a ca u) U.heap ∧ va_K (dC, dI) vwCl (ty_X8 ca) U ∧ va_D (fun _ => True) (wd_X8 a ca u))) (va_Qi post (fun (zz : Ob) (t : State) => va_P (dC, dI) vwCl (wd_X8 a ca zz) t.heap ∧ va_D (va_A (wd_X8 a ca u) sz) (wd_X8 a ca zz)) (va_A (wd_X8 a ca u) sz)) 0 0 (va_A (wd_X8 a ca u) sz) := by
  refine fl_ofW (cc := cX8_found) (maxL := 1) (ret := (some .int)) (by decide) rfl ?_
  intro p e s m args below meth c s₁ Q B hml hv hQ
  obtain ⟨hargs, hsz, hP, hK, hD0⟩ := hv
  have hx := B.exec
  have hb := B.bytes
  have hr := B.returns
  have hts := atoms_spec (ws := wsX8_found) B.pre
  have hown : s.vm.findClass RX8 = some m.cls := findClass_of_methodNamed B.named
  subst hsz
  have hD := hD0.self (sz := s.heap.size)
  generalize hAe : va_A (wd_X8 a ca u) s.heap.size = A at hD hQ
  have hA : ∀ q : Nat, s.heap.size ≤ q → A q := fun q h => by rw [← hAe]; exact Or.inr h
  have hS : va_S A s.heap s.heap [] := va_S.rf
  have hl := lv_entry ([.ref (a 0)]) (n := 1) (Nat.le_of_ble_eq_true rfl)
  refine W.eq (g2 := F0 m 0 ((lg_sl ([.ref (a 0)]) ++ List.replicate (1 - (lg_sl ([.ref (a 0)])).length) Slot.unset).toArray) []) (by rw [hargs]; exact lg_entry_eq m _ 1) ?_
  generalize (lg_sl ([.ref (a 0)]) ++ List.replicate (1 - (lg_sl ([.ref (a 0)])).length) Slot.unset).toArray = ls at hl ⊢
  have hl : lv_has ls 1 [(0, .ref (a 0))] := hl
  suffices hstart : ∀ (H : Heap) (locs : List Loc) (ls : Array Slot), va_P (dC, dI) vwCl (wd_X8 a ca u) H → va_D A (wd_X8 a ca u) → va_S A s.heap H locs → lv_has ls 1 [(0, .ref (a 0))] → W p l e (headSpec wsX8_found rm_X8_found).room s m args below meth c H locs 0 0 Q (F0 m 0 ls []) from hstart _ _ _ hP hD hS hl
  clear hS hP hD hD0
  intro H locs ls hP hD hS hl
  have hin_X8 : ∀ w ∈ wsX80, w ∈ wsX8_found := by decide +kernel
  have lk_0 := hts (.fieldLink RX8 143 "ForgettingLinesModel" "many" "I") (by decide +kernel)
  unfold wp_X8_found at h
  refine lv_aload_n hx hb dX8_found_0 rfl (lv_at hl 0 rfl) ?_
  have hPc := hP
  have hDc := hD
  have hKc := hK
  have hFc := va_free (wc := (wd_X8 a ca u)) hD hS hA [0, 1, 2, 3, 4, 5, 6, 7, 8, 9, 10, 11, 12, 13, 14, 15, 16, 17, 18, 19] rfl
  refine va_calli (va_runV (As := []) (rest := []) ⟨hx, hb, hml, hown, hts⟩ (c_X8_search l dC dI a ca H.size u _ h) (cwV 0 hts gX8_found_X8_search rfl rfl rfl (by decide +kernel) ⟨Nat.le_of_ble_eq_true rfl, Nat.le_of_ble_eq_true rfl⟩) ⟨fun a U g mk q => by obtain ⟨q0, q1, qP, qK, qD⟩ := q; exact ⟨q0, q1, qP, va_K.moved (u := U) (U := U.calling g mk a) (Vm.Alike.refl U.vm) qK, qD⟩, va_recv hKc hPc (ci := 7) (q0 := 0) rfl rfl, fun U hU hW => ⟨rfl, by rw [hU], by rw [hU]; exact hPc, va_K.moved hW.alike hKc, hDc.weaken (fun _ _ _ _ => trivial)⟩⟩ rfl rfl hl.1 rfl (lv_room (Nat.le_of_ble_eq_true rfl)) dX8_found_1 ⟨Nat.zero_le _, Nat.zero_le _⟩) hS (fun q _ h => hFc q h) hFc (fun r_1 zz t H1 locs ht hvm hw hB hz1 hk1 hS => ?_)
  obtain ⟨u_2, rfl⟩ : ∃ z, z = zz := ⟨_, rfl⟩
  replace h := hw
  obtain ⟨hP1, hD1⟩ := hB
  rw [ht] at hP1
  replace hD : va_D A (wd_X8 a ca u_2) := hD1.weaken (fun _ _ _ h9 => hFc _ h9)
  replace hP : va_P (dC, dI) vwCl (wd_X8 a ca u_2) H1 := hP1
  generalize H1 = H at hP hS ⊢
  refine lv_if_eq (tgt := 14) hx hb dX8_found_4 (by decide) (fun hc_3 => ?_) (fun hc_3 => ?_)
  · replace h := h.1 hc_3
    refine lv_bipush (v := (-3)) hx hb dX8_found_14 (by decide) ?_
    subst hQ
    exact W.iret (v := (-3)) hx hb hr (fun t ht hW => ⟨⟨_, u_2, rfl, h, by rw [ht]; exact hP, hD⟩, hS.F ht⟩) hS.2.2 dX8_found_16
  · replace h := h.2 hc_3
    refine lv_aload_n hx hb dX8_found_7 rfl (lv_at hl 0 rfl) ?_
    refine va_get (D := (dC, dI)) (ci := 7) (v := .int (u_2.1 16)) (C := RX8) (T := TX8) (N := 25) hx hb hts hin_X8 hown hK hP 0 rfl rfl 16 (by decide) lk_0 (fun _ h9 => h9) rfl dX8_found_8 ?_
    refine lv_goto (tgt := 16) hx hb dX8_found_11 (by decide) ?_
    subst hQ
    exact W.iret (v := (u_2.1 16)) hx hb hr (fun t ht hW => ⟨⟨_, u_2, rfl, h, by rw [ht]; exact hP, hD⟩, hS.F ht⟩) hS.2.2 dX8_found_16
abbrev rm_X8_about : Room := { frames := 4, cells := 0, slots := 0, locals := 95 }
set_option maxHeartbeats 4000000 in
set_option maxRecDepth 100000 in
theorem c_X8_about (l : Launch) (dC : Nat → ClassId) (dI : Nat → Nat → Nat) (a : Nat → Nat) (ca : Nat → ClassId) (sz : Nat) (u : Ob) (x1 : Int32) (x2 : Int32) (post : Int32 → Ob → Prop) (h : wp_X8_about u x1 x2 post) : Met l yX8_about wsX8_about rm_X8_about (va_Pc [.ref (a 0), .int x1, .int x2] (fun U => U.heap.size = sz ∧ va_P (dC, dI) vwCl (wd_X8 a ca u) U.heap ∧ va_K (dC, dI) vwCl (ty_X8 ca) U ∧ va_D (fun _ => True) (wd_X8 a ca u))) (va_Qi post (fun (zz : Ob) (t : State) => va_P (dC, dI) vwCl (wd_X8 a ca zz) t.heap ∧ va_D (va_A (wd_X8 a ca u) sz) (wd_X8 a ca zz)) (va_A (wd_X8 a ca u) sz)) 0 0 (va_A (wd_X8 a ca u) sz) := by
  refine fl_ofW (cc := cX8_about) (maxL := 3) (ret := (some .int)) (by decide) rfl ?_
  intro p e s m args below meth c s₁ Q B hml hv hQ
  obtain ⟨hargs, hsz, hP, hK, hD0⟩ := hv
  have hx := B.exec
  have hb := B.bytes
  have hr := B.returns
  have hts := atoms_spec (ws := wsX8_about) B.pre
  have hown : s.vm.findClass RX8 = some m.cls := findClass_of_methodNamed B.named
  subst hsz
  have hD := hD0.self (sz := s.heap.size)
  generalize hAe : va_A (wd_X8 a ca u) s.heap.size = A at hD hQ
  have hA : ∀ q : Nat, s.heap.size ≤ q → A q := fun q h => by rw [← hAe]; exact Or.inr h
  have hS : va_S A s.heap s.heap [] := va_S.rf
  have hl := lv_entry ([.ref (a 0), .int x1, .int x2]) (n := 3) (Nat.le_of_ble_eq_true rfl)
  refine W.eq (g2 := F0 m 0 ((lg_sl ([.ref (a 0), .int x1, .int x2]) ++ List.replicate (3 - (lg_sl ([.ref (a 0), .int x1, .int x2])).length) Slot.unset).toArray) []) (by rw [hargs]; exact lg_entry_eq m _ 3) ?_
  generalize (lg_sl ([.ref (a 0), .int x1, .int x2]) ++ List.replicate (3 - (lg_sl ([.ref (a 0), .int x1, .int x2])).length) Slot.unset).toArray = ls at hl ⊢
  have hl : lv_has ls 3 [(0, .ref (a 0)), (1, .int x1), (2, .int x2)] := hl
  suffices hstart : ∀ (H : Heap) (locs : List Loc) (ls : Array Slot), va_P (dC, dI) vwCl (wd_X8 a ca u) H → va_D A (wd_X8 a ca u) → va_S A s.heap H locs → lv_has ls 3 [(0, .ref (a 0)), (1, .int x1), (2, .int x2)] → W p l e (headSpec wsX8_about rm_X8_about).room s m args below meth c H locs 0 0 Q (F0 m 0 ls []) from hstart _ _ _ hP hD hS hl
  clear hS hP hD hD0
  intro H locs ls hP hD hS hl
  have hin_X8 : ∀ w ∈ wsX80, w ∈ wsX8_about := by decide +kernel
  have lk_0 := hts (.fieldLink RX8 143 "ForgettingLinesModel" "many" "I") (by decide +kernel)
  have lk_1 := hts (.fieldLink RX8 39 "ForgettingLinesModel" "stateOf" "[I") (by decide +kernel)
  have lk_2 := hts (.fieldLink RX8 48 "ForgettingLinesModel" "rounds" "[I") (by decide +kernel)
  have lk_3 := hts (.fieldLink RX8 42 "ForgettingLinesModel" "sizes" "[I") (by decide +kernel)
  have lk_4 := hts (.fieldLink RX8 51 "ForgettingLinesModel" "byArc" "[I") (by decide +kernel)
  have lk_5 := hts (.fieldLink RX8 54 "ForgettingLinesModel" "aheadOf" "[I") (by decide +kernel)
  unfold wp_X8_about at h
  refine lv_iload_n hx hb dX8_about_0 rfl (lv_at hl 1 rfl) ?_
  refine lv_if_lt (tgt := 14) hx hb dX8_about_1 (by decide) (fun hc_1 => ?_) (fun hc_1 => ?_)
  · replace h := h.1 hc_1
    refine lv_iconst (v := (-1)) hx hb dX8_about_14 (by decide) ?_
    subst hQ
    exact W.iret (v := (-1)) hx hb hr (fun t ht hW => ⟨⟨_, u, rfl, h, by rw [ht]; exact hP, hD⟩, hS.F ht⟩) hS.2.2 dX8_about_15
  · replace h := h.2 hc_1
    refine lv_iload_n hx hb dX8_about_4 rfl (lv_at hl 2 rfl) ?_
    refine lv_iconst (v := 0) hx hb dX8_about_5 (by decide) ?_
    refine lv_bipush (v := 6) hx hb dX8_about_6 (by decide) ?_
    have hFc := fl_freeN hS hA
    refine va_calli (va_runS (As := [.int x2, .int 0, .int 6]) (rest := []) ⟨hx, hb, hml, hown, hts⟩ (c_X8_in l H.size x2 0 6 _ h) (va_cwS 3 hts gX8_about_X8_in rfl rfl rfl (by decide +kernel) ⟨Nat.le_of_ble_eq_true rfl, Nat.le_of_ble_eq_true rfl⟩) ⟨fun a U g mk q => by obtain ⟨q0, q1⟩ := q; exact ⟨q0, q1⟩, fun U hU hW => ⟨rfl, congrArg Array.size hU⟩⟩ rfl rfl hl.1 rfl (lv_room (Nat.le_of_ble_eq_true rfl)) dX8_about_8 ⟨Nat.zero_le _, Nat.zero_le _⟩) hS (fun q _ h => hFc q h) hFc (fun r_2 zz t H1 locs ht hvm hw hB hz1 hk1 hS => ?_)
    replace hP := fl_keep hP hk1
    replace h := hw
    generalize H1 = H at hP hS ⊢
    refine lv_if_ne (tgt := 16) hx hb dX8_about_11 (by decide) (fun hc_3 => ?_) (fun hc_3 => ?_)
    · replace h := h.1 hc_3
      refine lv_aload_n hx hb dX8_about_16 rfl (lv_at hl 0 rfl) ?_
      have hPc := hP
      have hDc := hD
      have hKc := hK
      have hFc := va_free (wc := (wd_X8 a ca u)) hD hS hA [0, 1, 2, 3, 4, 5, 6, 7, 8, 9, 10, 11, 12, 13, 14, 15, 16, 17, 18, 19] rfl
      refine va_calli (va_runV (As := []) (rest := []) ⟨hx, hb, hml, hown, hts⟩ (c_X8_search l dC dI a ca H.size u _ h) (cwV 0 hts gX8_about_X8_search rfl rfl rfl (by decide +kernel) ⟨Nat.le_of_ble_eq_true rfl, Nat.le_of_ble_eq_true rfl⟩) ⟨fun a U g mk q => by obtain ⟨q0, q1, qP, qK, qD⟩ := q; exact ⟨q0, q1, qP, va_K.moved (u := U) (U := U.calling g mk a) (Vm.Alike.refl U.vm) qK, qD⟩, va_recv hKc hPc (ci := 7) (q0 := 0) rfl rfl, fun U hU hW => ⟨rfl, by rw [hU], by rw [hU]; exact hPc, va_K.moved hW.alike hKc, hDc.weaken (fun _ _ _ _ => trivial)⟩⟩ rfl rfl hl.1 rfl (lv_room (Nat.le_of_ble_eq_true rfl)) dX8_about_17 ⟨Nat.zero_le _, Nat.zero_le _⟩) hS (fun q _ h => hFc q h) hFc (fun r_4 zz t H1 locs ht hvm hw hB hz1 hk1 hS => ?_)
      obtain ⟨u_5, rfl⟩ : ∃ z, z = zz := ⟨_, rfl⟩
      replace h := hw
      obtain ⟨hP1, hD1⟩ := hB
      rw [ht] at hP1
      replace hD : va_D A (wd_X8 a ca u_5) := hD1.weaken (fun _ _ _ h9 => hFc _ h9)
      replace hP : va_P (dC, dI) vwCl (wd_X8 a ca u_5) H1 := hP1
      generalize H1 = H at hP hS ⊢
      refine lv_if_ne (tgt := 26) hx hb dX8_about_20 (by decide) (fun hc_6 => ?_) (fun hc_6 => ?_)
      · replace h := h.1 hc_6
        refine lv_iload_n hx hb dX8_about_26 rfl (lv_at hl 1 rfl) ?_
        refine lv_aload_n hx hb dX8_about_27 rfl (lv_at hl 0 rfl) ?_
        refine va_get (D := (dC, dI)) (ci := 7) (v := .int (u_5.1 16)) (C := RX8) (T := TX8) (N := 25) hx hb hts hin_X8 hown hK hP 0 rfl rfl 16 (by decide) lk_0 (fun _ h9 => h9) rfl dX8_about_28 ?_
        refine lv_icmp_lt (tgt := 36) hx hb dX8_about_31 (by decide) (fun hc_7 => ?_) (fun hc_7 => ?_)
        · replace h := h.1 hc_7
          refine lv_iload_n hx hb dX8_about_36 rfl (lv_at hl 2 rfl) ?_
          by_cases hs_8 : x2 = 0
          · replace h := h.1 hs_8
            refine lv_tableIn (tgt := 76) hx hb dX8_about_37 (by rw [hs_8]; decide) (by rw [hs_8]; decide) (by rw [hs_8]; rfl) (by decide) ?_
            refine lv_aload_n hx hb dX8_about_76 rfl (lv_at hl 0 rfl) ?_
            refine va_get (D := (dC, dI)) (ci := 7) (v := .ref (a 14)) (C := RX8) (T := TX8) (N := 25) hx hb hts hin_X8 hown hK hP 0 rfl rfl 13 (by decide) lk_1 (fun _ h9 => h9) rfl dX8_about_77 ?_
            refine lv_iload_n hx hb dX8_about_80 rfl (lv_at hl 1 rfl) ?_
            obtain ⟨hi_9, h⟩ := h
            refine va_iald (D := (dC, dI)) (cl := vwCl) (i := x1) hx hb hK hP 9 8 rfl rfl hi_9 dX8_about_81 ?_
            subst hQ
            exact W.iret (v := (u_5.2.1 13 x1.toNatClampNeg)) hx hb hr (fun t ht hW => ⟨⟨_, u_5, rfl, h, by rw [ht]; exact hP, hD⟩, hS.F ht⟩) hS.2.2 dX8_about_82
          · replace h := h.2 hs_8
            by_cases hs_10 : x2 = 1
            · replace h := h.1 hs_10
              refine lv_tableIn (tgt := 83) hx hb dX8_about_37 (by rw [hs_10]; decide) (by rw [hs_10]; decide) (by rw [hs_10]; rfl) (by decide) ?_
              refine lv_aload_n hx hb dX8_about_83 rfl (lv_at hl 0 rfl) ?_
              refine va_get (D := (dC, dI)) (ci := 7) (v := .ref (a 18)) (C := RX8) (T := TX8) (N := 25) hx hb hts hin_X8 hown hK hP 0 rfl rfl 17 (by decide) lk_2 (fun _ h9 => h9) rfl dX8_about_84 ?_
              refine lv_iload_n hx hb dX8_about_87 rfl (lv_at hl 1 rfl) ?_
              obtain ⟨hi_11, h⟩ := h
              refine va_iald (D := (dC, dI)) (cl := vwCl) (i := x1) hx hb hK hP 12 11 rfl rfl hi_11 dX8_about_88 ?_
              subst hQ
              exact W.iret (v := (u_5.2.1 17 x1.toNatClampNeg)) hx hb hr (fun t ht hW => ⟨⟨_, u_5, rfl, h, by rw [ht]; exact hP, hD⟩, hS.F ht⟩) hS.2.2 dX8_about_89
            · replace h := h.2 hs_10
              by_cases hs_12 : x2 = 2
              · replace h := h.1 hs_12
                refine lv_tableIn (tgt := 90) hx hb dX8_about_37 (by rw [hs_12]; decide) (by rw [hs_12]; decide) (by rw [hs_12]; rfl) (by decide) ?_
                refine lv_aload_n hx hb dX8_about_90 rfl (lv_at hl 0 rfl) ?_
                refine va_get (D := (dC, dI)) (ci := 7) (v := .ref (a 15)) (C := RX8) (T := TX8) (N := 25) hx hb hts hin_X8 hown hK hP 0 rfl rfl 14 (by decide) lk_3 (fun _ h9 => h9) rfl dX8_about_91 ?_
                refine lv_iconst (v := 2) hx hb dX8_about_94 (by decide) ?_
                refine lv_iload_n hx hb dX8_about_95 rfl (lv_at hl 1 rfl) ?_
                refine lv_imul hx hb dX8_about_96 ?_
                refine lv_iload_n hx hb dX8_about_97 rfl (lv_at hl 2 rfl) ?_
                refine lv_iadd hx hb dX8_about_98 ?_
                refine lv_iconst (v := 2) hx hb dX8_about_99 (by decide) ?_
                refine lv_isub hx hb dX8_about_100 ?_
                obtain ⟨hi_13, h⟩ := h
                refine va_iald (D := (dC, dI)) (cl := vwCl) (i := (((2 * x1) + x2) - 2)) hx hb hK hP 10 9 rfl rfl hi_13 dX8_about_101 ?_
                subst hQ
                exact W.iret (v := (u_5.2.1 14 (((2 * x1) + x2) - 2).toNatClampNeg)) hx hb hr (fun t ht hW => ⟨⟨_, u_5, rfl, h, by rw [ht]; exact hP, hD⟩, hS.F ht⟩) hS.2.2 dX8_about_102
              · replace h := h.2 hs_12
                by_cases hs_14 : x2 = 3
                · replace h := h.1 hs_14
                  refine lv_tableIn (tgt := 90) hx hb dX8_about_37 (by rw [hs_14]; decide) (by rw [hs_14]; decide) (by rw [hs_14]; rfl) (by decide) ?_
                  refine lv_aload_n hx hb dX8_about_90 rfl (lv_at hl 0 rfl) ?_
                  refine va_get (D := (dC, dI)) (ci := 7) (v := .ref (a 15)) (C := RX8) (T := TX8) (N := 25) hx hb hts hin_X8 hown hK hP 0 rfl rfl 14 (by decide) lk_3 (fun _ h9 => h9) rfl dX8_about_91 ?_
                  refine lv_iconst (v := 2) hx hb dX8_about_94 (by decide) ?_
                  refine lv_iload_n hx hb dX8_about_95 rfl (lv_at hl 1 rfl) ?_
                  refine lv_imul hx hb dX8_about_96 ?_
                  refine lv_iload_n hx hb dX8_about_97 rfl (lv_at hl 2 rfl) ?_
                  refine lv_iadd hx hb dX8_about_98 ?_
                  refine lv_iconst (v := 2) hx hb dX8_about_99 (by decide) ?_
                  refine lv_isub hx hb dX8_about_100 ?_
                  obtain ⟨hi_15, h⟩ := h
                  refine va_iald (D := (dC, dI)) (cl := vwCl) (i := (((2 * x1) + x2) - 2)) hx hb hK hP 10 9 rfl rfl hi_15 dX8_about_101 ?_
                  subst hQ
                  exact W.iret (v := (u_5.2.1 14 (((2 * x1) + x2) - 2).toNatClampNeg)) hx hb hr (fun t ht hW => ⟨⟨_, u_5, rfl, h, by rw [ht]; exact hP, hD⟩, hS.F ht⟩) hS.2.2 dX8_about_102
                · replace h := h.2 hs_14
                  by_cases hs_16 : x2 = 4
                  · replace h := h.1 hs_16
                    refine lv_tableIn (tgt := 103) hx hb dX8_about_37 (by rw [hs_16]; decide) (by rw [hs_16]; decide) (by rw [hs_16]; rfl) (by decide) ?_
                    refine lv_aload_n hx hb dX8_about_103 rfl (lv_at hl 0 rfl) ?_
                    refine va_get (D := (dC, dI)) (ci := 7) (v := .ref (a 19)) (C := RX8) (T := TX8) (N := 25) hx hb hts hin_X8 hown hK hP 0 rfl rfl 18 (by decide) lk_4 (fun _ h9 => h9) rfl dX8_about_104 ?_
                    refine lv_iload_n hx hb dX8_about_107 rfl (lv_at hl 1 rfl) ?_
                    obtain ⟨hi_17, h⟩ := h
                    refine va_iald (D := (dC, dI)) (cl := vwCl) (i := x1) hx hb hK hP 13 12 rfl rfl hi_17 dX8_about_108 ?_
                    subst hQ
                    exact W.iret (v := (u_5.2.1 18 x1.toNatClampNeg)) hx hb hr (fun t ht hW => ⟨⟨_, u_5, rfl, h, by rw [ht]; exact hP, hD⟩, hS.F ht⟩) hS.2.2 dX8_about_109
                  · replace h := h.2 hs_16
                    by_cases hs_18 : x2 = 5
                    · replace h := h.1 hs_18
                      refine lv_tableIn (tgt := 110) hx hb dX8_about_37 (by rw [hs_18]; decide) (by rw [hs_18]; decide) (by rw [hs_18]; rfl) (by decide) ?_
                      refine lv_aload_n hx hb dX8_about_110 rfl (lv_at hl 0 rfl) ?_
                      refine va_get (D := (dC, dI)) (ci := 7) (v := .ref (a 20)) (C := RX8) (T := TX8) (N := 25) hx hb hts hin_X8 hown hK hP 0 rfl rfl 19 (by decide) lk_5 (fun _ h9 => h9) rfl dX8_about_111 ?_
                      refine lv_iload_n hx hb dX8_about_114 rfl (lv_at hl 1 rfl) ?_
                      obtain ⟨hi_19, h⟩ := h
                      refine va_iald (D := (dC, dI)) (cl := vwCl) (i := x1) hx hb hK hP 14 13 rfl rfl hi_19 dX8_about_115 ?_
                      subst hQ
                      exact W.iret (v := (u_5.2.1 19 x1.toNatClampNeg)) hx hb hr (fun t ht hW => ⟨⟨_, u_5, rfl, h, by rw [ht]; exact hP, hD⟩, hS.F ht⟩) hS.2.2 dX8_about_116
                    · replace h := h.2 hs_18
                      have ths_8 := lv_neT (a := 0) hs_8 rfl
                      have ths_10 := lv_neT (a := 1) hs_10 rfl
                      have ths_12 := lv_neT (a := 2) hs_12 rfl
                      have ths_14 := lv_neT (a := 3) hs_14 rfl
                      have ths_16 := lv_neT (a := 4) hs_16 rfl
                      have ths_18 := lv_neT (a := 5) hs_18 rfl
                      refine lv_tableOut (tgt := 117) hx hb dX8_about_37 (by omega) (by decide) ?_
                      refine lv_aload_n hx hb dX8_about_117 rfl (lv_at hl 0 rfl) ?_
                      refine lv_iload_n hx hb dX8_about_118 rfl (lv_at hl 1 rfl) ?_
                      have hPc := hP
                      have hDc := hD
                      have hKc := hK
                      have hFc := va_free (wc := (wd_X8 a ca u_5)) hD hS hA [0, 1, 2, 3, 4, 5, 6, 7, 8, 9, 10, 11, 12, 13, 14, 15, 16, 17, 18, 19] rfl
                      refine va_calli (va_runV (As := [.int x1]) (rest := []) ⟨hx, hb, hml, hown, hts⟩ (c_X8_isLeast l dC dI a ca H.size u_5 x1 _ h) (cwV 1 hts gX8_about_X8_isLeast rfl rfl rfl (by decide +kernel) ⟨Nat.le_of_ble_eq_true rfl, Nat.le_of_ble_eq_true rfl⟩) ⟨fun a U g mk q => by obtain ⟨q0, q1, qP, qK, qD⟩ := q; exact ⟨q0, q1, qP, va_K.moved (u := U) (U := U.calling g mk a) (Vm.Alike.refl U.vm) qK, qD⟩, va_recv hKc hPc (ci := 7) (q0 := 0) rfl rfl, fun U hU hW => ⟨rfl, by rw [hU], by rw [hU]; exact hPc, va_K.moved hW.alike hKc, hDc.weaken (fun _ _ _ _ => trivial)⟩⟩ rfl rfl hl.1 rfl (lv_room (Nat.le_of_ble_eq_true rfl)) dX8_about_119 ⟨Nat.zero_le _, Nat.zero_le _⟩) hS (fun q _ h => hFc q h) hFc (fun r_20 zz t H1 locs ht hvm hw hB hz1 hk1 hS => ?_)
                      replace h := hw
                      obtain ⟨hP1, hD1⟩ := hB
                      rw [ht] at hP1
                      replace hD : va_D A (wd_X8 a ca u_5) := hD1.weaken (fun _ _ _ h9 => hFc _ h9)
                      replace hP : va_P (dC, dI) vwCl (wd_X8 a ca u_5) H1 := hP1
                      generalize H1 = H at hP hS ⊢
                      refine lv_if_eq (tgt := 129) hx hb dX8_about_122 (by decide) (fun hc_21 => ?_) (fun hc_21 => ?_)
                      · replace h := h.1 hc_21
                        refine lv_iconst (v := 0) hx hb dX8_about_129 (by decide) ?_
                        subst hQ
                        exact W.iret (v := 0) hx hb hr (fun t ht hW => ⟨⟨_, u_5, rfl, h, by rw [ht]; exact hP, hD⟩, hS.F ht⟩) hS.2.2 dX8_about_130
                      · replace h := h.2 hc_21
                        refine lv_iconst (v := 1) hx hb dX8_about_125 (by decide) ?_
                        refine lv_goto (tgt := 130) hx hb dX8_about_126 (by decide) ?_
                        subst hQ
                        exact W.iret (v := 1) hx hb hr (fun t ht hW => ⟨⟨_, u_5, rfl, h, by rw [ht]; exact hP, hD⟩, hS.F ht⟩) hS.2.2 dX8_about_130
        · replace h := h.2 hc_7
          refine lv_iconst (v := (-1)) hx hb dX8_about_34 (by decide) ?_
          subst hQ
          exact W.iret (v := (-1)) hx hb hr (fun t ht hW => ⟨⟨_, u_5, rfl, h, by rw [ht]; exact hP, hD⟩, hS.F ht⟩) hS.2.2 dX8_about_35
      · replace h := h.2 hc_6
        refine lv_bipush (v := (-3)) hx hb dX8_about_23 (by decide) ?_
        subst hQ
        exact W.iret (v := (-3)) hx hb hr (fun t ht hW => ⟨⟨_, u_5, rfl, h, by rw [ht]; exact hP, hD⟩, hS.F ht⟩) hS.2.2 dX8_about_25
    · replace h := h.2 hc_3
      refine lv_iconst (v := (-1)) hx hb dX8_about_14 (by decide) ?_
      subst hQ
      exact W.iret (v := (-1)) hx hb hr (fun t ht hW => ⟨⟨_, u, rfl, h, by rw [ht]; exact hP, hD⟩, hS.F ht⟩) hS.2.2 dX8_about_15
abbrev rm_X8_letter : Room := { frames := 4, cells := 0, slots := 0, locals := 95 }
set_option maxHeartbeats 4000000 in
set_option maxRecDepth 100000 in
theorem c_X8_letter (l : Launch) (dC : Nat → ClassId) (dI : Nat → Nat → Nat) (a : Nat → Nat) (ca : Nat → ClassId) (sz : Nat) (u : Ob) (x1 : Int32) (x2 : Int32) (x3 : Int32) (post : Int32 → Ob → Prop) (h : wp_X8_letter u x1 x2 x3 post) : Met l yX8_letter wsX8_letter rm_X8_letter (va_Pc [.ref (a 0), .int x1, .int x2, .int x3] (fun U => U.heap.size = sz ∧ va_P (dC, dI) vwCl (wd_X8 a ca u) U.heap ∧ va_K (dC, dI) vwCl (ty_X8 ca) U ∧ va_D (fun _ => True) (wd_X8 a ca u))) (va_Qi post (fun (zz : Ob) (t : State) => va_P (dC, dI) vwCl (wd_X8 a ca zz) t.heap ∧ va_D (va_A (wd_X8 a ca u) sz) (wd_X8 a ca zz)) (va_A (wd_X8 a ca u) sz)) 0 0 (va_A (wd_X8 a ca u) sz) := by
  refine fl_ofW (cc := cX8_letter) (maxL := 4) (ret := (some .int)) (by decide) rfl ?_
  intro p e s m args below meth c s₁ Q B hml hv hQ
  obtain ⟨hargs, hsz, hP, hK, hD0⟩ := hv
  have hx := B.exec
  have hb := B.bytes
  have hr := B.returns
  have hts := atoms_spec (ws := wsX8_letter) B.pre
  have hown : s.vm.findClass RX8 = some m.cls := findClass_of_methodNamed B.named
  subst hsz
  have hD := hD0.self (sz := s.heap.size)
  generalize hAe : va_A (wd_X8 a ca u) s.heap.size = A at hD hQ
  have hA : ∀ q : Nat, s.heap.size ≤ q → A q := fun q h => by rw [← hAe]; exact Or.inr h
  have hS : va_S A s.heap s.heap [] := va_S.rf
  have hl := lv_entry ([.ref (a 0), .int x1, .int x2, .int x3]) (n := 4) (Nat.le_of_ble_eq_true rfl)
  refine W.eq (g2 := F0 m 0 ((lg_sl ([.ref (a 0), .int x1, .int x2, .int x3]) ++ List.replicate (4 - (lg_sl ([.ref (a 0), .int x1, .int x2, .int x3])).length) Slot.unset).toArray) []) (by rw [hargs]; exact lg_entry_eq m _ 4) ?_
  generalize (lg_sl ([.ref (a 0), .int x1, .int x2, .int x3]) ++ List.replicate (4 - (lg_sl ([.ref (a 0), .int x1, .int x2, .int x3])).length) Slot.unset).toArray = ls at hl ⊢
  have hl : lv_has ls 4 [(0, .ref (a 0)), (1, .int x1), (2, .int x2), (3, .int x3)] := hl
  suffices hstart : ∀ (H : Heap) (locs : List Loc) (ls : Array Slot), va_P (dC, dI) vwCl (wd_X8 a ca u) H → va_D A (wd_X8 a ca u) → va_S A s.heap H locs → lv_has ls 4 [(0, .ref (a 0)), (1, .int x1), (2, .int x2), (3, .int x3)] → W p l e (headSpec wsX8_letter rm_X8_letter).room s m args below meth c H locs 0 0 Q (F0 m 0 ls []) from hstart _ _ _ hP hD hS hl
  clear hS hP hD hD0
  intro H locs ls hP hD hS hl
  have hin_X8 : ∀ w ∈ wsX80, w ∈ wsX8_letter := by decide +kernel
  have lk_0 := hts (.fieldLink RX8 143 "ForgettingLinesModel" "many" "I") (by decide +kernel)
  have lk_1 := hts (.fieldLink RX8 42 "ForgettingLinesModel" "sizes" "[I") (by decide +kernel)
  have lk_2 := hts (.fieldLink RX8 45 "ForgettingLinesModel" "words" "[I") (by decide +kernel)
  unfold wp_X8_letter at h
  refine lv_iload_n hx hb dX8_letter_0 rfl (lv_at hl 1 rfl) ?_
  refine lv_if_lt (tgt := 17) hx hb dX8_letter_1 (by decide) (fun hc_1 => ?_) (fun hc_1 => ?_)
  · replace h := h.1 hc_1
    refine lv_iconst (v := (-1)) hx hb dX8_letter_17 (by decide) ?_
    subst hQ
    exact W.iret (v := (-1)) hx hb hr (fun t ht hW => ⟨⟨_, u, rfl, h, by rw [ht]; exact hP, hD⟩, hS.F ht⟩) hS.2.2 dX8_letter_18
  · replace h := h.2 hc_1
    refine lv_iload_n hx hb dX8_letter_4 rfl (lv_at hl 3 rfl) ?_
    refine lv_if_lt (tgt := 17) hx hb dX8_letter_5 (by decide) (fun hc_2 => ?_) (fun hc_2 => ?_)
    · replace h := h.1 hc_2
      refine lv_iconst (v := (-1)) hx hb dX8_letter_17 (by decide) ?_
      subst hQ
      exact W.iret (v := (-1)) hx hb hr (fun t ht hW => ⟨⟨_, u, rfl, h, by rw [ht]; exact hP, hD⟩, hS.F ht⟩) hS.2.2 dX8_letter_18
    · replace h := h.2 hc_2
      refine lv_iload_n hx hb dX8_letter_8 rfl (lv_at hl 2 rfl) ?_
      refine lv_iconst (v := 0) hx hb dX8_letter_9 (by decide) ?_
      refine lv_iconst (v := 1) hx hb dX8_letter_10 (by decide) ?_
      have hFc := fl_freeN hS hA
      refine va_calli (va_runS (As := [.int x2, .int 0, .int 1]) (rest := []) ⟨hx, hb, hml, hown, hts⟩ (c_X8_in l H.size x2 0 1 _ h) (va_cwS 3 hts gX8_letter_X8_in rfl rfl rfl (by decide +kernel) ⟨Nat.le_of_ble_eq_true rfl, Nat.le_of_ble_eq_true rfl⟩) ⟨fun a U g mk q => by obtain ⟨q0, q1⟩ := q; exact ⟨q0, q1⟩, fun U hU hW => ⟨rfl, congrArg Array.size hU⟩⟩ rfl rfl hl.1 rfl (lv_room (Nat.le_of_ble_eq_true rfl)) dX8_letter_11 ⟨Nat.zero_le _, Nat.zero_le _⟩) hS (fun q _ h => hFc q h) hFc (fun r_3 zz t H1 locs ht hvm hw hB hz1 hk1 hS => ?_)
      replace hP := fl_keep hP hk1
      replace h := hw
      generalize H1 = H at hP hS ⊢
      refine lv_if_ne (tgt := 19) hx hb dX8_letter_14 (by decide) (fun hc_4 => ?_) (fun hc_4 => ?_)
      · replace h := h.1 hc_4
        refine lv_aload_n hx hb dX8_letter_19 rfl (lv_at hl 0 rfl) ?_
        have hPc := hP
        have hDc := hD
        have hKc := hK
        have hFc := va_free (wc := (wd_X8 a ca u)) hD hS hA [0, 1, 2, 3, 4, 5, 6, 7, 8, 9, 10, 11, 12, 13, 14, 15, 16, 17, 18, 19] rfl
        refine va_calli (va_runV (As := []) (rest := []) ⟨hx, hb, hml, hown, hts⟩ (c_X8_search l dC dI a ca H.size u _ h) (cwV 0 hts gX8_letter_X8_search rfl rfl rfl (by decide +kernel) ⟨Nat.le_of_ble_eq_true rfl, Nat.le_of_ble_eq_true rfl⟩) ⟨fun a U g mk q => by obtain ⟨q0, q1, qP, qK, qD⟩ := q; exact ⟨q0, q1, qP, va_K.moved (u := U) (U := U.calling g mk a) (Vm.Alike.refl U.vm) qK, qD⟩, va_recv hKc hPc (ci := 7) (q0 := 0) rfl rfl, fun U hU hW => ⟨rfl, by rw [hU], by rw [hU]; exact hPc, va_K.moved hW.alike hKc, hDc.weaken (fun _ _ _ _ => trivial)⟩⟩ rfl rfl hl.1 rfl (lv_room (Nat.le_of_ble_eq_true rfl)) dX8_letter_20 ⟨Nat.zero_le _, Nat.zero_le _⟩) hS (fun q _ h => hFc q h) hFc (fun r_5 zz t H1 locs ht hvm hw hB hz1 hk1 hS => ?_)
        obtain ⟨u_6, rfl⟩ : ∃ z, z = zz := ⟨_, rfl⟩
        replace h := hw
        obtain ⟨hP1, hD1⟩ := hB
        rw [ht] at hP1
        replace hD : va_D A (wd_X8 a ca u_6) := hD1.weaken (fun _ _ _ h9 => hFc _ h9)
        replace hP : va_P (dC, dI) vwCl (wd_X8 a ca u_6) H1 := hP1
        generalize H1 = H at hP hS ⊢
        refine lv_if_ne (tgt := 29) hx hb dX8_letter_23 (by decide) (fun hc_7 => ?_) (fun hc_7 => ?_)
        · replace h := h.1 hc_7
          refine lv_iload_n hx hb dX8_letter_29 rfl (lv_at hl 1 rfl) ?_
          refine lv_aload_n hx hb dX8_letter_30 rfl (lv_at hl 0 rfl) ?_
          refine va_get (D := (dC, dI)) (ci := 7) (v := .int (u_6.1 16)) (C := RX8) (T := TX8) (N := 25) hx hb hts hin_X8 hown hK hP 0 rfl rfl 16 (by decide) lk_0 (fun _ h9 => h9) rfl dX8_letter_31 ?_
          refine lv_icmp_ge (tgt := 65) hx hb dX8_letter_34 (by decide) (fun hc_8 => ?_) (fun hc_8 => ?_)
          · replace h := h.1 hc_8
            refine lv_iconst (v := (-1)) hx hb dX8_letter_65 (by decide) ?_
            subst hQ
            exact W.iret (v := (-1)) hx hb hr (fun t ht hW => ⟨⟨_, u_6, rfl, h, by rw [ht]; exact hP, hD⟩, hS.F ht⟩) hS.2.2 dX8_letter_66
          · replace h := h.2 hc_8
            refine lv_iload_n hx hb dX8_letter_37 rfl (lv_at hl 3 rfl) ?_
            refine lv_aload_n hx hb dX8_letter_38 rfl (lv_at hl 0 rfl) ?_
            refine va_get (D := (dC, dI)) (ci := 7) (v := .ref (a 15)) (C := RX8) (T := TX8) (N := 25) hx hb hts hin_X8 hown hK hP 0 rfl rfl 14 (by decide) lk_1 (fun _ h9 => h9) rfl dX8_letter_39 ?_
            refine lv_iconst (v := 2) hx hb dX8_letter_42 (by decide) ?_
            refine lv_iload_n hx hb dX8_letter_43 rfl (lv_at hl 1 rfl) ?_
            refine lv_imul hx hb dX8_letter_44 ?_
            refine lv_iload_n hx hb dX8_letter_45 rfl (lv_at hl 2 rfl) ?_
            refine lv_iadd hx hb dX8_letter_46 ?_
            obtain ⟨hi_9, h⟩ := h
            refine va_iald (D := (dC, dI)) (cl := vwCl) (i := ((2 * x1) + x2)) hx hb hK hP 10 9 rfl rfl hi_9 dX8_letter_47 ?_
            refine lv_icmp_ge (tgt := 65) hx hb dX8_letter_48 (by decide) (fun hc_10 => ?_) (fun hc_10 => ?_)
            · replace h := h.1 hc_10
              refine lv_iconst (v := (-1)) hx hb dX8_letter_65 (by decide) ?_
              subst hQ
              exact W.iret (v := (-1)) hx hb hr (fun t ht hW => ⟨⟨_, u_6, rfl, h, by rw [ht]; exact hP, hD⟩, hS.F ht⟩) hS.2.2 dX8_letter_66
            · replace h := h.2 hc_10
              refine lv_aload_n hx hb dX8_letter_51 rfl (lv_at hl 0 rfl) ?_
              refine va_get (D := (dC, dI)) (ci := 7) (v := .ref (a 16)) (C := RX8) (T := TX8) (N := 25) hx hb hts hin_X8 hown hK hP 0 rfl rfl 15 (by decide) lk_2 (fun _ h9 => h9) rfl dX8_letter_52 ?_
              refine lv_iload_n hx hb dX8_letter_55 rfl (lv_at hl 1 rfl) ?_
              refine lv_iload_n hx hb dX8_letter_56 rfl (lv_at hl 2 rfl) ?_
              refine lv_iload_n hx hb dX8_letter_57 rfl (lv_at hl 3 rfl) ?_
              have hFc := fl_freeN hS hA
              refine va_calli (va_runS (As := [.int x1, .int x2, .int x3]) (rest := [.ref (a 16)]) ⟨hx, hb, hml, hown, hts⟩ (c_X8_spot l H.size x1 x2 x3 _ h) (va_cwS 3 hts gX8_letter_X8_spot rfl rfl rfl (by decide +kernel) ⟨Nat.le_of_ble_eq_true rfl, Nat.le_of_ble_eq_true rfl⟩) ⟨fun a U g mk q => by obtain ⟨q0, q1⟩ := q; exact ⟨q0, q1⟩, fun U hU hW => ⟨rfl, congrArg Array.size hU⟩⟩ rfl rfl hl.1 rfl (lv_room (Nat.le_of_ble_eq_true rfl)) dX8_letter_58 ⟨Nat.zero_le _, Nat.zero_le _⟩) hS (fun q _ h => hFc q h) hFc (fun r_11 zz t H1 locs ht hvm hw hB hz1 hk1 hS => ?_)
              replace hP := fl_keep hP hk1
              replace h := hw
              generalize H1 = H at hP hS ⊢
              obtain ⟨hi_12, h⟩ := h
              refine va_iald (D := (dC, dI)) (cl := vwCl) (i := r_11) hx hb hK hP 11 10 rfl rfl hi_12 dX8_letter_61 ?_
              refine lv_goto (tgt := 66) hx hb dX8_letter_62 (by decide) ?_
              subst hQ
              exact W.iret (v := (u_6.2.1 15 r_11.toNatClampNeg)) hx hb hr (fun t ht hW => ⟨⟨_, u_6, rfl, h, by rw [ht]; exact hP, hD⟩, hS.F ht⟩) hS.2.2 dX8_letter_66
        · replace h := h.2 hc_7
          refine lv_bipush (v := (-3)) hx hb dX8_letter_26 (by decide) ?_
          subst hQ
          exact W.iret (v := (-3)) hx hb hr (fun t ht hW => ⟨⟨_, u_6, rfl, h, by rw [ht]; exact hP, hD⟩, hS.F ht⟩) hS.2.2 dX8_letter_28
      · replace h := h.2 hc_4
        refine lv_iconst (v := (-1)) hx hb dX8_letter_17 (by decide) ?_
        subst hQ
        exact W.iret (v := (-1)) hx hb hr (fun t ht hW => ⟨⟨_, u, rfl, h, by rw [ht]; exact hP, hD⟩, hS.F ht⟩) hS.2.2 dX8_letter_18
