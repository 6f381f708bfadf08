abbrev rm_X7_letter : Room := { frames := 6, cells := 0, slots := 0, locals := 144 }
set_option maxHeartbeats 4000000 in
set_option maxRecDepth 100000 in
theorem c_X7_letter (l : Launch) (dC : Nat → ClassId) (dI : Nat → Nat → Nat) (AA : Nat → Nat → Nat) (CA : Nat → Nat → ClassId) (sz : Nat) (uf : Ob) (um : Ob) (ut : Ob) (uh : Ob) (ug : Ob) (ur : Ob) (uw : Ob) (ux : Ob) (uy : Ob) (x1 : Int32) (x2 : Int32) (x3 : Int32) (post : Int32 → Ob → Ob → Prop) (h : wp_X7_letter uf um ug ur x1 x2 x3 post) : Met l yX7_letter wsX7_letter rm_X7_letter (va_Pc [.ref (AA 0 0), .int x1, .int x2, .int x3] (fun U => U.heap.size = sz ∧ va_P (dC, dI) vwCl (wd_X7 AA CA uf um ut uh ug ur uw ux uy) U.heap ∧ va_K (dC, dI) vwCl (ty_X7 CA) U ∧ va_D (fun _ => True) (wd_X7 AA CA uf um ut uh ug ur uw ux uy))) (va_Qi (fun (rr : Int32) (zz : Ob × Ob) => post rr zz.1 zz.2) (fun (zz : Ob × Ob) (t : State) => va_P (dC, dI) vwCl (wd_X7 AA CA zz.1 um ut uh ug zz.2 uw ux uy) t.heap ∧ va_D (va_A (wd_X7 AA CA uf um ut uh ug ur uw ux uy) sz) (wd_X7 AA CA zz.1 um ut uh ug zz.2 uw ux uy)) (va_A (wd_X7 AA CA uf um ut uh ug ur uw ux uy) sz)) 0 0 (va_A (wd_X7 AA CA uf um ut uh ug ur uw ux uy) sz) := by
  refine fl_ofW (cc := cX7_letter) (maxL := 5) (ret := (some .int)) (by decide) rfl ?_
  intro p e s m args below meth c s₁ Q B hml hv hQ
  obtain ⟨hargs, hsz, hP, hK, hD0⟩ := hv
  have hx := B.exec
  have hb := B.bytes
  have hr := B.returns
  have hts := atoms_spec (ws := wsX7_letter) B.pre
  have hown : s.vm.findClass RX7 = some m.cls := findClass_of_methodNamed B.named
  subst hsz
  have hD := hD0.self (sz := s.heap.size)
  generalize hAe : va_A (wd_X7 AA CA uf um ut uh ug ur uw ux uy) s.heap.size = A at hD hQ
  have hA : ∀ q : Nat, s.heap.size ≤ q → A q := fun q h => by rw [← hAe]; exact Or.inr h
  have hS : va_S A s.heap s.heap [] := va_S.rf
  have hl := lv_entry ([.ref (AA 0 0), .int x1, .int x2, .int x3]) (n := 5) (Nat.le_of_ble_eq_true rfl)
  refine W.eq (g2 := F0 m 0 ((lg_sl ([.ref (AA 0 0), .int x1, .int x2, .int x3]) ++ List.replicate (5 - (lg_sl ([.ref (AA 0 0), .int x1, .int x2, .int x3])).length) Slot.unset).toArray) []) (by rw [hargs]; exact lg_entry_eq m _ 5) ?_
  generalize (lg_sl ([.ref (AA 0 0), .int x1, .int x2, .int x3]) ++ List.replicate (5 - (lg_sl ([.ref (AA 0 0), .int x1, .int x2, .int x3])).length) Slot.unset).toArray = ls at hl ⊢
  have hl : lv_has ls 5 [(0, .ref (AA 0 0)), (1, .int x1), (2, .int x2), (3, .int x3)] := hl
  suffices hstart : ∀ (H : Heap) (locs : List Loc) (ls : Array Slot), va_P (dC, dI) vwCl (wd_X7 AA CA uf um ut uh ug ur uw ux uy) H → va_D A (wd_X7 AA CA uf um ut uh ug ur uw ux uy) → va_S A s.heap H locs → lv_has ls 5 [(0, .ref (AA 0 0)), (1, .int x1), (2, .int x2), (3, .int x3)] → W p l e (headSpec wsX7_letter rm_X7_letter).room s m args below meth c H locs 0 0 Q (F0 m 0 ls []) from hstart _ _ _ hP hD hS hl
  clear hS hP hD hD0
  intro H locs ls hP hD hS hl
  have hin_X2 : ∀ w ∈ wsX20, w ∈ wsX7_letter := by decide +kernel
  have hin_X7 : ∀ w ∈ wsX70, w ∈ wsX7_letter := by decide +kernel
  have lk_0 := hts (.fieldLink RX7 36 "ForgettingLines" "search" "LForgettingLines$Search;") (by decide +kernel)
  have lk_1 := hts (.fieldLink RX7 157 "ForgettingLines$Search" "spent" "Z") (by decide +kernel)
  have lk_2 := hts (.fieldLink RX7 160 "ForgettingLines$Search" "count" "I") (by decide +kernel)
  unfold wp_X7_letter at h
  refine lv_iload_n hx hb dX7_letter_0 rfl (lv_at hl 1 rfl) ?_
  refine lv_if_lt (tgt := 16) hx hb dX7_letter_1 (by decide) (fun hc_1 => ?_) (fun hc_1 => ?_)
  · replace h := h.1 hc_1
    refine lv_iconst (v := (-1)) hx hb dX7_letter_16 (by decide) ?_
    subst hQ
    exact W.iret (v := (-1)) hx hb hr (fun t ht hW => ⟨⟨_, (uf, ur), rfl, h, by rw [ht]; exact hP, hD⟩, hS.F ht⟩) hS.2.2 dX7_letter_17
  · replace h := h.2 hc_1
    refine lv_iload_n hx hb dX7_letter_4 rfl (lv_at hl 3 rfl) ?_
    refine lv_if_lt (tgt := 16) hx hb dX7_letter_5 (by decide) (fun hc_2 => ?_) (fun hc_2 => ?_)
    · replace h := h.1 hc_2
      refine lv_iconst (v := (-1)) hx hb dX7_letter_16 (by decide) ?_
      subst hQ
      exact W.iret (v := (-1)) hx hb hr (fun t ht hW => ⟨⟨_, (uf, ur), rfl, h, by rw [ht]; exact hP, hD⟩, hS.F ht⟩) hS.2.2 dX7_letter_17
    · replace h := h.2 hc_2
      refine lv_iload_n hx hb dX7_letter_8 rfl (lv_at hl 2 rfl) ?_
      refine lv_iconst (v := 2) hx hb dX7_letter_9 (by decide) ?_
      have hFc := fl_freeN hS hA
      refine va_calli (va_runS (As := [.int x2, .int 2]) (rest := []) ⟨hx, hb, hml, hown, hts⟩ (c_X7_isAmong l H.size x2 2 _ h) (va_cwS 2 hts gX7_letter_X7_isAmong rfl rfl rfl (by decide +kernel) ⟨Nat.le_of_ble_eq_true rfl, Nat.le_of_ble_eq_true rfl⟩) ⟨fun a U g mk q => by obtain ⟨q0, q1⟩ := q; exact ⟨q0, q1⟩, fun U hU hW => ⟨rfl, congrArg Array.size hU⟩⟩ rfl rfl hl.1 rfl (lv_room (Nat.le_of_ble_eq_true rfl)) dX7_letter_10 ⟨Nat.zero_le _, Nat.zero_le _⟩) hS (fun q _ h => hFc q h) hFc (fun r_3 zz t H1 locs ht hvm hw hB hz1 hk1 hS => ?_)
      replace hP := fl_keep hP hk1
      replace h := hw
      generalize H1 = H at hP hS ⊢
      refine lv_if_ne (tgt := 18) hx hb dX7_letter_13 (by decide) (fun hc_4 => ?_) (fun hc_4 => ?_)
      · replace h := h.1 hc_4
        refine lv_aload_n hx hb dX7_letter_18 rfl (lv_at hl 0 rfl) ?_
        have hPc := hP
        have hDc := hD
        have hKc := hK
        have hFc := va_free (wc := (wd_X7 AA CA uf um ut uh ug ur uw ux uy)) hD hS hA [0, 1, 2, 3, 4, 5, 6, 7, 8, 9, 10, 11, 12, 13, 14, 15, 16, 17, 18, 19, 20, 21, 22, 23, 24, 25] rfl
        refine va_callv (va_runV (As := []) (rest := []) ⟨hx, hb, hml, hown, hts⟩ (c_X7_searchOnce l dC dI AA CA H.size uf um ut uh ug ur uw ux uy _ h) (cwV 0 hts gX7_letter_X7_searchOnce rfl rfl rfl (by decide +kernel) ⟨Nat.le_of_ble_eq_true rfl, Nat.le_of_ble_eq_true rfl⟩) ⟨fun a U g mk q => by obtain ⟨q0, q1, qP, qK, qD⟩ := q; exact ⟨q0, q1, qP, va_K.moved (u := U) (U := U.calling g mk a) (Vm.Alike.refl U.vm) qK, qD⟩, va_recv hKc hPc (ci := 6) (q0 := 0) rfl rfl, fun U hU hW => ⟨rfl, by rw [hU], by rw [hU]; exact hPc, va_K.moved hW.alike hKc, hDc.weaken (fun _ _ _ _ => trivial)⟩⟩ rfl rfl hl.1 rfl (lv_room (Nat.le_of_ble_eq_true rfl)) dX7_letter_19 ⟨Nat.zero_le _, Nat.zero_le _⟩) hS (fun q _ h => hFc q h) hFc (fun zz t H1 locs ht hvm hw hB hz1 hk1 hS => ?_)
        obtain ⟨uf_5, ur_6⟩ := zz
        replace h := hw
        obtain ⟨hP1, hD1⟩ := hB
        rw [ht] at hP1
        replace hD : va_D A (wd_X7 AA CA uf_5 um ut uh ug ur_6 uw ux uy) := hD1.weaken (fun _ _ _ h9 => hFc _ h9)
        replace hP : va_P (dC, dI) vwCl (wd_X7 AA CA uf_5 um ut uh ug ur_6 uw ux uy) H1 := hP1
        generalize H1 = H at hP hS ⊢
        refine lv_aload_n hx hb dX7_letter_22 rfl (lv_at hl 0 rfl) ?_
        refine va_get (D := (dC, dI)) (ci := 6) (v := .ref (AA 5 0)) (C := RX7) (T := TX7) (N := 8) hx hb hts hin_X7 hown hK hP 0 rfl rfl 4 (by decide) lk_0 (fun _ h9 => h9) rfl dX7_letter_23 ?_
        refine va_get (D := (dC, dI)) (ci := 2) (v := .int (ur_6.1 1)) (C := RX2) (T := TX2) (N := 8) hx hb hts hin_X2 hown hK hP 12 rfl rfl 1 (by decide) lk_1 (fun _ h9 => h9) rfl dX7_letter_26 ?_
        refine lv_if_eq (tgt := 35) hx hb dX7_letter_29 (by decide) (fun hc_7 => ?_) (fun hc_7 => ?_)
        · replace h := h.1 hc_7
          refine lv_iload_n hx hb dX7_letter_35 rfl (lv_at hl 1 rfl) ?_
          refine lv_aload_n hx hb dX7_letter_36 rfl (lv_at hl 0 rfl) ?_
          refine va_get (D := (dC, dI)) (ci := 6) (v := .ref (AA 5 0)) (C := RX7) (T := TX7) (N := 8) hx hb hts hin_X7 hown hK hP 0 rfl rfl 4 (by decide) lk_0 (fun _ h9 => h9) rfl dX7_letter_37 ?_
          refine va_get (D := (dC, dI)) (ci := 2) (v := .int (ur_6.1 0)) (C := RX2) (T := TX2) (N := 8) hx hb hts hin_X2 hown hK hP 12 rfl rfl 0 (by decide) lk_2 (fun _ h9 => h9) rfl dX7_letter_40 ?_
          refine lv_icmp_lt (tgt := 48) hx hb dX7_letter_43 (by decide) (fun hc_8 => ?_) (fun hc_8 => ?_)
          · replace h := h.1 hc_8
            refine lv_aload_n hx hb dX7_letter_48 rfl (lv_at hl 0 rfl) ?_
            refine va_get (D := (dC, dI)) (ci := 6) (v := .ref (AA 5 0)) (C := RX7) (T := TX7) (N := 8) hx hb hts hin_X7 hown hK hP 0 rfl rfl 4 (by decide) lk_0 (fun _ h9 => h9) rfl dX7_letter_49 ?_
            refine lv_iload_n hx hb dX7_letter_52 rfl (lv_at hl 1 rfl) ?_
            refine lv_iload_n hx hb dX7_letter_53 rfl (lv_at hl 2 rfl) ?_
            have hPc := hP.sub (ws' := (wd_X2 (AA 5) (CA 5) ur_6)) [12, 13, 14, 15, 16, 17, 18] rfl
            have hDc := hD.sub (ws' := (wd_X2 (AA 5) (CA 5) ur_6)) [12, 13, 14, 15, 16, 17, 18] (by decide) rfl
            have hKc := hK.sub (tys' := (ty_X2 (CA 5))) [7, 8, 9, 10, 11, 12] rfl
            have hFc := va_free (wc := (wd_X2 (AA 5) (CA 5) ur_6)) hD hS hA [12, 13, 14, 15, 16, 17, 18] rfl
            refine va_calli (va_runV (As := [.int x1, .int x2]) (rest := []) ⟨hx, hb, hml, hown, hts⟩ (c_X2_wordOf l dC dI (AA 5) (CA 5) H.size ur_6 x1 x2 _ h) (cwV 2 hts gX7_letter_X2_wordOf rfl rfl rfl (by decide +kernel) ⟨Nat.le_of_ble_eq_true rfl, Nat.le_of_ble_eq_true rfl⟩) ⟨fun a U g mk q => by obtain ⟨q0, q1, qP, qK, qD⟩ := q; exact ⟨q0, q1, qP, va_K.moved (u := U) (U := U.calling g mk a) (Vm.Alike.refl U.vm) qK, qD⟩, va_recv hKc hPc (ci := 2) (q0 := 0) rfl rfl, fun U hU hW => ⟨rfl, by rw [hU], by rw [hU]; exact hPc, va_K.moved hW.alike hKc, hDc.weaken (fun _ _ _ _ => trivial)⟩⟩ rfl rfl hl.1 rfl (lv_room (Nat.le_of_ble_eq_true rfl)) dX7_letter_54 ⟨Nat.zero_le _, Nat.zero_le _⟩) hS (fun q _ h => hFc q h) hFc (fun r_9 zz t H1 locs ht hvm hw hB hz1 hk1 hS => ?_)
            replace h := hw
            obtain ⟨hP1, hD1⟩ := hB
            rw [ht] at hP1
            obtain ⟨hP, hD⟩ := va_join (wr := [0, 1, 2, 3, 4, 5, 6, 7, 8, 9, 10, 11, 19, 20, 21, 22, 23, 24, 25].filterMap (fun i => (wd_X7 AA CA uf_5 um ut uh ug ur_6 uw ux uy)[i]?)) (w1 := (wd_X2 (AA 5) (CA 5) ur_6)) hP hD [12, 13, 14, 15, 16, 17, 18] [0, 1, 2, 3, 4, 5, 6, 7, 8, 9, 10, 11, 19, 20, 21, 22, 23, 24, 25] rfl rfl (by decide) (by decide) hk1 hFc hP1 hD1
            replace hP : va_P (dC, dI) vwCl (wd_X7 AA CA uf_5 um ut uh ug ur_6 uw ux uy) H1 := (hP.sub [0, 1, 2, 3, 4, 5, 6, 7, 8, 9, 10, 11, 19, 20, 21, 22, 23, 24, 25, 12, 13, 14, 15, 16, 17, 18] rfl)
            replace hD : va_D A (wd_X7 AA CA uf_5 um ut uh ug ur_6 uw ux uy) := (hD.sub [0, 1, 2, 3, 4, 5, 6, 7, 8, 9, 10, 11, 19, 20, 21, 22, 23, 24, 25, 12, 13, 14, 15, 16, 17, 18] (by decide) rfl)
            generalize H1 = H at hP hS ⊢
            refine lv_istore (lv' := [(4, .int r_9), (0, .ref (AA 0 0)), (1, .int x1), (2, .int x2), (3, .int x3)]) hx hb dX7_letter_57 hl (by decide) rfl (fun ls hl => ?_)
            refine lv_iload_n hx hb dX7_letter_59 rfl (lv_at hl 4 rfl) ?_
            refine lv_iload hx hb dX7_letter_60 (lv_at hl 0 rfl) ?_
            have hFc := fl_freeN hS hA
            refine va_calli (va_runS (As := [.int r_9]) (rest := [.int x3]) ⟨hx, hb, hml, hown, hts⟩ (c_X6_size l H.size r_9 _ h) (va_cwS 1 hts gX7_letter_X6_size rfl rfl rfl (by decide +kernel) ⟨Nat.le_of_ble_eq_true rfl, Nat.le_of_ble_eq_true rfl⟩) ⟨fun a U g mk q => by obtain ⟨q0, q1⟩ := q; exact ⟨q0, q1⟩, fun U hU hW => ⟨rfl, congrArg Array.size hU⟩⟩ rfl rfl hl.1 rfl (lv_room (Nat.le_of_ble_eq_true rfl)) dX7_letter_62 ⟨Nat.zero_le _, Nat.zero_le _⟩) hS (fun q _ h => hFc q h) hFc (fun r_10 zz t H1 locs ht hvm hw hB hz1 hk1 hS => ?_)
            replace hP := fl_keep hP hk1
            replace h := hw
            generalize H1 = H at hP hS ⊢
            refine lv_icmp_ge (tgt := 77) hx hb dX7_letter_65 (by decide) (fun hc_11 => ?_) (fun hc_11 => ?_)
            · replace h := h.1 hc_11
              refine lv_iconst (v := (-1)) hx hb dX7_letter_77 (by decide) ?_
              subst hQ
              exact W.iret (v := (-1)) hx hb hr (fun t ht hW => ⟨⟨_, (uf_5, ur_6), rfl, h, by rw [ht]; exact hP, hD⟩, hS.F ht⟩) hS.2.2 dX7_letter_78
            · replace h := h.2 hc_11
              refine lv_iload hx hb dX7_letter_68 (lv_at hl 0 rfl) ?_
              refine lv_iload_n hx hb dX7_letter_70 rfl (lv_at hl 4 rfl) ?_
              have hFc := fl_freeN hS hA
              refine va_calli (va_runS (As := [.int r_9, .int x3]) (rest := []) ⟨hx, hb, hml, hown, hts⟩ (c_X6_at l H.size r_9 x3 _ h) (va_cwS 2 hts gX7_letter_X6_at rfl rfl rfl (by decide +kernel) ⟨Nat.le_of_ble_eq_true rfl, Nat.le_of_ble_eq_true rfl⟩) ⟨fun a U g mk q => by obtain ⟨q0, q1⟩ := q; exact ⟨q0, q1⟩, fun U hU hW => ⟨rfl, congrArg Array.size hU⟩⟩ rfl rfl hl.1 rfl (lv_room (Nat.le_of_ble_eq_true rfl)) dX7_letter_71 ⟨Nat.zero_le _, Nat.zero_le _⟩) hS (fun q _ h => hFc q h) hFc (fun r_12 zz t H1 locs ht hvm hw hB hz1 hk1 hS => ?_)
              replace hP := fl_keep hP hk1
              replace h := hw
              generalize H1 = H at hP hS ⊢
              refine lv_goto (tgt := 78) hx hb dX7_letter_74 (by decide) ?_
              subst hQ
              exact W.iret (v := r_12) hx hb hr (fun t ht hW => ⟨⟨_, (uf_5, ur_6), rfl, h, by rw [ht]; exact hP, hD⟩, hS.F ht⟩) hS.2.2 dX7_letter_78
          · replace h := h.2 hc_8
            refine lv_iconst (v := (-1)) hx hb dX7_letter_46 (by decide) ?_
            subst hQ
            exact W.iret (v := (-1)) hx hb hr (fun t ht hW => ⟨⟨_, (uf_5, ur_6), rfl, h, by rw [ht]; exact hP, hD⟩, hS.F ht⟩) hS.2.2 dX7_letter_47
        · replace h := h.2 hc_7
          refine lv_bipush (v := (-3)) hx hb dX7_letter_32 (by decide) ?_
          subst hQ
          exact W.iret (v := (-3)) hx hb hr (fun t ht hW => ⟨⟨_, (uf_5, ur_6), rfl, h, by rw [ht]; exact hP, hD⟩, hS.F ht⟩) hS.2.2 dX7_letter_34
      · replace h := h.2 hc_4
        refine lv_iconst (v := (-1)) hx hb dX7_letter_16 (by decide) ?_
        subst hQ
        exact W.iret (v := (-1)) hx hb hr (fun t ht hW => ⟨⟨_, (uf, ur), rfl, h, by rw [ht]; exact hP, hD⟩, hS.F ht⟩) hS.2.2 dX7_letter_17
abbrev rm_X7_least : Room := { frames := 6, cells := 0, slots := 0, locals := 144 }
set_option maxHeartbeats 4000000 in
set_option maxRecDepth 100000 in
theorem c_X7_least (l : Launch) (dC : Nat → ClassId) (dI : Nat → Nat → Nat) (AA : Nat → Nat → Nat) (CA : Nat → Nat → ClassId) (sz : Nat) (uf : Ob) (um : Ob) (ut : Ob) (uh : Ob) (ug : Ob) (ur : Ob) (uw : Ob) (ux : Ob) (uy : Ob) (post : Int32 → Ob → Ob → Prop) (h : wp_X7_least uf um ug ur post) : Met l yX7_least wsX7_least rm_X7_least (va_Pc [.ref (AA 0 0)] (fun U => U.heap.size = sz ∧ va_P (dC, dI) vwCl (wd_X7 AA CA uf um ut uh ug ur uw ux uy) U.heap ∧ va_K (dC, dI) vwCl (ty_X7 CA) U ∧ va_D (fun _ => True) (wd_X7 AA CA uf um ut uh ug ur uw ux uy))) (va_Qi (fun (rr : Int32) (zz : Ob × Ob) => post rr zz.1 zz.2) (fun (zz : Ob × Ob) (t : State) => va_P (dC, dI) vwCl (wd_X7 AA CA zz.1 um ut uh ug zz.2 uw ux uy) t.heap ∧ va_D (va_A (wd_X7 AA CA uf um ut uh ug ur uw ux uy) sz) (wd_X7 AA CA zz.1 um ut uh ug zz.2 uw ux uy)) (va_A (wd_X7 AA CA uf um ut uh ug ur uw ux uy) sz)) 0 0 (va_A (wd_X7 AA CA uf um ut uh ug ur uw ux uy) sz) := by
  refine fl_ofW (cc := cX7_least) (maxL := 1) (ret := (some .int)) (by decide) rfl ?_
  intro p e s m args below meth c s₁ Q B hml hv hQ
  obtain ⟨hargs, hsz, hP, hK, hD0⟩ := hv
  have hx := B.exec
  have hb := B.bytes
  have hr := B.returns
  have hts := atoms_spec (ws := wsX7_least) B.pre
  have hown : s.vm.findClass RX7 = some m.cls := findClass_of_methodNamed B.named
  subst hsz
  have hD := hD0.self (sz := s.heap.size)
  generalize hAe : va_A (wd_X7 AA CA uf um ut uh ug ur uw ux uy) s.heap.size = A at hD hQ
  have hA : ∀ q : Nat, s.heap.size ≤ q → A q := fun q h => by rw [← hAe]; exact Or.inr h
  have hS : va_S A s.heap s.heap [] := va_S.rf
  have hl := lv_entry ([.ref (AA 0 0)]) (n := 1) (Nat.le_of_ble_eq_true rfl)
  refine W.eq (g2 := F0 m 0 ((lg_sl ([.ref (AA 0 0)]) ++ List.replicate (1 - (lg_sl ([.ref (AA 0 0)])).length) Slot.unset).toArray) []) (by rw [hargs]; exact lg_entry_eq m _ 1) ?_
  generalize (lg_sl ([.ref (AA 0 0)]) ++ List.replicate (1 - (lg_sl ([.ref (AA 0 0)])).length) Slot.unset).toArray = ls at hl ⊢
  have hl : lv_has ls 1 [(0, .ref (AA 0 0))] := hl
  suffices hstart : ∀ (H : Heap) (locs : List Loc) (ls : Array Slot), va_P (dC, dI) vwCl (wd_X7 AA CA uf um ut uh ug ur uw ux uy) H → va_D A (wd_X7 AA CA uf um ut uh ug ur uw ux uy) → va_S A s.heap H locs → lv_has ls 1 [(0, .ref (AA 0 0))] → W p l e (headSpec wsX7_least rm_X7_least).room s m args below meth c H locs 0 0 Q (F0 m 0 ls []) from hstart _ _ _ hP hD hS hl
  clear hS hP hD hD0
  intro H locs ls hP hD hS hl
  have hin_X2 : ∀ w ∈ wsX20, w ∈ wsX7_least := by decide +kernel
  have hin_X7 : ∀ w ∈ wsX70, w ∈ wsX7_least := by decide +kernel
  have lk_0 := hts (.fieldLink RX7 36 "ForgettingLines" "search" "LForgettingLines$Search;") (by decide +kernel)
  have lk_1 := hts (.fieldLink RX7 157 "ForgettingLines$Search" "spent" "Z") (by decide +kernel)
  unfold wp_X7_least at h
  refine lv_aload_n hx hb dX7_least_0 rfl (lv_at hl 0 rfl) ?_
  have hPc := hP
  have hDc := hD
  have hKc := hK
  have hFc := va_free (wc := (wd_X7 AA CA uf um ut uh ug ur uw ux uy)) hD hS hA [0, 1, 2, 3, 4, 5, 6, 7, 8, 9, 10, 11, 12, 13, 14, 15, 16, 17, 18, 19, 20, 21, 22, 23, 24, 25] rfl
  refine va_callv (va_runV (As := []) (rest := []) ⟨hx, hb, hml, hown, hts⟩ (c_X7_searchOnce l dC dI AA CA H.size uf um ut uh ug ur uw ux uy _ h) (cwV 0 hts gX7_least_X7_searchOnce rfl rfl rfl (by decide +kernel) ⟨Nat.le_of_ble_eq_true rfl, Nat.le_of_ble_eq_true rfl⟩) ⟨fun a U g mk q => by obtain ⟨q0, q1, qP, qK, qD⟩ := q; exact ⟨q0, q1, qP, va_K.moved (u := U) (U := U.calling g mk a) (Vm.Alike.refl U.vm) qK, qD⟩, va_recv hKc hPc (ci := 6) (q0 := 0) rfl rfl, fun U hU hW => ⟨rfl, by rw [hU], by rw [hU]; exact hPc, va_K.moved hW.alike hKc, hDc.weaken (fun _ _ _ _ => trivial)⟩⟩ rfl rfl hl.1 rfl (lv_room (Nat.le_of_ble_eq_true rfl)) dX7_least_1 ⟨Nat.zero_le _, Nat.zero_le _⟩) hS (fun q _ h => hFc q h) hFc (fun zz t H1 locs ht hvm hw hB hz1 hk1 hS => ?_)
  obtain ⟨uf_1, ur_2⟩ := zz
  replace h := hw
  obtain ⟨hP1, hD1⟩ := hB
  rw [ht] at hP1
  replace hD : va_D A (wd_X7 AA CA uf_1 um ut uh ug ur_2 uw ux uy) := hD1.weaken (fun _ _ _ h9 => hFc _ h9)
  replace hP : va_P (dC, dI) vwCl (wd_X7 AA CA uf_1 um ut uh ug ur_2 uw ux uy) H1 := hP1
  generalize H1 = H at hP hS ⊢
  refine lv_aload_n hx hb dX7_least_4 rfl (lv_at hl 0 rfl) ?_
  refine va_get (D := (dC, dI)) (ci := 6) (v := .ref (AA 5 0)) (C := RX7) (T := TX7) (N := 8) hx hb hts hin_X7 hown hK hP 0 rfl rfl 4 (by decide) lk_0 (fun _ h9 => h9) rfl dX7_least_5 ?_
  refine va_get (D := (dC, dI)) (ci := 2) (v := .int (ur_2.1 1)) (C := RX2) (T := TX2) (N := 8) hx hb hts hin_X2 hown hK hP 12 rfl rfl 1 (by decide) lk_1 (fun _ h9 => h9) rfl dX7_least_8 ?_
  refine lv_if_eq (tgt := 19) hx hb dX7_least_11 (by decide) (fun hc_3 => ?_) (fun hc_3 => ?_)
  · replace h := h.1 hc_3
    refine lv_aload_n hx hb dX7_least_19 rfl (lv_at hl 0 rfl) ?_
    refine va_get (D := (dC, dI)) (ci := 6) (v := .ref (AA 5 0)) (C := RX7) (T := TX7) (N := 8) hx hb hts hin_X7 hown hK hP 0 rfl rfl 4 (by decide) lk_0 (fun _ h9 => h9) rfl dX7_least_20 ?_
    have hPc := hP.sub (ws' := (wd_X2 (AA 5) (CA 5) ur_2)) [12, 13, 14, 15, 16, 17, 18] rfl
    have hDc := hD.sub (ws' := (wd_X2 (AA 5) (CA 5) ur_2)) [12, 13, 14, 15, 16, 17, 18] (by decide) rfl
    have hKc := hK.sub (tys' := (ty_X2 (CA 5))) [7, 8, 9, 10, 11, 12] rfl
    have hFc := va_free (wc := (wd_X2 (AA 5) (CA 5) ur_2)) hD hS hA [12, 13, 14, 15, 16, 17, 18] rfl
    refine va_calli (va_runV (As := []) (rest := []) ⟨hx, hb, hml, hown, hts⟩ (c_X2_countLeast l dC dI (AA 5) (CA 5) H.size ur_2 _ h) (cwV 0 hts gX7_least_X2_countLeast rfl rfl rfl (by decide +kernel) ⟨Nat.le_of_ble_eq_true rfl, Nat.le_of_ble_eq_true rfl⟩) ⟨fun a U g mk q => by obtain ⟨q0, q1, qP, qK, qD⟩ := q; exact ⟨q0, q1, qP, va_K.moved (u := U) (U := U.calling g mk a) (Vm.Alike.refl U.vm) qK, qD⟩, va_recv hKc hPc (ci := 2) (q0 := 0) rfl rfl, fun U hU hW => ⟨rfl, by rw [hU], by rw [hU]; exact hPc, va_K.moved hW.alike hKc, hDc.weaken (fun _ _ _ _ => trivial)⟩⟩ rfl rfl hl.1 rfl (lv_room (Nat.le_of_ble_eq_true rfl)) dX7_least_23 ⟨Nat.zero_le _, Nat.zero_le _⟩) hS (fun q _ h => hFc q h) hFc (fun r_4 zz t H1 locs ht hvm hw hB hz1 hk1 hS => ?_)
    replace h := hw
    obtain ⟨hP1, hD1⟩ := hB
    rw [ht] at hP1
    obtain ⟨hP, hD⟩ := va_join (wr := [0, 1, 2, 3, 4, 5, 6, 7, 8, 9, 10, 11, 19, 20, 21, 22, 23, 24, 25].filterMap (fun i => (wd_X7 AA CA uf_1 um ut uh ug ur_2 uw ux uy)[i]?)) (w1 := (wd_X2 (AA 5) (CA 5) ur_2)) hP hD [12, 13, 14, 15, 16, 17, 18] [0, 1, 2, 3, 4, 5, 6, 7, 8, 9, 10, 11, 19, 20, 21, 22, 23, 24, 25] rfl rfl (by decide) (by decide) hk1 hFc hP1 hD1
    replace hP : va_P (dC, dI) vwCl (wd_X7 AA CA uf_1 um ut uh ug ur_2 uw ux uy) H1 := (hP.sub [0, 1, 2, 3, 4, 5, 6, 7, 8, 9, 10, 11, 19, 20, 21, 22, 23, 24, 25, 12, 13, 14, 15, 16, 17, 18] rfl)
    replace hD : va_D A (wd_X7 AA CA uf_1 um ut uh ug ur_2 uw ux uy) := (hD.sub [0, 1, 2, 3, 4, 5, 6, 7, 8, 9, 10, 11, 19, 20, 21, 22, 23, 24, 25, 12, 13, 14, 15, 16, 17, 18] (by decide) rfl)
    generalize H1 = H at hP hS ⊢
    subst hQ
    exact W.iret (v := r_4) hx hb hr (fun t ht hW => ⟨⟨_, (uf_1, ur_2), rfl, h, by rw [ht]; exact hP, hD⟩, hS.F ht⟩) hS.2.2 dX7_least_26
  · replace h := h.2 hc_3
    refine lv_bipush (v := (-3)) hx hb dX7_least_14 (by decide) ?_
    refine lv_goto (tgt := 26) hx hb dX7_least_16 (by decide) ?_
    subst hQ
    exact W.iret (v := (-3)) hx hb hr (fun t ht hW => ⟨⟨_, (uf_1, ur_2), rfl, h, by rw [ht]; exact hP, hD⟩, hS.F ht⟩) hS.2.2 dX7_least_26
abbrev rm_X7_far : Room := { frames := 6, cells := 0, slots := 0, locals := 144 }
set_option maxHeartbeats 4000000 in
set_option maxRecDepth 100000 in
theorem c_X7_far (l : Launch) (dC : Nat → ClassId) (dI : Nat → Nat → Nat) (AA : Nat → Nat → Nat) (CA : Nat → Nat → ClassId) (sz : Nat) (uf : Ob) (um : Ob) (ut : Ob) (uh : Ob) (ug : Ob) (ur : Ob) (uw : Ob) (ux : Ob) (uy : Ob) (post : Int32 → Ob → Ob → Prop) (h : wp_X7_far uf um uh ug ur post) : Met l yX7_far wsX7_far rm_X7_far (va_Pc [.ref (AA 0 0)] (fun U => U.heap.size = sz ∧ va_P (dC, dI) vwCl (wd_X7 AA CA uf um ut uh ug ur uw ux uy) U.heap ∧ va_K (dC, dI) vwCl (ty_X7 CA) U ∧ va_D (fun _ => True) (wd_X7 AA CA uf um ut uh ug ur uw ux uy))) (va_Qi (fun (rr : Int32) (zz : Ob × Ob) => post rr zz.1 zz.2) (fun (zz : Ob × Ob) (t : State) => va_P (dC, dI) vwCl (wd_X7 AA CA zz.1 um ut uh ug zz.2 uw ux uy) t.heap ∧ va_D (va_A (wd_X7 AA CA uf um ut uh ug ur uw ux uy) sz) (wd_X7 AA CA zz.1 um ut uh ug zz.2 uw ux uy)) (va_A (wd_X7 AA CA uf um ut uh ug ur uw ux uy) sz)) 0 0 (va_A (wd_X7 AA CA uf um ut uh ug ur uw ux uy) sz) := by
  refine fl_ofW (cc := cX7_far) (maxL := 2) (ret := (some .int)) (by decide) rfl ?_
  intro p e s m args below meth c s₁ Q B hml hv hQ
  obtain ⟨hargs, hsz, hP, hK, hD0⟩ := hv
  have hx := B.exec
  have hb := B.bytes
  have hr := B.returns
  have hts := atoms_spec (ws := wsX7_far) B.pre
  have hown : s.vm.findClass RX7 = some m.cls := findClass_of_methodNamed B.named
  subst hsz
  have hD := hD0.self (sz := s.heap.size)
  generalize hAe : va_A (wd_X7 AA CA uf um ut uh ug ur uw ux uy) s.heap.size = A at hD hQ
  have hA : ∀ q : Nat, s.heap.size ≤ q → A q := fun q h => by rw [← hAe]; exact Or.inr h
  have hS : va_S A s.heap s.heap [] := va_S.rf
  have hl := lv_entry ([.ref (AA 0 0)]) (n := 2) (Nat.le_of_ble_eq_true rfl)
  refine W.eq (g2 := F0 m 0 ((lg_sl ([.ref (AA 0 0)]) ++ List.replicate (2 - (lg_sl ([.ref (AA 0 0)])).length) Slot.unset).toArray) []) (by rw [hargs]; exact lg_entry_eq m _ 2) ?_
  generalize (lg_sl ([.ref (AA 0 0)]) ++ List.replicate (2 - (lg_sl ([.ref (AA 0 0)])).length) Slot.unset).toArray = ls at hl ⊢
  have hl : lv_has ls 2 [(0, .ref (AA 0 0))] := hl
  suffices hstart : ∀ (H : Heap) (locs : List Loc) (ls : Array Slot), va_P (dC, dI) vwCl (wd_X7 AA CA uf um ut uh ug ur uw ux uy) H → va_D A (wd_X7 AA CA uf um ut uh ug ur uw ux uy) → va_S A s.heap H locs → lv_has ls 2 [(0, .ref (AA 0 0))] → W p l e (headSpec wsX7_far rm_X7_far).room s m args below meth c H locs 0 0 Q (F0 m 0 ls []) from hstart _ _ _ hP hD hS hl
  clear hS hP hD hD0
  intro H locs ls hP hD hS hl
  have hin_X1 : ∀ w ∈ wsX10, w ∈ wsX7_far := by decide +kernel
  have hin_X2 : ∀ w ∈ wsX20, w ∈ wsX7_far := by decide +kernel
  have hin_X7 : ∀ w ∈ wsX70, w ∈ wsX7_far := by decide +kernel
  have lk_0 := hts (.fieldLink RX7 36 "ForgettingLines" "search" "LForgettingLines$Search;") (by decide +kernel)
  have lk_1 := hts (.fieldLink RX7 157 "ForgettingLines$Search" "spent" "Z") (by decide +kernel)
  have lk_2 := hts (.fieldLink RX7 26 "ForgettingLines" "here" "LForgettingLines$Place;") (by decide +kernel)
  have lk_3 := hts (.fieldLink RX7 124 "ForgettingLines$Place" "state" "I") (by decide +kernel)
  have lk_4 := hts (.fieldLink RX7 127 "ForgettingLines$Place" "words" "[I") (by decide +kernel)
  have lk_5 := hts (.fieldLink RX7 174 "ForgettingLines$Search" "rounds" "[I") (by decide +kernel)
  unfold wp_X7_far at h
  refine lv_aload_n hx hb dX7_far_0 rfl (lv_at hl 0 rfl) ?_
  have hPc := hP
  have hDc := hD
  have hKc := hK
  have hFc := va_free (wc := (wd_X7 AA CA uf um ut uh ug ur uw ux uy)) hD hS hA [0, 1, 2, 3, 4, 5, 6, 7, 8, 9, 10, 11, 12, 13, 14, 15, 16, 17, 18, 19, 20, 21, 22, 23, 24, 25] rfl
  refine va_callv (va_runV (As := []) (rest := []) ⟨hx, hb, hml, hown, hts⟩ (c_X7_searchOnce l dC dI AA CA H.size uf um ut uh ug ur uw ux uy _ h) (cwV 0 hts gX7_far_X7_searchOnce rfl rfl rfl (by decide +kernel) ⟨Nat.le_of_ble_eq_true rfl, Nat.le_of_ble_eq_true rfl⟩) ⟨fun a U g mk q => by obtain ⟨q0, q1, qP, qK, qD⟩ := q; exact ⟨q0, q1, qP, va_K.moved (u := U) (U := U.calling g mk a) (Vm.Alike.refl U.vm) qK, qD⟩, va_recv hKc hPc (ci := 6) (q0 := 0) rfl rfl, fun U hU hW => ⟨rfl, by rw [hU], by rw [hU]; exact hPc, va_K.moved hW.alike hKc, hDc.weaken (fun _ _ _ _ => trivial)⟩⟩ rfl rfl hl.1 rfl (lv_room (Nat.le_of_ble_eq_true rfl)) dX7_far_1 ⟨Nat.zero_le _, Nat.zero_le _⟩) hS (fun q _ h => hFc q h) hFc (fun zz t H1 locs ht hvm hw hB hz1 hk1 hS => ?_)
  obtain ⟨uf_1, ur_2⟩ := zz
  replace h := hw
  obtain ⟨hP1, hD1⟩ := hB
  rw [ht] at hP1
  replace hD : va_D A (wd_X7 AA CA uf_1 um ut uh ug ur_2 uw ux uy) := hD1.weaken (fun _ _ _ h9 => hFc _ h9)
  replace hP : va_P (dC, dI) vwCl (wd_X7 AA CA uf_1 um ut uh ug ur_2 uw ux uy) H1 := hP1
  generalize H1 = H at hP hS ⊢
  refine lv_aload_n hx hb dX7_far_4 rfl (lv_at hl 0 rfl) ?_
  refine va_get (D := (dC, dI)) (ci := 6) (v := .ref (AA 5 0)) (C := RX7) (T := TX7) (N := 8) hx hb hts hin_X7 hown hK hP 0 rfl rfl 4 (by decide) lk_0 (fun _ h9 => h9) rfl dX7_far_5 ?_
  refine va_get (D := (dC, dI)) (ci := 2) (v := .int (ur_2.1 1)) (C := RX2) (T := TX2) (N := 8) hx hb hts hin_X2 hown hK hP 12 rfl rfl 1 (by decide) lk_1 (fun _ h9 => h9) rfl dX7_far_8 ?_
  refine lv_if_eq (tgt := 17) hx hb dX7_far_11 (by decide) (fun hc_3 => ?_) (fun hc_3 => ?_)
  · replace h := h.1 hc_3
    refine lv_aload_n hx hb dX7_far_17 rfl (lv_at hl 0 rfl) ?_
    refine va_get (D := (dC, dI)) (ci := 6) (v := .ref (AA 5 0)) (C := RX7) (T := TX7) (N := 8) hx hb hts hin_X7 hown hK hP 0 rfl rfl 4 (by decide) lk_0 (fun _ h9 => h9) rfl dX7_far_18 ?_
    refine lv_aload_n hx hb dX7_far_21 rfl (lv_at hl 0 rfl) ?_
    refine va_get (D := (dC, dI)) (ci := 6) (v := .ref (AA 3 0)) (C := RX7) (T := TX7) (N := 8) hx hb hts hin_X7 hown hK hP 0 rfl rfl 2 (by decide) lk_2 (fun _ h9 => h9) rfl dX7_far_22 ?_
    refine va_get (D := (dC, dI)) (ci := 1) (v := .int (uh.1 0)) (C := RX1) (T := TX1) (N := 2) hx hb hts hin_X1 hown hK hP 8 rfl rfl 0 (by decide) lk_3 (fun _ h9 => h9) rfl dX7_far_25 ?_
    refine lv_aload_n hx hb dX7_far_28 rfl (lv_at hl 0 rfl) ?_
    refine va_get (D := (dC, dI)) (ci := 6) (v := .ref (AA 3 0)) (C := RX7) (T := TX7) (N := 8) hx hb hts hin_X7 hown hK hP 0 rfl rfl 2 (by decide) lk_2 (fun _ h9 => h9) rfl dX7_far_29 ?_
    refine va_get (D := (dC, dI)) (ci := 1) (v := .ref (AA 3 2)) (C := RX1) (T := TX1) (N := 2) hx hb hts hin_X1 hown hK hP 8 rfl rfl 1 (by decide) lk_4 (fun _ h9 => h9) rfl dX7_far_32 ?_
    refine lv_iconst (v := 0) hx hb dX7_far_35 (by decide) ?_
    obtain ⟨hi_4, h⟩ := h
    refine va_iald (D := (dC, dI)) (cl := vwCl) (i := 0) hx hb hK hP 9 5 rfl rfl hi_4 dX7_far_36 ?_
    refine lv_aload_n hx hb dX7_far_37 rfl (lv_at hl 0 rfl) ?_
    refine va_get (D := (dC, dI)) (ci := 6) (v := .ref (AA 3 0)) (C := RX7) (T := TX7) (N := 8) hx hb hts hin_X7 hown hK hP 0 rfl rfl 2 (by decide) lk_2 (fun _ h9 => h9) rfl dX7_far_38 ?_
    refine va_get (D := (dC, dI)) (ci := 1) (v := .ref (AA 3 2)) (C := RX1) (T := TX1) (N := 2) hx hb hts hin_X1 hown hK hP 8 rfl rfl 1 (by decide) lk_4 (fun _ h9 => h9) rfl dX7_far_41 ?_
    refine lv_iconst (v := 1) hx hb dX7_far_44 (by decide) ?_
    obtain ⟨hi_5, h⟩ := h
    refine va_iald (D := (dC, dI)) (cl := vwCl) (i := 1) hx hb hK hP 9 5 rfl rfl hi_5 dX7_far_45 ?_
    have hPc := hP.sub (ws' := (wd_X2 (AA 5) (CA 5) ur_2)) [12, 13, 14, 15, 16, 17, 18] rfl
    have hDc := hD.sub (ws' := (wd_X2 (AA 5) (CA 5) ur_2)) [12, 13, 14, 15, 16, 17, 18] (by decide) rfl
    have hKc := hK.sub (tys' := (ty_X2 (CA 5))) [7, 8, 9, 10, 11, 12] rfl
    have hFc := va_free (wc := (wd_X2 (AA 5) (CA 5) ur_2)) hD hS hA [12, 13, 14, 15, 16, 17, 18] rfl
    refine va_calli (va_runV (As := [.int (uh.1 0), .int (uh.2.1 1 (0 : Int32).toNatClampNeg), .int (uh.2.1 1 (1 : Int32).toNatClampNeg)]) (rest := []) ⟨hx, hb, hml, hown, hts⟩ (c_X2_firstBelow l dC dI (AA 5) (CA 5) H.size ur_2 (uh.1 0) (uh.2.1 1 (0 : Int32).toNatClampNeg) (uh.2.1 1 (1 : Int32).toNatClampNeg) _ h) (cwV 3 hts gX7_far_X2_firstBelow rfl rfl rfl (by decide +kernel) ⟨Nat.le_of_ble_eq_true rfl, Nat.le_of_ble_eq_true rfl⟩) ⟨fun a U g mk q => by obtain ⟨q0, q1, qP, qK, qD⟩ := q; exact ⟨q0, q1, qP, va_K.moved (u := U) (U := U.calling g mk a) (Vm.Alike.refl U.vm) qK, qD⟩, va_recv hKc hPc (ci := 2) (q0 := 0) rfl rfl, fun U hU hW => ⟨rfl, by rw [hU], by rw [hU]; exact hPc, va_K.moved hW.alike hKc, hDc.weaken (fun _ _ _ _ => trivial)⟩⟩ rfl rfl hl.1 rfl (lv_room (Nat.le_of_ble_eq_true rfl)) dX7_far_46 ⟨Nat.zero_le _, Nat.zero_le _⟩) hS (fun q _ h => hFc q h) hFc (fun r_6 zz t H1 locs ht hvm hw hB hz1 hk1 hS => ?_)
    replace h := hw
    obtain ⟨hP1, hD1⟩ := hB
    rw [ht] at hP1
    obtain ⟨hP, hD⟩ := va_join (wr := [0, 1, 2, 3, 4, 5, 6, 7, 8, 9, 10, 11, 19, 20, 21, 22, 23, 24, 25].filterMap (fun i => (wd_X7 AA CA uf_1 um ut uh ug ur_2 uw ux uy)[i]?)) (w1 := (wd_X2 (AA 5) (CA 5) ur_2)) hP hD [12, 13, 14, 15, 16, 17, 18] [0, 1, 2, 3, 4, 5, 6, 7, 8, 9, 10, 11, 19, 20, 21, 22, 23, 24, 25] rfl rfl (by decide) (by decide) hk1 hFc hP1 hD1
    replace hP : va_P (dC, dI) vwCl (wd_X7 AA CA uf_1 um ut uh ug ur_2 uw ux uy) H1 := (hP.sub [0, 1, 2, 3, 4, 5, 6, 7, 8, 9, 10, 11, 19, 20, 21, 22, 23, 24, 25, 12, 13, 14, 15, 16, 17, 18] rfl)
    replace hD : va_D A (wd_X7 AA CA uf_1 um ut uh ug ur_2 uw ux uy) := (hD.sub [0, 1, 2, 3, 4, 5, 6, 7, 8, 9, 10, 11, 19, 20, 21, 22, 23, 24, 25, 12, 13, 14, 15, 16, 17, 18] (by decide) rfl)
    generalize H1 = H at hP hS ⊢
    refine lv_istore_n (lv' := [(1, .int r_6), (0, .ref (AA 0 0))]) hx hb dX7_far_49 rfl hl (by decide) rfl (fun ls hl => ?_)
    refine lv_iload_n hx hb dX7_far_50 rfl (lv_at hl 0 rfl) ?_
    refine lv_if_ge (tgt := 59) hx hb dX7_far_51 (by decide) (fun hc_7 => ?_) (fun hc_7 => ?_)
    · replace h := h.1 hc_7
      refine lv_aload_n hx hb dX7_far_59 rfl (lv_at hl 1 rfl) ?_
      refine va_get (D := (dC, dI)) (ci := 6) (v := .ref (AA 5 0)) (C := RX7) (T := TX7) (N := 8) hx hb hts hin_X7 hown hK hP 0 rfl rfl 4 (by decide) lk_0 (fun _ h9 => h9) rfl dX7_far_60 ?_
      refine va_get (D := (dC, dI)) (ci := 2) (v := .ref (AA 5 3)) (C := RX2) (T := TX2) (N := 8) hx hb hts hin_X2 hown hK hP 12 rfl rfl 2 (by decide) lk_5 (fun _ h9 => h9) rfl dX7_far_63 ?_
      refine lv_iload_n hx hb dX7_far_66 rfl (lv_at hl 0 rfl) ?_
      obtain ⟨hi_8, h⟩ := h
      refine va_iald (D := (dC, dI)) (cl := vwCl) (i := r_6) hx hb hK hP 13 7 rfl rfl hi_8 dX7_far_67 ?_
      subst hQ
      exact W.iret (v := (ur_2.2.1 2 r_6.toNatClampNeg)) hx hb hr (fun t ht hW => ⟨⟨_, (uf_1, ur_2), rfl, h, by rw [ht]; exact hP, hD⟩, hS.F ht⟩) hS.2.2 dX7_far_68
    · replace h := h.2 hc_7
      refine lv_bipush (v := (-4)) hx hb dX7_far_54 (by decide) ?_
      refine lv_goto (tgt := 68) hx hb dX7_far_56 (by decide) ?_
      subst hQ
      exact W.iret (v := (-4)) hx hb hr (fun t ht hW => ⟨⟨_, (uf_1, ur_2), rfl, h, by rw [ht]; exact hP, hD⟩, hS.F ht⟩) hS.2.2 dX7_far_68
  · replace h := h.2 hc_3
    refine lv_bipush (v := (-3)) hx hb dX7_far_14 (by decide) ?_
    subst hQ
    exact W.iret (v := (-3)) hx hb hr (fun t ht hW => ⟨⟨_, (uf_1, ur_2), rfl, h, by rw [ht]; exact hP, hD⟩, hS.F ht⟩) hS.2.2 dX7_far_16
abbrev rm_X7_way : Room := { frames := 6, cells := 0, slots := 0, locals := 144 }
set_option maxHeartbeats 4000000 in
set_option maxRecDepth 100000 in
theorem c_X7_way (l : Launch) (dC : Nat → ClassId) (dI : Nat → Nat → Nat) (AA : Nat → Nat → Nat) (CA : Nat → Nat → ClassId) (sz : Nat) (uf : Ob) (um : Ob) (ut : Ob) (uh : Ob) (ug : Ob) (ur : Ob) (uw : Ob) (ux : Ob) (uy : Ob) (x1 : Int32) (post : Int32 → Ob → Ob → Prop) (h : wp_X7_way uf um uh ug ur x1 post) : Met l yX7_way wsX7_way rm_X7_way (va_Pc [.ref (AA 0 0), .int x1] (fun U => U.heap.size = sz ∧ va_P (dC, dI) vwCl (wd_X7 AA CA uf um ut uh ug ur uw ux uy) U.heap ∧ va_K (dC, dI) vwCl (ty_X7 CA) U ∧ va_D (fun _ => True) (wd_X7 AA CA uf um ut uh ug ur uw ux uy))) (va_Qi (fun (rr : Int32) (zz : Ob × Ob) => post rr zz.1 zz.2) (fun (zz : Ob × Ob) (t : State) => va_P (dC, dI) vwCl (wd_X7 AA CA zz.1 um ut uh ug zz.2 uw ux uy) t.heap ∧ va_D (va_A (wd_X7 AA CA uf um ut uh ug ur uw ux uy) sz) (wd_X7 AA CA zz.1 um ut uh ug zz.2 uw ux uy)) (va_A (wd_X7 AA CA uf um ut uh ug ur uw ux uy) sz)) 0 0 (va_A (wd_X7 AA CA uf um ut uh ug ur uw ux uy) sz) := by
  refine fl_ofW (cc := cX7_way) (maxL := 3) (ret := (some .int)) (by decide) rfl ?_
  intro p e s m args below meth c s₁ Q B hml hv hQ
  obtain ⟨hargs, hsz, hP, hK, hD0⟩ := hv
  have hx := B.exec
  have hb := B.bytes
  have hr := B.returns
  have hts := atoms_spec (ws := wsX7_way) B.pre
  have hown : s.vm.findClass RX7 = some m.cls := findClass_of_methodNamed B.named
  subst hsz
  have hD := hD0.self (sz := s.heap.size)
  generalize hAe : va_A (wd_X7 AA CA uf um ut uh ug ur uw ux uy) s.heap.size = A at hD hQ
  have hA : ∀ q : Nat, s.heap.size ≤ q → A q := fun q h => by rw [← hAe]; exact Or.inr h
  have hS : va_S A s.heap s.heap [] := va_S.rf
  have hl := lv_entry ([.ref (AA 0 0), .int x1]) (n := 3) (Nat.le_of_ble_eq_true rfl)
  refine W.eq (g2 := F0 m 0 ((lg_sl ([.ref (AA 0 0), .int x1]) ++ List.replicate (3 - (lg_sl ([.ref (AA 0 0), .int x1])).length) Slot.unset).toArray) []) (by rw [hargs]; exact lg_entry_eq m _ 3) ?_
  generalize (lg_sl ([.ref (AA 0 0), .int x1]) ++ List.replicate (3 - (lg_sl ([.ref (AA 0 0), .int x1])).length) Slot.unset).toArray = ls at hl ⊢
  have hl : lv_has ls 3 [(0, .ref (AA 0 0)), (1, .int x1)] := hl
  suffices hstart : ∀ (H : Heap) (locs : List Loc) (ls : Array Slot), va_P (dC, dI) vwCl (wd_X7 AA CA uf um ut uh ug ur uw ux uy) H → va_D A (wd_X7 AA CA uf um ut uh ug ur uw ux uy) → va_S A s.heap H locs → lv_has ls 3 [(0, .ref (AA 0 0)), (1, .int x1)] → W p l e (headSpec wsX7_way rm_X7_way).room s m args below meth c H locs 0 0 Q (F0 m 0 ls []) from hstart _ _ _ hP hD hS hl
  clear hS hP hD hD0
  intro H locs ls hP hD hS hl
  have hin_X1 : ∀ w ∈ wsX10, w ∈ wsX7_way := by decide +kernel
  have hin_X2 : ∀ w ∈ wsX20, w ∈ wsX7_way := by decide +kernel
  have hin_X7 : ∀ w ∈ wsX70, w ∈ wsX7_way := by decide +kernel
  have lk_0 := hts (.fieldLink RX7 36 "ForgettingLines" "search" "LForgettingLines$Search;") (by decide +kernel)
  have lk_1 := hts (.fieldLink RX7 157 "ForgettingLines$Search" "spent" "Z") (by decide +kernel)
  have lk_2 := hts (.fieldLink RX7 26 "ForgettingLines" "here" "LForgettingLines$Place;") (by decide +kernel)
  have lk_3 := hts (.fieldLink RX7 124 "ForgettingLines$Place" "state" "I") (by decide +kernel)
  have lk_4 := hts (.fieldLink RX7 127 "ForgettingLines$Place" "words" "[I") (by decide +kernel)
  have lk_5 := hts (.fieldLink RX7 174 "ForgettingLines$Search" "rounds" "[I") (by decide +kernel)
  unfold wp_X7_way at h
  refine lv_iload_n hx hb dX7_way_0 rfl (lv_at hl 1 rfl) ?_
  refine lv_if_ge (tgt := 6) hx hb dX7_way_1 (by decide) (fun hc_1 => ?_) (fun hc_1 => ?_)
  · replace h := h.1 hc_1
    refine lv_aload_n hx hb dX7_way_6 rfl (lv_at hl 0 rfl) ?_
    have hPc := hP
    have hDc := hD
    have hKc := hK
    have hFc := va_free (wc := (wd_X7 AA CA uf um ut uh ug ur uw ux uy)) hD hS hA [0, 1, 2, 3, 4, 5, 6, 7, 8, 9, 10, 11, 12, 13, 14, 15, 16, 17, 18, 19, 20, 21, 22, 23, 24, 25] rfl
    refine va_callv (va_runV (As := []) (rest := []) ⟨hx, hb, hml, hown, hts⟩ (c_X7_searchOnce l dC dI AA CA H.size uf um ut uh ug ur uw ux uy _ h) (cwV 0 hts gX7_way_X7_searchOnce rfl rfl rfl (by decide +kernel) ⟨Nat.le_of_ble_eq_true rfl, Nat.le_of_ble_eq_true rfl⟩) ⟨fun a U g mk q => by obtain ⟨q0, q1, qP, qK, qD⟩ := q; exact ⟨q0, q1, qP, va_K.moved (u := U) (U := U.calling g mk a) (Vm.Alike.refl U.vm) qK, qD⟩, va_recv hKc hPc (ci := 6) (q0 := 0) rfl rfl, fun U hU hW => ⟨rfl, by rw [hU], by rw [hU]; exact hPc, va_K.moved hW.alike hKc, hDc.weaken (fun _ _ _ _ => trivial)⟩⟩ rfl rfl hl.1 rfl (lv_room (Nat.le_of_ble_eq_true rfl)) dX7_way_7 ⟨Nat.zero_le _, Nat.zero_le _⟩) hS (fun q _ h => hFc q h) hFc (fun zz t H1 locs ht hvm hw hB hz1 hk1 hS => ?_)
    obtain ⟨uf_2, ur_3⟩ := zz
    replace h := hw
    obtain ⟨hP1, hD1⟩ := hB
    rw [ht] at hP1
    replace hD : va_D A (wd_X7 AA CA uf_2 um ut uh ug ur_3 uw ux uy) := hD1.weaken (fun _ _ _ h9 => hFc _ h9)
    replace hP : va_P (dC, dI) vwCl (wd_X7 AA CA uf_2 um ut uh ug ur_3 uw ux uy) H1 := hP1
    generalize H1 = H at hP hS ⊢
    refine lv_aload_n hx hb dX7_way_10 rfl (lv_at hl 0 rfl) ?_
    refine va_get (D := (dC, dI)) (ci := 6) (v := .ref (AA 5 0)) (C := RX7) (T := TX7) (N := 8) hx hb hts hin_X7 hown hK hP 0 rfl rfl 4 (by decide) lk_0 (fun _ h9 => h9) rfl dX7_way_11 ?_
    refine va_get (D := (dC, dI)) (ci := 2) (v := .int (ur_3.1 1)) (C := RX2) (T := TX2) (N := 8) hx hb hts hin_X2 hown hK hP 12 rfl rfl 1 (by decide) lk_1 (fun _ h9 => h9) rfl dX7_way_14 ?_
    refine lv_if_eq (tgt := 23) hx hb dX7_way_17 (by decide) (fun hc_4 => ?_) (fun hc_4 => ?_)
    · replace h := h.1 hc_4
      refine lv_aload_n hx hb dX7_way_23 rfl (lv_at hl 0 rfl) ?_
      refine va_get (D := (dC, dI)) (ci := 6) (v := .ref (AA 5 0)) (C := RX7) (T := TX7) (N := 8) hx hb hts hin_X7 hown hK hP 0 rfl rfl 4 (by decide) lk_0 (fun _ h9 => h9) rfl dX7_way_24 ?_
      refine lv_aload_n hx hb dX7_way_27 rfl (lv_at hl 0 rfl) ?_
      refine va_get (D := (dC, dI)) (ci := 6) (v := .ref (AA 3 0)) (C := RX7) (T := TX7) (N := 8) hx hb hts hin_X7 hown hK hP 0 rfl rfl 2 (by decide) lk_2 (fun _ h9 => h9) rfl dX7_way_28 ?_
      refine va_get (D := (dC, dI)) (ci := 1) (v := .int (uh.1 0)) (C := RX1) (T := TX1) (N := 2) hx hb hts hin_X1 hown hK hP 8 rfl rfl 0 (by decide) lk_3 (fun _ h9 => h9) rfl dX7_way_31 ?_
      refine lv_aload_n hx hb dX7_way_34 rfl (lv_at hl 0 rfl) ?_
      refine va_get (D := (dC, dI)) (ci := 6) (v := .ref (AA 3 0)) (C := RX7) (T := TX7) (N := 8) hx hb hts hin_X7 hown hK hP 0 rfl rfl 2 (by decide) lk_2 (fun _ h9 => h9) rfl dX7_way_35 ?_
      refine va_get (D := (dC, dI)) (ci := 1) (v := .ref (AA 3 2)) (C := RX1) (T := TX1) (N := 2) hx hb hts hin_X1 hown hK hP 8 rfl rfl 1 (by decide) lk_4 (fun _ h9 => h9) rfl dX7_way_38 ?_
      refine lv_iconst (v := 0) hx hb dX7_way_41 (by decide) ?_
      obtain ⟨hi_5, h⟩ := h
      refine va_iald (D := (dC, dI)) (cl := vwCl) (i := 0) hx hb hK hP 9 5 rfl rfl hi_5 dX7_way_42 ?_
      refine lv_aload_n hx hb dX7_way_43 rfl (lv_at hl 0 rfl) ?_
      refine va_get (D := (dC, dI)) (ci := 6) (v := .ref (AA 3 0)) (C := RX7) (T := TX7) (N := 8) hx hb hts hin_X7 hown hK hP 0 rfl rfl 2 (by decide) lk_2 (fun _ h9 => h9) rfl dX7_way_44 ?_
      refine va_get (D := (dC, dI)) (ci := 1) (v := .ref (AA 3 2)) (C := RX1) (T := TX1) (N := 2) hx hb hts hin_X1 hown hK hP 8 rfl rfl 1 (by decide) lk_4 (fun _ h9 => h9) rfl dX7_way_47 ?_
      refine lv_iconst (v := 1) hx hb dX7_way_50 (by decide) ?_
      obtain ⟨hi_6, h⟩ := h
      refine va_iald (D := (dC, dI)) (cl := vwCl) (i := 1) hx hb hK hP 9 5 rfl rfl hi_6 dX7_way_51 ?_
      have hPc := hP.sub (ws' := (wd_X2 (AA 5) (CA 5) ur_3)) [12, 13, 14, 15, 16, 17, 18] rfl
      have hDc := hD.sub (ws' := (wd_X2 (AA 5) (CA 5) ur_3)) [12, 13, 14, 15, 16, 17, 18] (by decide) rfl
      have hKc := hK.sub (tys' := (ty_X2 (CA 5))) [7, 8, 9, 10, 11, 12] rfl
      have hFc := va_free (wc := (wd_X2 (AA 5) (CA 5) ur_3)) hD hS hA [12, 13, 14, 15, 16, 17, 18] rfl
      refine va_calli (va_runV (As := [.int (uh.1 0), .int (uh.2.1 1 (0 : Int32).toNatClampNeg), .int (uh.2.1 1 (1 : Int32).toNatClampNeg)]) (rest := []) ⟨hx, hb, hml, hown, hts⟩ (c_X2_firstBelow l dC dI (AA 5) (CA 5) H.size ur_3 (uh.1 0) (uh.2.1 1 (0 : Int32).toNatClampNeg) (uh.2.1 1 (1 : Int32).toNatClampNeg) _ h) (cwV 3 hts gX7_way_X2_firstBelow rfl rfl rfl (by decide +kernel) ⟨Nat.le_of_ble_eq_true rfl, Nat.le_of_ble_eq_true rfl⟩) ⟨fun a U g mk q => by obtain ⟨q0, q1, qP, qK, qD⟩ := q; exact ⟨q0, q1, qP, va_K.moved (u := U) (U := U.calling g mk a) (Vm.Alike.refl U.vm) qK, qD⟩, va_recv hKc hPc (ci := 2) (q0 := 0) rfl rfl, fun U hU hW => ⟨rfl, by rw [hU], by rw [hU]; exact hPc, va_K.moved hW.alike hKc, hDc.weaken (fun _ _ _ _ => trivial)⟩⟩ rfl rfl hl.1 rfl (lv_room (Nat.le_of_ble_eq_true rfl)) dX7_way_52 ⟨Nat.zero_le _, Nat.zero_le _⟩) hS (fun q _ h => hFc q h) hFc (fun r_7 zz t H1 locs ht hvm hw hB hz1 hk1 hS => ?_)
      replace h := hw
      obtain ⟨hP1, hD1⟩ := hB
      rw [ht] at hP1
      obtain ⟨hP, hD⟩ := va_join (wr := [0, 1, 2, 3, 4, 5, 6, 7, 8, 9, 10, 11, 19, 20, 21, 22, 23, 24, 25].filterMap (fun i => (wd_X7 AA CA uf_2 um ut uh ug ur_3 uw ux uy)[i]?)) (w1 := (wd_X2 (AA 5) (CA 5) ur_3)) hP hD [12, 13, 14, 15, 16, 17, 18] [0, 1, 2, 3, 4, 5, 6, 7, 8, 9, 10, 11, 19, 20, 21, 22, 23, 24, 25] rfl rfl (by decide) (by decide) hk1 hFc hP1 hD1
      replace hP : va_P (dC, dI) vwCl (wd_X7 AA CA uf_2 um ut uh ug ur_3 uw ux uy) H1 := (hP.sub [0, 1, 2, 3, 4, 5, 6, 7, 8, 9, 10, 11, 19, 20, 21, 22, 23, 24, 25, 12, 13, 14, 15, 16, 17, 18] rfl)
      replace hD : va_D A (wd_X7 AA CA uf_2 um ut uh ug ur_3 uw ux uy) := (hD.sub [0, 1, 2, 3, 4, 5, 6, 7, 8, 9, 10, 11, 19, 20, 21, 22, 23, 24, 25, 12, 13, 14, 15, 16, 17, 18] (by decide) rfl)
      generalize H1 = H at hP hS ⊢
      refine lv_istore_n (lv' := [(2, .int r_7), (0, .ref (AA 0 0)), (1, .int x1)]) hx hb dX7_way_55 rfl hl (by decide) rfl (fun ls hl => ?_)
      refine lv_iload_n hx hb dX7_way_56 rfl (lv_at hl 0 rfl) ?_
      refine lv_if_ge (tgt := 63) hx hb dX7_way_57 (by decide) (fun hc_8 => ?_) (fun hc_8 => ?_)
      · replace h := h.1 hc_8
        refine lv_iload_n hx hb dX7_way_63 rfl (lv_at hl 2 rfl) ?_
        refine lv_aload_n hx hb dX7_way_64 rfl (lv_at hl 1 rfl) ?_
        refine va_get (D := (dC, dI)) (ci := 6) (v := .ref (AA 5 0)) (C := RX7) (T := TX7) (N := 8) hx hb hts hin_X7 hown hK hP 0 rfl rfl 4 (by decide) lk_0 (fun _ h9 => h9) rfl dX7_way_65 ?_
        refine va_get (D := (dC, dI)) (ci := 2) (v := .ref (AA 5 3)) (C := RX2) (T := TX2) (N := 8) hx hb hts hin_X2 hown hK hP 12 rfl rfl 2 (by decide) lk_5 (fun _ h9 => h9) rfl dX7_way_68 ?_
        refine lv_iload_n hx hb dX7_way_71 rfl (lv_at hl 0 rfl) ?_
        obtain ⟨hi_9, h⟩ := h
        refine va_iald (D := (dC, dI)) (cl := vwCl) (i := r_7) hx hb hK hP 13 7 rfl rfl hi_9 dX7_way_72 ?_
        refine lv_icmp_ge (tgt := 88) hx hb dX7_way_73 (by decide) (fun hc_10 => ?_) (fun hc_10 => ?_)
        · replace h := h.1 hc_10
          refine lv_iconst (v := (-1)) hx hb dX7_way_88 (by decide) ?_
          subst hQ
          exact W.iret (v := (-1)) hx hb hr (fun t ht hW => ⟨⟨_, (uf_2, ur_3), rfl, h, by rw [ht]; exact hP, hD⟩, hS.F ht⟩) hS.2.2 dX7_way_89
        · replace h := h.2 hc_10
          refine lv_aload_n hx hb dX7_way_76 rfl (lv_at hl 1 rfl) ?_
          refine va_get (D := (dC, dI)) (ci := 6) (v := .ref (AA 5 0)) (C := RX7) (T := TX7) (N := 8) hx hb hts hin_X7 hown hK hP 0 rfl rfl 4 (by decide) lk_0 (fun _ h9 => h9) rfl dX7_way_77 ?_
          refine lv_iload_n hx hb dX7_way_80 rfl (lv_at hl 0 rfl) ?_
          refine lv_iload_n hx hb dX7_way_81 rfl (lv_at hl 2 rfl) ?_
          have hPc := hP.sub (ws' := (wd_X2 (AA 5) (CA 5) ur_3)) [12, 13, 14, 15, 16, 17, 18] rfl
          have hDc := hD.sub (ws' := (wd_X2 (AA 5) (CA 5) ur_3)) [12, 13, 14, 15, 16, 17, 18] (by decide) rfl
          have hKc := hK.sub (tys' := (ty_X2 (CA 5))) [7, 8, 9, 10, 11, 12] rfl
          have hFc := va_free (wc := (wd_X2 (AA 5) (CA 5) ur_3)) hD hS hA [12, 13, 14, 15, 16, 17, 18] rfl
          refine va_calli (va_runV (As := [.int r_7, .int x1]) (rest := []) ⟨hx, hb, hml, hown, hts⟩ (c_X2_arcOfWay l dC dI (AA 5) (CA 5) H.size ur_3 r_7 x1 _ h) (cwV 2 hts gX7_way_X2_arcOfWay rfl rfl rfl (by decide +kernel) ⟨Nat.le_of_ble_eq_true rfl, Nat.le_of_ble_eq_true rfl⟩) ⟨fun a U g mk q => by obtain ⟨q0, q1, qP, qK, qD⟩ := q; exact ⟨q0, q1, qP, va_K.moved (u := U) (U := U.calling g mk a) (Vm.Alike.refl U.vm) qK, qD⟩, va_recv hKc hPc (ci := 2) (q0 := 0) rfl rfl, fun U hU hW => ⟨rfl, by rw [hU], by rw [hU]; exact hPc, va_K.moved hW.alike hKc, hDc.weaken (fun _ _ _ _ => trivial)⟩⟩ rfl rfl hl.1 rfl (lv_room (Nat.le_of_ble_eq_true rfl)) dX7_way_82 ⟨Nat.zero_le _, Nat.zero_le _⟩) hS (fun q _ h => hFc q h) hFc (fun r_11 zz t H1 locs ht hvm hw hB hz1 hk1 hS => ?_)
          replace h := hw
          obtain ⟨hP1, hD1⟩ := hB
          rw [ht] at hP1
          obtain ⟨hP, hD⟩ := va_join (wr := [0, 1, 2, 3, 4, 5, 6, 7, 8, 9, 10, 11, 19, 20, 21, 22, 23, 24, 25].filterMap (fun i => (wd_X7 AA CA uf_2 um ut uh ug ur_3 uw ux uy)[i]?)) (w1 := (wd_X2 (AA 5) (CA 5) ur_3)) hP hD [12, 13, 14, 15, 16, 17, 18] [0, 1, 2, 3, 4, 5, 6, 7, 8, 9, 10, 11, 19, 20, 21, 22, 23, 24, 25] rfl rfl (by decide) (by decide) hk1 hFc hP1 hD1
          replace hP : va_P (dC, dI) vwCl (wd_X7 AA CA uf_2 um ut uh ug ur_3 uw ux uy) H1 := (hP.sub [0, 1, 2, 3, 4, 5, 6, 7, 8, 9, 10, 11, 19, 20, 21, 22, 23, 24, 25, 12, 13, 14, 15, 16, 17, 18] rfl)
          replace hD : va_D A (wd_X7 AA CA uf_2 um ut uh ug ur_3 uw ux uy) := (hD.sub [0, 1, 2, 3, 4, 5, 6, 7, 8, 9, 10, 11, 19, 20, 21, 22, 23, 24, 25, 12, 13, 14, 15, 16, 17, 18] (by decide) rfl)
          generalize H1 = H at hP hS ⊢
          refine lv_goto (tgt := 89) hx hb dX7_way_85 (by decide) ?_
          subst hQ
          exact W.iret (v := r_11) hx hb hr (fun t ht hW => ⟨⟨_, (uf_2, ur_3), rfl, h, by rw [ht]; exact hP, hD⟩, hS.F ht⟩) hS.2.2 dX7_way_89
      · replace h := h.2 hc_8
        refine lv_bipush (v := (-4)) hx hb dX7_way_60 (by decide) ?_
        subst hQ
        exact W.iret (v := (-4)) hx hb hr (fun t ht hW => ⟨⟨_, (uf_2, ur_3), rfl, h, by rw [ht]; exact hP, hD⟩, hS.F ht⟩) hS.2.2 dX7_way_62
    · replace h := h.2 hc_4
      refine lv_bipush (v := (-3)) hx hb dX7_way_20 (by decide) ?_
      subst hQ
      exact W.iret (v := (-3)) hx hb hr (fun t ht hW => ⟨⟨_, (uf_2, ur_3), rfl, h, by rw [ht]; exact hP, hD⟩, hS.F ht⟩) hS.2.2 dX7_way_22
  · replace h := h.2 hc_1
    refine lv_iconst (v := (-1)) hx hb dX7_way_4 (by decide) ?_
    subst hQ
    exact W.iret (v := (-1)) hx hb hr (fun t ht hW => ⟨⟨_, (uf, ur), rfl, h, by rw [ht]; exact hP, hD⟩, hS.F ht⟩) hS.2.2 dX7_way_5
abbrev rm_X7_strict : Room := { frames := 6, cells := 0, slots := 0, locals := 152 }
set_option maxHeartbeats 4000000 in
set_option maxRecDepth 100000 in
theorem c_X7_strict (l : Launch) (dC : Nat → ClassId) (dI : Nat → Nat → Nat) (AA : Nat → Nat → Nat) (CA : Nat → Nat → ClassId) (sz : Nat) (uf : Ob) (um : Ob) (ut : Ob) (uh : Ob) (ug : Ob) (ur : Ob) (uw : Ob) (ux : Ob) (uy : Ob) (x1 : Int32) (post : Int32 → Ob → Prop) (h : wp_X7_strict uf um uh ug uw x1 post) : Met l yX7_strict wsX7_strict rm_X7_strict (va_Pc [.ref (AA 0 0), .int x1] (fun U => U.heap.size = sz ∧ va_P (dC, dI) vwCl (wd_X7 AA CA uf um ut uh ug ur uw ux uy) U.heap ∧ va_K (dC, dI) vwCl (ty_X7 CA) U ∧ va_D (fun _ => True) (wd_X7 AA CA uf um ut uh ug ur uw ux uy))) (va_Qi post (fun (zz : Ob) (t : State) => va_P (dC, dI) vwCl (wd_X7 AA CA uf um ut uh ug ur zz ux uy) t.heap ∧ va_D (va_A (wd_X7 AA CA uf um ut uh ug ur uw ux uy) sz) (wd_X7 AA CA uf um ut uh ug ur zz ux uy)) (va_A (wd_X7 AA CA uf um ut uh ug ur uw ux uy) sz)) 0 0 (va_A (wd_X7 AA CA uf um ut uh ug ur uw ux uy) sz) := by
  refine fl_ofW (cc := cX7_strict) (maxL := 2) (ret := (some .int)) (by decide) rfl ?_
  intro p e s m args below meth c s₁ Q B hml hv hQ
  obtain ⟨hargs, hsz, hP, hK, hD0⟩ := hv
  have hx := B.exec
  have hb := B.bytes
  have hr := B.returns
  have hts := atoms_spec (ws := wsX7_strict) B.pre
  have hown : s.vm.findClass RX7 = some m.cls := findClass_of_methodNamed B.named
  subst hsz
  have hD := hD0.self (sz := s.heap.size)
  generalize hAe : va_A (wd_X7 AA CA uf um ut uh ug ur uw ux uy) s.heap.size = A at hD hQ
  have hA : ∀ q : Nat, s.heap.size ≤ q → A q := fun q h => by rw [← hAe]; exact Or.inr h
  have hS : va_S A s.heap s.heap [] := va_S.rf
  have hl := lv_entry ([.ref (AA 0 0), .int x1]) (n := 2) (Nat.le_of_ble_eq_true rfl)
  refine W.eq (g2 := F0 m 0 ((lg_sl ([.ref (AA 0 0), .int x1]) ++ List.replicate (2 - (lg_sl ([.ref (AA 0 0), .int x1])).length) Slot.unset).toArray) []) (by rw [hargs]; exact lg_entry_eq m _ 2) ?_
  generalize (lg_sl ([.ref (AA 0 0), .int x1]) ++ List.replicate (2 - (lg_sl ([.ref (AA 0 0), .int x1])).length) Slot.unset).toArray = ls at hl ⊢
  have hl : lv_has ls 2 [(0, .ref (AA 0 0)), (1, .int x1)] := hl
  suffices hstart : ∀ (H : Heap) (locs : List Loc) (ls : Array Slot), va_P (dC, dI) vwCl (wd_X7 AA CA uf um ut uh ug ur uw ux uy) H → va_D A (wd_X7 AA CA uf um ut uh ug ur uw ux uy) → va_S A s.heap H locs → lv_has ls 2 [(0, .ref (AA 0 0)), (1, .int x1)] → W p l e (headSpec wsX7_strict rm_X7_strict).room s m args below meth c H locs 0 0 Q (F0 m 0 ls []) from hstart _ _ _ hP hD hS hl
  clear hS hP hD hD0
  intro H locs ls hP hD hS hl
  have hin_X7 : ∀ w ∈ wsX70, w ∈ wsX7_strict := by decide +kernel
  have lk_0 := hts (.fieldLink RX7 26 "ForgettingLines" "here" "LForgettingLines$Place;") (by decide +kernel)
  have lk_1 := hts (.fieldLink RX7 30 "ForgettingLines" "target" "LForgettingLines$Place;") (by decide +kernel)
  have lk_2 := hts (.fieldLink RX7 43 "ForgettingLines" "walk" "LForgettingLines$Walk;") (by decide +kernel)
  have lk_3 := hts (.fieldLink RX7 10 "ForgettingLines" "machine" "LForgettingLines$Machine;") (by decide +kernel)
  unfold wp_X7_strict at h
  refine lv_iload_n hx hb dX7_strict_0 rfl (lv_at hl 1 rfl) ?_
  refine lv_if_lt (tgt := 9) hx hb dX7_strict_1 (by decide) (fun hc_1 => ?_) (fun hc_1 => ?_)
  · replace h := h.1 hc_1
    refine lv_iconst (v := (-1)) hx hb dX7_strict_9 (by decide) ?_
    subst hQ
    exact W.iret (v := (-1)) hx hb hr (fun t ht hW => ⟨⟨_, uw, rfl, h, by rw [ht]; exact hP, hD⟩, hS.F ht⟩) hS.2.2 dX7_strict_10
  · replace h := h.2 hc_1
    refine lv_iload_n hx hb dX7_strict_4 rfl (lv_at hl 1 rfl) ?_
    refine lv_iconst (v := 3) hx hb dX7_strict_5 (by decide) ?_
    refine lv_icmp_le (tgt := 11) hx hb dX7_strict_6 (by decide) (fun hc_2 => ?_) (fun hc_2 => ?_)
    · replace h := h.1 hc_2
      refine lv_aload_n hx hb dX7_strict_11 rfl (lv_at hl 0 rfl) ?_
      refine va_get (D := (dC, dI)) (ci := 6) (v := .ref (AA 3 0)) (C := RX7) (T := TX7) (N := 8) hx hb hts hin_X7 hown hK hP 0 rfl rfl 2 (by decide) lk_0 (fun _ h9 => h9) rfl dX7_strict_12 ?_
      refine lv_iload_n hx hb dX7_strict_15 rfl (lv_at hl 1 rfl) ?_
      have hPc := hP.sub (ws' := (wd_X1 (AA 3) (CA 3) uh)) [8, 9] rfl
      have hDc := hD.sub (ws' := (wd_X1 (AA 3) (CA 3) uh)) [8, 9] (by decide) rfl
      have hKc := hK.sub (tys' := (ty_X1 (CA 3))) [5] rfl
      have hFc := va_free (wc := (wd_X1 (AA 3) (CA 3) uh)) hD hS hA [8, 9] rfl
      refine va_calli (va_runV (As := [.int x1]) (rest := []) ⟨hx, hb, hml, hown, hts⟩ (c_X1_isLonger l dC dI (AA 3) (CA 3) H.size uh x1 _ h) (cwV 1 hts gX7_strict_X1_isLonger rfl rfl rfl (by decide +kernel) ⟨Nat.le_of_ble_eq_true rfl, Nat.le_of_ble_eq_true rfl⟩) ⟨fun a U g mk q => by obtain ⟨q0, q1, qP, qK, qD⟩ := q; exact ⟨q0, q1, qP, va_K.moved (u := U) (U := U.calling g mk a) (Vm.Alike.refl U.vm) qK, qD⟩, va_recv hKc hPc (ci := 1) (q0 := 0) rfl rfl, fun U hU hW => ⟨rfl, by rw [hU], by rw [hU]; exact hPc, va_K.moved hW.alike hKc, hDc.weaken (fun _ _ _ _ => trivial)⟩⟩ rfl rfl hl.1 rfl (lv_room (Nat.le_of_ble_eq_true rfl)) dX7_strict_16 ⟨Nat.zero_le _, Nat.zero_le _⟩) hS (fun q _ h => hFc q h) hFc (fun r_3 zz t H1 locs ht hvm hw hB hz1 hk1 hS => ?_)
      replace h := hw
      obtain ⟨hP1, hD1⟩ := hB
      rw [ht] at hP1
      obtain ⟨hP, hD⟩ := va_join (wr := [0, 1, 2, 3, 4, 5, 6, 7, 10, 11, 12, 13, 14, 15, 16, 17, 18, 19, 20, 21, 22, 23, 24, 25].filterMap (fun i => (wd_X7 AA CA uf um ut uh ug ur uw ux uy)[i]?)) (w1 := (wd_X1 (AA 3) (CA 3) uh)) hP hD [8, 9] [0, 1, 2, 3, 4, 5, 6, 7, 10, 11, 12, 13, 14, 15, 16, 17, 18, 19, 20, 21, 22, 23, 24, 25] rfl rfl (by decide) (by decide) hk1 hFc hP1 hD1
      replace hP : va_P (dC, dI) vwCl (wd_X7 AA CA uf um ut uh ug ur uw ux uy) H1 := (hP.sub [0, 1, 2, 3, 4, 5, 6, 7, 24, 25, 8, 9, 10, 11, 12, 13, 14, 15, 16, 17, 18, 19, 20, 21, 22, 23] rfl)
      replace hD : va_D A (wd_X7 AA CA uf um ut uh ug ur uw ux uy) := (hD.sub [0, 1, 2, 3, 4, 5, 6, 7, 24, 25, 8, 9, 10, 11, 12, 13, 14, 15, 16, 17, 18, 19, 20, 21, 22, 23] (by decide) rfl)
      generalize H1 = H at hP hS ⊢
      refine lv_if_ne (tgt := 33) hx hb dX7_strict_19 (by decide) (fun hc_4 => ?_) (fun hc_4 => ?_)
      · replace h := h.1 hc_4
        refine lv_bipush (v := (-2)) hx hb dX7_strict_33 (by decide) ?_
        subst hQ
        exact W.iret (v := (-2)) hx hb hr (fun t ht hW => ⟨⟨_, uw, rfl, h, by rw [ht]; exact hP, hD⟩, hS.F ht⟩) hS.2.2 dX7_strict_35
      · replace h := h.2 hc_4
        refine lv_aload_n hx hb dX7_strict_22 rfl (lv_at hl 0 rfl) ?_
        refine va_get (D := (dC, dI)) (ci := 6) (v := .ref (AA 4 0)) (C := RX7) (T := TX7) (N := 8) hx hb hts hin_X7 hown hK hP 0 rfl rfl 3 (by decide) lk_1 (fun _ h9 => h9) rfl dX7_strict_23 ?_
        refine lv_iload_n hx hb dX7_strict_26 rfl (lv_at hl 1 rfl) ?_
        have hPc := hP.sub (ws' := (wd_X1 (AA 4) (CA 4) ug)) [10, 11] rfl
        have hDc := hD.sub (ws' := (wd_X1 (AA 4) (CA 4) ug)) [10, 11] (by decide) rfl
        have hKc := hK.sub (tys' := (ty_X1 (CA 4))) [6] rfl
        have hFc := va_free (wc := (wd_X1 (AA 4) (CA 4) ug)) hD hS hA [10, 11] rfl
        refine va_calli (va_runV (As := [.int x1]) (rest := []) ⟨hx, hb, hml, hown, hts⟩ (c_X1_isLonger l dC dI (AA 4) (CA 4) H.size ug x1 _ h) (cwV 1 hts gX7_strict_X1_isLonger rfl rfl rfl (by decide +kernel) ⟨Nat.le_of_ble_eq_true rfl, Nat.le_of_ble_eq_true rfl⟩) ⟨fun a U g mk q => by obtain ⟨q0, q1, qP, qK, qD⟩ := q; exact ⟨q0, q1, qP, va_K.moved (u := U) (U := U.calling g mk a) (Vm.Alike.refl U.vm) qK, qD⟩, va_recv hKc hPc (ci := 1) (q0 := 0) rfl rfl, fun U hU hW => ⟨rfl, by rw [hU], by rw [hU]; exact hPc, va_K.moved hW.alike hKc, hDc.weaken (fun _ _ _ _ => trivial)⟩⟩ rfl rfl hl.1 rfl (lv_room (Nat.le_of_ble_eq_true rfl)) dX7_strict_27 ⟨Nat.zero_le _, Nat.zero_le _⟩) hS (fun q _ h => hFc q h) hFc (fun r_5 zz t H1 locs ht hvm hw hB hz1 hk1 hS => ?_)
        replace h := hw
        obtain ⟨hP1, hD1⟩ := hB
        rw [ht] at hP1
        obtain ⟨hP, hD⟩ := va_join (wr := [0, 1, 2, 3, 4, 5, 6, 7, 8, 9, 12, 13, 14, 15, 16, 17, 18, 19, 20, 21, 22, 23, 24, 25].filterMap (fun i => (wd_X7 AA CA uf um ut uh ug ur uw ux uy)[i]?)) (w1 := (wd_X1 (AA 4) (CA 4) ug)) hP hD [10, 11] [0, 1, 2, 3, 4, 5, 6, 7, 8, 9, 12, 13, 14, 15, 16, 17, 18, 19, 20, 21, 22, 23, 24, 25] rfl rfl (by decide) (by decide) hk1 hFc hP1 hD1
        replace hP : va_P (dC, dI) vwCl (wd_X7 AA CA uf um ut uh ug ur uw ux uy) H1 := (hP.sub [0, 1, 2, 3, 4, 5, 6, 7, 8, 9, 24, 25, 10, 11, 12, 13, 14, 15, 16, 17, 18, 19, 20, 21, 22, 23] rfl)
        replace hD : va_D A (wd_X7 AA CA uf um ut uh ug ur uw ux uy) := (hD.sub [0, 1, 2, 3, 4, 5, 6, 7, 8, 9, 24, 25, 10, 11, 12, 13, 14, 15, 16, 17, 18, 19, 20, 21, 22, 23] (by decide) rfl)
        generalize H1 = H at hP hS ⊢
        refine lv_if_eq (tgt := 36) hx hb dX7_strict_30 (by decide) (fun hc_6 => ?_) (fun hc_6 => ?_)
        · replace h := h.1 hc_6
          refine lv_aload_n hx hb dX7_strict_36 rfl (lv_at hl 0 rfl) ?_
          refine va_get (D := (dC, dI)) (ci := 6) (v := .ref (AA 6 0)) (C := RX7) (T := TX7) (N := 8) hx hb hts hin_X7 hown hK hP 0 rfl rfl 5 (by decide) lk_2 (fun _ h9 => h9) rfl dX7_strict_37 ?_
          refine lv_aload_n hx hb dX7_strict_40 rfl (lv_at hl 0 rfl) ?_
          refine va_get (D := (dC, dI)) (ci := 6) (v := .ref (AA 1 0)) (C := RX7) (T := TX7) (N := 8) hx hb hts hin_X7 hown hK hP 0 rfl rfl 0 (by decide) lk_3 (fun _ h9 => h9) rfl dX7_strict_41 ?_
          refine lv_aload_n hx hb dX7_strict_44 rfl (lv_at hl 0 rfl) ?_
          refine va_get (D := (dC, dI)) (ci := 6) (v := .ref (AA 3 0)) (C := RX7) (T := TX7) (N := 8) hx hb hts hin_X7 hown hK hP 0 rfl rfl 2 (by decide) lk_0 (fun _ h9 => h9) rfl dX7_strict_45 ?_
          refine lv_aload_n hx hb dX7_strict_48 rfl (lv_at hl 0 rfl) ?_
          refine va_get (D := (dC, dI)) (ci := 6) (v := .ref (AA 4 0)) (C := RX7) (T := TX7) (N := 8) hx hb hts hin_X7 hown hK hP 0 rfl rfl 3 (by decide) lk_1 (fun _ h9 => h9) rfl dX7_strict_49 ?_
          refine lv_iload_n hx hb dX7_strict_52 rfl (lv_at hl 1 rfl) ?_
          have hPc := hP.sub (ws' := (wd_X5 (AA 6) (CA 6) uw ++ (wd_X0 (AA 1) (CA 1) um ++ (wd_X1 (AA 3) (CA 3) uh ++ (wd_X1 (AA 4) (CA 4) ug))))) [19, 20, 21, 2, 3, 4, 8, 9, 10, 11] rfl
          have hDc := hD.sub (ws' := (wd_X5 (AA 6) (CA 6) uw ++ (wd_X0 (AA 1) (CA 1) um ++ (wd_X1 (AA 3) (CA 3) uh ++ (wd_X1 (AA 4) (CA 4) ug))))) [19, 20, 21, 2, 3, 4, 8, 9, 10, 11] (by decide) rfl
          have hKc := hK.sub (tys' := (ty_X5 (CA 6) ++ (ty_X0 (CA 1) ++ (ty_X1 (CA 3) ++ (ty_X1 (CA 4)))))) [13, 14, 1, 2, 5, 6] rfl
          have hFc := va_free (wc := (wd_X5 (AA 6) (CA 6) uw ++ (wd_X0 (AA 1) (CA 1) um ++ (wd_X1 (AA 3) (CA 3) uh ++ (wd_X1 (AA 4) (CA 4) ug))))) hD hS hA [19, 20, 21, 2, 3, 4, 8, 9, 10, 11] rfl
          refine va_calli (va_runV (As := [.ref (AA 1 0), .ref (AA 3 0), .ref (AA 4 0), .int x1]) (rest := []) ⟨hx, hb, hml, hown, hts⟩ (c_X5_fewest l dC dI (AA 6) (CA 6) (AA 1) (CA 1) (AA 3) (CA 3) (AA 4) (CA 4) H.size uw um uh ug x1 _ h) (cwV 4 hts gX7_strict_X5_fewest rfl rfl rfl (by decide +kernel) ⟨Nat.le_of_ble_eq_true rfl, Nat.le_of_ble_eq_true rfl⟩) ⟨fun a U g mk q => by obtain ⟨q0, q1, qP, qK, qD⟩ := q; exact ⟨q0, q1, qP, va_K.moved (u := U) (U := U.calling g mk a) (Vm.Alike.refl U.vm) qK, qD⟩, va_recv hKc hPc (ci := 5) (q0 := 0) rfl rfl, fun U hU hW => ⟨rfl, by rw [hU], by rw [hU]; exact hPc, va_K.moved hW.alike hKc, hDc.weaken (fun _ _ _ _ => trivial)⟩⟩ rfl rfl hl.1 rfl (lv_room (Nat.le_of_ble_eq_true rfl)) dX7_strict_53 ⟨Nat.zero_le _, Nat.zero_le _⟩) hS (fun q _ h => hFc q h) hFc (fun r_7 zz t H1 locs ht hvm hw hB hz1 hk1 hS => ?_)
          obtain ⟨uw_8, rfl⟩ : ∃ z, z = zz := ⟨_, rfl⟩
          replace h := hw
          obtain ⟨hP1, hD1⟩ := hB
          rw [ht] at hP1
          obtain ⟨hP, hD⟩ := va_join (wr := [0, 1, 5, 6, 7, 12, 13, 14, 15, 16, 17, 18, 22, 23, 24, 25].filterMap (fun i => (wd_X7 AA CA uf um ut uh ug ur uw ux uy)[i]?)) (w1 := (wd_X5 (AA 6) (CA 6) uw_8 ++ (wd_X0 (AA 1) (CA 1) um ++ (wd_X1 (AA 3) (CA 3) uh ++ (wd_X1 (AA 4) (CA 4) ug))))) hP hD [19, 20, 21, 2, 3, 4, 8, 9, 10, 11] [0, 1, 5, 6, 7, 12, 13, 14, 15, 16, 17, 18, 22, 23, 24, 25] rfl rfl (by decide) (by decide) hk1 hFc hP1 hD1
          replace hP : va_P (dC, dI) vwCl (wd_X7 AA CA uf um ut uh ug ur uw_8 ux uy) H1 := (hP.sub [0, 1, 19, 20, 21, 2, 3, 4, 22, 23, 24, 25, 5, 6, 7, 8, 9, 10, 11, 16, 17, 18, 12, 13, 14, 15] rfl)
          replace hD : va_D A (wd_X7 AA CA uf um ut uh ug ur uw_8 ux uy) := (hD.sub [0, 1, 19, 20, 21, 2, 3, 4, 22, 23, 24, 25, 5, 6, 7, 8, 9, 10, 11, 16, 17, 18, 12, 13, 14, 15] (by decide) rfl)
          generalize H1 = H at hP hS ⊢
          subst hQ
          exact W.iret (v := r_7) hx hb hr (fun t ht hW => ⟨⟨_, uw_8, rfl, h, by rw [ht]; exact hP, hD⟩, hS.F ht⟩) hS.2.2 dX7_strict_56
        · replace h := h.2 hc_6
          refine lv_bipush (v := (-2)) hx hb dX7_strict_33 (by decide) ?_
          subst hQ
          exact W.iret (v := (-2)) hx hb hr (fun t ht hW => ⟨⟨_, uw, rfl, h, by rw [ht]; exact hP, hD⟩, hS.F ht⟩) hS.2.2 dX7_strict_35
    · replace h := h.2 hc_2
      refine lv_iconst (v := (-1)) hx hb dX7_strict_9 (by decide) ?_
      subst hQ
      exact W.iret (v := (-1)) hx hb hr (fun t ht hW => ⟨⟨_, uw, rfl, h, by rw [ht]; exact hP, hD⟩, hS.F ht⟩) hS.2.2 dX7_strict_10
abbrev rm_X7_sheet : Room := { frames := 2, cells := 0, slots := 0, locals := 45 }
set_option maxHeartbeats 4000000 in
set_option maxRecDepth 100000 in
theorem c_X7_sheet (l : Launch) (dC : Nat → ClassId) (dI : Nat → Nat → Nat) (AA : Nat → Nat → Nat) (CA : Nat → Nat → ClassId) (sz : Nat) (uf : Ob) (um : Ob) (ut : Ob) (uh : Ob) (ug : Ob) (ur : Ob) (uw : Ob) (ux : Ob) (uy : Ob) (x1 : Int32) (x2 : Int32) (x3 : Int32) (post : Int32 → Ob → Ob → Prop) (h : wp_X7_sheet uf ux uy x1 x2 x3 post) : Met l yX7_sheet wsX7_sheet rm_X7_sheet (va_Pc [.ref (AA 0 0), .int x1, .int x2, .int x3] (fun U => U.heap.size = sz ∧ va_P (dC, dI) vwCl (wd_X7 AA CA uf um ut uh ug ur uw ux uy) U.heap ∧ va_K (dC, dI) vwCl (ty_X7 CA) U ∧ va_D (fun _ => True) (wd_X7 AA CA uf um ut uh ug ur uw ux uy))) (va_Qi (fun (rr : Int32) (zz : Ob × Ob) => post rr zz.1 zz.2) (fun (zz : Ob × Ob) (t : State) => va_P (dC, dI) vwCl (wd_X7 AA CA uf um ut uh ug ur uw zz.1 zz.2) t.heap ∧ va_D (va_A (wd_X7 AA CA uf um ut uh ug ur uw ux uy) sz) (wd_X7 AA CA uf um ut uh ug ur uw zz.1 zz.2)) (va_A (wd_X7 AA CA uf um ut uh ug ur uw ux uy) sz)) 0 0 (va_A (wd_X7 AA CA uf um ut uh ug ur uw ux uy) sz) := by
  refine fl_ofW (cc := cX7_sheet) (maxL := 4) (ret := (some .int)) (by decide) rfl ?_
  intro p e s m args below meth c s₁ Q B hml hv hQ
  obtain ⟨hargs, hsz, hP, hK, hD0⟩ := hv
  have hx := B.exec
  have hb := B.bytes
  have hr := B.returns
  have hts := atoms_spec (ws := wsX7_sheet) B.pre
  have hown : s.vm.findClass RX7 = some m.cls := findClass_of_methodNamed B.named
  subst hsz
  have hD := hD0.self (sz := s.heap.size)
  generalize hAe : va_A (wd_X7 AA CA uf um ut uh ug ur uw ux uy) s.heap.size = A at hD hQ
  have hA : ∀ q : Nat, s.heap.size ≤ q → A q := fun q h => by rw [← hAe]; exact Or.inr h
  have hS : va_S A s.heap s.heap [] := va_S.rf
  have hl := lv_entry ([.ref (AA 0 0), .int x1, .int x2, .int x3]) (n := 4) (Nat.le_of_ble_eq_true rfl)
  refine W.eq (g2 := F0 m 0 ((lg_sl ([.ref (AA 0 0), .int x1, .int x2, .int x3]) ++ List.replicate (4 - (lg_sl ([.ref (AA 0 0), .int x1, .int x2, .int x3])).length) Slot.unset).toArray) []) (by rw [hargs]; exact lg_entry_eq m _ 4) ?_
  generalize (lg_sl ([.ref (AA 0 0), .int x1, .int x2, .int x3]) ++ List.replicate (4 - (lg_sl ([.ref (AA 0 0), .int x1, .int x2, .int x3])).length) Slot.unset).toArray = ls at hl ⊢
  have hl : lv_has ls 4 [(0, .ref (AA 0 0)), (1, .int x1), (2, .int x2), (3, .int x3)] := hl
  suffices hstart : ∀ (H : Heap) (locs : List Loc) (ls : Array Slot), va_P (dC, dI) vwCl (wd_X7 AA CA uf um ut uh ug ur uw ux uy) H → va_D A (wd_X7 AA CA uf um ut uh ug ur uw ux uy) → va_S A s.heap H locs → lv_has ls 4 [(0, .ref (AA 0 0)), (1, .int x1), (2, .int x2), (3, .int x3)] → W p l e (headSpec wsX7_sheet rm_X7_sheet).room s m args below meth c H locs 0 0 Q (F0 m 0 ls []) from hstart _ _ _ hP hD hS hl
  clear hS hP hD hD0
  intro H locs ls hP hD hS hl
  have hin_X7 : ∀ w ∈ wsX70, w ∈ wsX7_sheet := by decide +kernel
  have lk_0 := hts (.fieldLink RX7 50 "ForgettingLines" "sheets" "[LForgettingLines$Sheet;") (by decide +kernel)
  unfold wp_X7_sheet at h
  refine lv_iload_n hx hb dX7_sheet_0 rfl (lv_at hl 1 rfl) ?_
  refine lv_iconst (v := 2) hx hb dX7_sheet_1 (by decide) ?_
  have hFc := fl_freeN hS hA
  refine va_calli (va_runS (As := [.int x1, .int 2]) (rest := []) ⟨hx, hb, hml, hown, hts⟩ (c_X7_isAmong l H.size x1 2 _ h) (va_cwS 2 hts gX7_sheet_X7_isAmong rfl rfl rfl (by decide +kernel) ⟨Nat.le_of_ble_eq_true rfl, Nat.le_of_ble_eq_true rfl⟩) ⟨fun a U g mk q => by obtain ⟨q0, q1⟩ := q; exact ⟨q0, q1⟩, fun U hU hW => ⟨rfl, congrArg Array.size hU⟩⟩ rfl rfl hl.1 rfl (lv_room (Nat.le_of_ble_eq_true rfl)) dX7_sheet_2 ⟨Nat.zero_le _, Nat.zero_le _⟩) hS (fun q _ h => hFc q h) hFc (fun r_1 zz t H1 locs ht hvm hw hB hz1 hk1 hS => ?_)
  replace hP := fl_keep hP hk1
  replace h := hw
  generalize H1 = H at hP hS ⊢
  refine lv_if_eq (tgt := 22) hx hb dX7_sheet_5 (by decide) (fun hc_2 => ?_) (fun hc_2 => ?_)
  · replace h := h.1 hc_2
    refine lv_iconst (v := (-1)) hx hb dX7_sheet_22 (by decide) ?_
    subst hQ
    exact W.iret (v := (-1)) hx hb hr (fun t ht hW => ⟨⟨_, (ux, uy), rfl, h, by rw [ht]; exact hP, hD⟩, hS.F ht⟩) hS.2.2 dX7_sheet_23
  · replace h := h.2 hc_2
    refine lv_iload_n hx hb dX7_sheet_8 rfl (lv_at hl 2 rfl) ?_
    refine lv_iconst (v := 2) hx hb dX7_sheet_9 (by decide) ?_
    have hFc := fl_freeN hS hA
    refine va_calli (va_runS (As := [.int x2, .int 2]) (rest := []) ⟨hx, hb, hml, hown, hts⟩ (c_X7_isAmong l H.size x2 2 _ h) (va_cwS 2 hts gX7_sheet_X7_isAmong rfl rfl rfl (by decide +kernel) ⟨Nat.le_of_ble_eq_true rfl, Nat.le_of_ble_eq_true rfl⟩) ⟨fun a U g mk q => by obtain ⟨q0, q1⟩ := q; exact ⟨q0, q1⟩, fun U hU hW => ⟨rfl, congrArg Array.size hU⟩⟩ rfl rfl hl.1 rfl (lv_room (Nat.le_of_ble_eq_true rfl)) dX7_sheet_10 ⟨Nat.zero_le _, Nat.zero_le _⟩) hS (fun q _ h => hFc q h) hFc (fun r_3 zz t H1 locs ht hvm hw hB hz1 hk1 hS => ?_)
    replace hP := fl_keep hP hk1
    replace h := hw
    generalize H1 = H at hP hS ⊢
    refine lv_if_eq (tgt := 22) hx hb dX7_sheet_13 (by decide) (fun hc_4 => ?_) (fun hc_4 => ?_)
    · replace h := h.1 hc_4
      refine lv_iconst (v := (-1)) hx hb dX7_sheet_22 (by decide) ?_
      subst hQ
      exact W.iret (v := (-1)) hx hb hr (fun t ht hW => ⟨⟨_, (ux, uy), rfl, h, by rw [ht]; exact hP, hD⟩, hS.F ht⟩) hS.2.2 dX7_sheet_23
    · replace h := h.2 hc_4
      refine lv_iload_n hx hb dX7_sheet_16 rfl (lv_at hl 3 rfl) ?_
      refine lv_bipush (v := 60) hx hb dX7_sheet_17 (by decide) ?_
      refine lv_icmp_le (tgt := 24) hx hb dX7_sheet_19 (by decide) (fun hc_5 => ?_) (fun hc_5 => ?_)
      · replace h := h.1 hc_5
        refine lv_iload_n hx hb dX7_sheet_24 rfl (lv_at hl 3 rfl) ?_
        refine lv_if_ge (tgt := 31) hx hb dX7_sheet_25 (by decide) (fun hc_6 => ?_) (fun hc_6 => ?_)
        · replace h := h.1 hc_6
          refine lv_aload_n hx hb dX7_sheet_31 rfl (lv_at hl 0 rfl) ?_
          refine va_get (D := (dC, dI)) (ci := 6) (v := .ref (AA 0 7)) (C := RX7) (T := TX7) (N := 8) hx hb hts hin_X7 hown hK hP 0 rfl rfl 6 (by decide) lk_0 (fun _ h9 => h9) rfl dX7_sheet_32 ?_
          refine lv_iload_n hx hb dX7_sheet_35 rfl (lv_at hl 1 rfl) ?_
          obtain ⟨hi_7, h⟩ := h
          refine va_aldq (D := (dC, dI)) (cl := vwCl) (i := x1) hx hb hK hP 1 0 rfl rfl hi_7 dX7_sheet_36 ?_
          rcases fl_in2 hi_7 with kn_x1 | kn_x1
          · replace h := h.1 kn_x1
            refine W.eq (g2 := F0 m 37 ls [.ref (AA 7 0)]) (by rw [kn_x1]; rfl) ?_
            refine lv_iload_n hx hb dX7_sheet_37 rfl (lv_at hl 2 rfl) ?_
            refine lv_iload_n hx hb dX7_sheet_38 rfl (lv_at hl 3 rfl) ?_
            have hPc := hP.sub (ws' := (wd_X3 (AA 7) (CA 7) ux)) [22, 23] rfl
            have hDc := hD.sub (ws' := (wd_X3 (AA 7) (CA 7) ux)) [22, 23] (by decide) rfl
            have hKc := hK.sub (tys' := (ty_X3 (CA 7))) [15] rfl
            have hFc := va_free (wc := (wd_X3 (AA 7) (CA 7) ux)) hD hS hA [22, 23] rfl
            refine va_callv (va_runV (As := [.int x2, .int x3]) (rest := []) ⟨hx, hb, hml, hown, hts⟩ (c_X3_hold l dC dI (AA 7) (CA 7) H.size ux x2 x3 _ h) (cwV 2 hts gX7_sheet_X3_hold rfl rfl rfl (by decide +kernel) ⟨Nat.le_of_ble_eq_true rfl, Nat.le_of_ble_eq_true rfl⟩) ⟨fun a U g mk q => by obtain ⟨q0, q1, qP, qK, qD⟩ := q; exact ⟨q0, q1, qP, va_K.moved (u := U) (U := U.calling g mk a) (Vm.Alike.refl U.vm) qK, qD⟩, va_recv hKc hPc (ci := 3) (q0 := 0) rfl rfl, fun U hU hW => ⟨rfl, by rw [hU], by rw [hU]; exact hPc, va_K.moved hW.alike hKc, hDc.weaken (fun _ _ _ _ => trivial)⟩⟩ rfl rfl hl.1 rfl (lv_room (Nat.le_of_ble_eq_true rfl)) dX7_sheet_39 ⟨Nat.zero_le _, Nat.zero_le _⟩) hS (fun q _ h => hFc q h) hFc (fun zz t H1 locs ht hvm hw hB hz1 hk1 hS => ?_)
            obtain ⟨ux_8, rfl⟩ : ∃ z, z = zz := ⟨_, rfl⟩
            replace h := hw
            obtain ⟨hP1, hD1⟩ := hB
            rw [ht] at hP1
            obtain ⟨hP, hD⟩ := va_join (wr := [0, 1, 2, 3, 4, 5, 6, 7, 8, 9, 10, 11, 12, 13, 14, 15, 16, 17, 18, 19, 20, 21, 24, 25].filterMap (fun i => (wd_X7 AA CA uf um ut uh ug ur uw ux uy)[i]?)) (w1 := (wd_X3 (AA 7) (CA 7) ux_8)) hP hD [22, 23] [0, 1, 2, 3, 4, 5, 6, 7, 8, 9, 10, 11, 12, 13, 14, 15, 16, 17, 18, 19, 20, 21, 24, 25] rfl rfl (by decide) (by decide) hk1 hFc hP1 hD1
            replace hP : va_P (dC, dI) vwCl (wd_X7 AA CA uf um ut uh ug ur uw ux_8 uy) H1 := (hP.sub [0, 1, 2, 3, 4, 5, 6, 7, 8, 9, 10, 11, 12, 13, 14, 15, 16, 17, 18, 19, 20, 21, 24, 25, 22, 23] rfl)
            replace hD : va_D A (wd_X7 AA CA uf um ut uh ug ur uw ux_8 uy) := (hD.sub [0, 1, 2, 3, 4, 5, 6, 7, 8, 9, 10, 11, 12, 13, 14, 15, 16, 17, 18, 19, 20, 21, 24, 25, 22, 23] (by decide) rfl)
            generalize H1 = H at hP hS ⊢
            refine lv_iload_n hx hb dX7_sheet_42 rfl (lv_at hl 3 rfl) ?_
            subst hQ
            exact W.iret (v := x3) hx hb hr (fun t ht hW => ⟨⟨_, (ux_8, uy), rfl, h, by rw [ht]; exact hP, hD⟩, hS.F ht⟩) hS.2.2 dX7_sheet_43
          · replace h := h.2 kn_x1
            refine W.eq (g2 := F0 m 37 ls [.ref (AA 8 0)]) (by rw [kn_x1]; rfl) ?_
            refine lv_iload_n hx hb dX7_sheet_37 rfl (lv_at hl 2 rfl) ?_
            refine lv_iload_n hx hb dX7_sheet_38 rfl (lv_at hl 3 rfl) ?_
            have hPc := hP.sub (ws' := (wd_X3 (AA 8) (CA 8) uy)) [24, 25] rfl
            have hDc := hD.sub (ws' := (wd_X3 (AA 8) (CA 8) uy)) [24, 25] (by decide) rfl
            have hKc := hK.sub (tys' := (ty_X3 (CA 8))) [16] rfl
            have hFc := va_free (wc := (wd_X3 (AA 8) (CA 8) uy)) hD hS hA [24, 25] rfl
            refine va_callv (va_runV (As := [.int x2, .int x3]) (rest := []) ⟨hx, hb, hml, hown, hts⟩ (c_X3_hold l dC dI (AA 8) (CA 8) H.size uy x2 x3 _ h) (cwV 2 hts gX7_sheet_X3_hold rfl rfl rfl (by decide +kernel) ⟨Nat.le_of_ble_eq_true rfl, Nat.le_of_ble_eq_true rfl⟩) ⟨fun a U g mk q => by obtain ⟨q0, q1, qP, qK, qD⟩ := q; exact ⟨q0, q1, qP, va_K.moved (u := U) (U := U.calling g mk a) (Vm.Alike.refl U.vm) qK, qD⟩, va_recv hKc hPc (ci := 3) (q0 := 0) rfl rfl, fun U hU hW => ⟨rfl, by rw [hU], by rw [hU]; exact hPc, va_K.moved hW.alike hKc, hDc.weaken (fun _ _ _ _ => trivial)⟩⟩ rfl rfl hl.1 rfl (lv_room (Nat.le_of_ble_eq_true rfl)) dX7_sheet_39 ⟨Nat.zero_le _, Nat.zero_le _⟩) hS (fun q _ h => hFc q h) hFc (fun zz t H1 locs ht hvm hw hB hz1 hk1 hS => ?_)
            obtain ⟨uy_9, rfl⟩ : ∃ z, z = zz := ⟨_, rfl⟩
            replace h := hw
            obtain ⟨hP1, hD1⟩ := hB
            rw [ht] at hP1
            obtain ⟨hP, hD⟩ := va_join (wr := [0, 1, 2, 3, 4, 5, 6, 7, 8, 9, 10, 11, 12, 13, 14, 15, 16, 17, 18, 19, 20, 21, 22, 23].filterMap (fun i => (wd_X7 AA CA uf um ut uh ug ur uw ux uy)[i]?)) (w1 := (wd_X3 (AA 8) (CA 8) uy_9)) hP hD [24, 25] [0, 1, 2, 3, 4, 5, 6, 7, 8, 9, 10, 11, 12, 13, 14, 15, 16, 17, 18, 19, 20, 21, 22, 23] rfl rfl (by decide) (by decide) hk1 hFc hP1 hD1
            replace hP : va_P (dC, dI) vwCl (wd_X7 AA CA uf um ut uh ug ur uw ux uy_9) H1 := (hP.sub [0, 1, 2, 3, 4, 5, 6, 7, 8, 9, 10, 11, 12, 13, 14, 15, 16, 17, 18, 19, 20, 21, 22, 23, 24, 25] rfl)
            replace hD : va_D A (wd_X7 AA CA uf um ut uh ug ur uw ux uy_9) := (hD.sub [0, 1, 2, 3, 4, 5, 6, 7, 8, 9, 10, 11, 12, 13, 14, 15, 16, 17, 18, 19, 20, 21, 22, 23, 24, 25] (by decide) rfl)
            generalize H1 = H at hP hS ⊢
            refine lv_iload_n hx hb dX7_sheet_42 rfl (lv_at hl 3 rfl) ?_
            subst hQ
            exact W.iret (v := x3) hx hb hr (fun t ht hW => ⟨⟨_, (ux, uy_9), rfl, h, by rw [ht]; exact hP, hD⟩, hS.F ht⟩) hS.2.2 dX7_sheet_43
        · replace h := h.2 hc_6
          refine lv_bipush (v := (-14)) hx hb dX7_sheet_28 (by decide) ?_
          subst hQ
          exact W.iret (v := (-14)) hx hb hr (fun t ht hW => ⟨⟨_, (ux, uy), rfl, h, by rw [ht]; exact hP, hD⟩, hS.F ht⟩) hS.2.2 dX7_sheet_30
      · replace h := h.2 hc_5
        refine lv_iconst (v := (-1)) hx hb dX7_sheet_22 (by decide) ?_
        subst hQ
        exact W.iret (v := (-1)) hx hb hr (fun t ht hW => ⟨⟨_, (ux, uy), rfl, h, by rw [ht]; exact hP, hD⟩, hS.F ht⟩) hS.2.2 dX7_sheet_23
abbrev rm_X7_drop : Room := { frames := 1, cells := 0, slots := 0, locals := 21 }
set_option maxHeartbeats 4000000 in
set_option maxRecDepth 100000 in
theorem c_X7_drop (l : Launch) (dC : Nat → ClassId) (dI : Nat → Nat → Nat) (AA : Nat → Nat → Nat) (CA : Nat → Nat → ClassId) (sz : Nat) (uf : Ob) (um : Ob) (ut : Ob) (uh : Ob) (ug : Ob) (ur : Ob) (uw : Ob) (ux : Ob) (uy : Ob) (x1 : Int32) (post : Int32 → Ob → Ob → Prop) (h : wp_X7_drop uf ux uy x1 post) : Met l yX7_drop wsX7_drop rm_X7_drop (va_Pc [.ref (AA 0 0), .int x1] (fun U => U.heap.size = sz ∧ va_P (dC, dI) vwCl (wd_X7 AA CA uf um ut uh ug ur uw ux uy) U.heap ∧ va_K (dC, dI) vwCl (ty_X7 CA) U ∧ va_D (fun _ => True) (wd_X7 AA CA uf um ut uh ug ur uw ux uy))) (va_Qi (fun (rr : Int32) (zz : Ob × Ob) => post rr zz.1 zz.2) (fun (zz : Ob × Ob) (t : State) => va_P (dC, dI) vwCl (wd_X7 AA CA uf um ut uh ug ur uw zz.1 zz.2) t.heap ∧ va_D (va_A (wd_X7 AA CA uf um ut uh ug ur uw ux uy) sz) (wd_X7 AA CA uf um ut uh ug ur uw zz.1 zz.2)) (va_A (wd_X7 AA CA uf um ut uh ug ur uw ux uy) sz)) 0 0 (va_A (wd_X7 AA CA uf um ut uh ug ur uw ux uy) sz) := by
  refine fl_ofW (cc := cX7_drop) (maxL := 2) (ret := (some .int)) (by decide) rfl ?_
  intro p e s m args below meth c s₁ Q B hml hv hQ
  obtain ⟨hargs, hsz, hP, hK, hD0⟩ := hv
  have hx := B.exec
  have hb := B.bytes
  have hr := B.returns
  have hts := atoms_spec (ws := wsX7_drop) B.pre
  have hown : s.vm.findClass RX7 = some m.cls := findClass_of_methodNamed B.named
  subst hsz
  have hD := hD0.self (sz := s.heap.size)
  generalize hAe : va_A (wd_X7 AA CA uf um ut uh ug ur uw ux uy) s.heap.size = A at hD hQ
  have hA : ∀ q : Nat, s.heap.size ≤ q → A q := fun q h => by rw [← hAe]; exact Or.inr h
  have hS : va_S A s.heap s.heap [] := va_S.rf
  have hl := lv_entry ([.ref (AA 0 0), .int x1]) (n := 2) (Nat.le_of_ble_eq_true rfl)
  refine W.eq (g2 := F0 m 0 ((lg_sl ([.ref (AA 0 0), .int x1]) ++ List.replicate (2 - (lg_sl ([.ref (AA 0 0), .int x1])).length) Slot.unset).toArray) []) (by rw [hargs]; exact lg_entry_eq m _ 2) ?_
  generalize (lg_sl ([.ref (AA 0 0), .int x1]) ++ List.replicate (2 - (lg_sl ([.ref (AA 0 0), .int x1])).length) Slot.unset).toArray = ls at hl ⊢
  have hl : lv_has ls 2 [(0, .ref (AA 0 0)), (1, .int x1)] := hl
  suffices hstart : ∀ (H : Heap) (locs : List Loc) (ls : Array Slot), va_P (dC, dI) vwCl (wd_X7 AA CA uf um ut uh ug ur uw ux uy) H → va_D A (wd_X7 AA CA uf um ut uh ug ur uw ux uy) → va_S A s.heap H locs → lv_has ls 2 [(0, .ref (AA 0 0)), (1, .int x1)] → W p l e (headSpec wsX7_drop rm_X7_drop).room s m args below meth c H locs 0 0 Q (F0 m 0 ls []) from hstart _ _ _ hP hD hS hl
  clear hS hP hD hD0
  intro H locs ls hP hD hS hl
  have hin_X3 : ∀ w ∈ wsX30, w ∈ wsX7_drop := by decide +kernel
  have hin_X7 : ∀ w ∈ wsX70, w ∈ wsX7_drop := by decide +kernel
  have lk_0 := hts (.fieldLink RX7 50 "ForgettingLines" "sheets" "[LForgettingLines$Sheet;") (by decide +kernel)
  have lk_1 := hts (.fieldLink RX7 191 "ForgettingLines$Sheet" "held" "Z") (by decide +kernel)
  have lk_2 := hts (.fieldLink RX7 112 "ForgettingLines$Sheet" "size" "I") (by decide +kernel)
  unfold wp_X7_drop at h
  refine lv_iload_n hx hb dX7_drop_0 rfl (lv_at hl 1 rfl) ?_
  refine lv_iconst (v := 2) hx hb dX7_drop_1 (by decide) ?_
  have hFc := fl_freeN hS hA
  refine va_calli (va_runS (As := [.int x1, .int 2]) (rest := []) ⟨hx, hb, hml, hown, hts⟩ (c_X7_isAmong l H.size x1 2 _ h) (va_cwS 2 hts gX7_drop_X7_isAmong rfl rfl rfl (by decide +kernel) ⟨Nat.le_of_ble_eq_true rfl, Nat.le_of_ble_eq_true rfl⟩) ⟨fun a U g mk q => by obtain ⟨q0, q1⟩ := q; exact ⟨q0, q1⟩, fun U hU hW => ⟨rfl, congrArg Array.size hU⟩⟩ rfl rfl hl.1 rfl (lv_room (Nat.le_of_ble_eq_true rfl)) dX7_drop_2 ⟨Nat.zero_le _, Nat.zero_le _⟩) hS (fun q _ h => hFc q h) hFc (fun r_1 zz t H1 locs ht hvm hw hB hz1 hk1 hS => ?_)
  replace hP := fl_keep hP hk1
  replace h := hw
  generalize H1 = H at hP hS ⊢
  refine lv_if_ne (tgt := 10) hx hb dX7_drop_5 (by decide) (fun hc_2 => ?_) (fun hc_2 => ?_)
  · replace h := h.1 hc_2
    refine lv_aload_n hx hb dX7_drop_10 rfl (lv_at hl 0 rfl) ?_
    refine va_get (D := (dC, dI)) (ci := 6) (v := .ref (AA 0 7)) (C := RX7) (T := TX7) (N := 8) hx hb hts hin_X7 hown hK hP 0 rfl rfl 6 (by decide) lk_0 (fun _ h9 => h9) rfl dX7_drop_11 ?_
    refine lv_iload_n hx hb dX7_drop_14 rfl (lv_at hl 1 rfl) ?_
    obtain ⟨hi_3, h⟩ := h
    refine va_aldq (D := (dC, dI)) (cl := vwCl) (i := x1) hx hb hK hP 1 0 rfl rfl hi_3 dX7_drop_15 ?_
    rcases fl_in2 hi_3 with kn_x1 | kn_x1
    · replace h := h.1 kn_x1
      refine W.eq (g2 := F0 m 16 ls [.ref (AA 7 0)]) (by rw [kn_x1]; rfl) ?_
      refine va_get (D := (dC, dI)) (ci := 3) (v := .int (ux.1 0)) (C := RX3) (T := TX3) (N := 4) hx hb hts hin_X3 hown hK hP 22 rfl rfl 0 (by decide) lk_1 (fun _ h9 => h9) rfl dX7_drop_16 ?_
      refine lv_if_ne (tgt := 25) hx hb dX7_drop_19 (by decide) (fun hc_4 => ?_) (fun hc_4 => ?_)
      · replace h := h.1 hc_4
        refine lv_aload_n hx hb dX7_drop_25 rfl (lv_at hl 0 rfl) ?_
        refine va_get (D := (dC, dI)) (ci := 6) (v := .ref (AA 0 7)) (C := RX7) (T := TX7) (N := 8) hx hb hts hin_X7 hown hK hP 0 rfl rfl 6 (by decide) lk_0 (fun _ h9 => h9) rfl dX7_drop_26 ?_
        refine lv_iload_n hx hb dX7_drop_29 rfl (lv_at hl 1 rfl) ?_
        obtain ⟨hi_5, h⟩ := h
        refine va_aldq (D := (dC, dI)) (cl := vwCl) (i := x1) hx hb hK hP 1 0 rfl rfl hi_5 dX7_drop_30 ?_
        refine W.eq (g2 := F0 m 31 ls [.ref (AA 7 0)]) (by rw [kn_x1]; rfl) ?_
        refine lv_iconst (v := 0) hx hb dX7_drop_31 (by decide) ?_
        refine va_put (D := (dC, dI)) (ci := 3) (v := .int 0) (ty := .boolean) (C := RX3) (T := TX3) (N := 4) hx hb hts hin_X3 tyX3 tyX3_ok nmX3 hown hK hP hD hS 22 rfl rfl 0 (by decide) lk_1 (fun _ h9 => h9) rfl (by decide +kernel) rfl rfl (Nat.le_of_ble_eq_true rfl) dX7_drop_32 (fun H locs hP hD hS => ?_)
        obtain ⟨ux_6, eux_6⟩ : ∃ z : Ob, z = fs_i ux 0 0 := ⟨_, rfl⟩
        replace h := h ux_6 eux_6
        replace hP : va_P (dC, dI) vwCl (wd_X7 AA CA uf um ut uh ug ur uw ux_6 uy) H := by rw [eux_6]; exact hP
        replace hD : va_D A (wd_X7 AA CA uf um ut uh ug ur uw ux_6 uy) := by rw [eux_6]; exact hD
        refine lv_aload_n hx hb dX7_drop_35 rfl (lv_at hl 0 rfl) ?_
        refine va_get (D := (dC, dI)) (ci := 6) (v := .ref (AA 0 7)) (C := RX7) (T := TX7) (N := 8) hx hb hts hin_X7 hown hK hP 0 rfl rfl 6 (by decide) lk_0 (fun _ h9 => h9) rfl dX7_drop_36 ?_
        refine lv_iload_n hx hb dX7_drop_39 rfl (lv_at hl 1 rfl) ?_
        obtain ⟨hi_7, h⟩ := h
        refine va_aldq (D := (dC, dI)) (cl := vwCl) (i := x1) hx hb hK hP 1 0 rfl rfl hi_7 dX7_drop_40 ?_
        refine W.eq (g2 := F0 m 41 ls [.ref (AA 7 0)]) (by rw [kn_x1]; rfl) ?_
        refine va_get (D := (dC, dI)) (ci := 3) (v := .int (ux_6.1 1)) (C := RX3) (T := TX3) (N := 4) hx hb hts hin_X3 hown hK hP 22 rfl rfl 1 (by decide) lk_2 (fun _ h9 => h9) rfl dX7_drop_41 ?_
        subst hQ
        exact W.iret (v := (ux_6.1 1)) hx hb hr (fun t ht hW => ⟨⟨_, (ux_6, uy), rfl, h, by rw [ht]; exact hP, hD⟩, hS.F ht⟩) hS.2.2 dX7_drop_44
      · replace h := h.2 hc_4
        refine lv_bipush (v := (-11)) hx hb dX7_drop_22 (by decide) ?_
        subst hQ
        exact W.iret (v := (-11)) hx hb hr (fun t ht hW => ⟨⟨_, (ux, uy), rfl, h, by rw [ht]; exact hP, hD⟩, hS.F ht⟩) hS.2.2 dX7_drop_24
    · replace h := h.2 kn_x1
      refine W.eq (g2 := F0 m 16 ls [.ref (AA 8 0)]) (by rw [kn_x1]; rfl) ?_
      refine va_get (D := (dC, dI)) (ci := 3) (v := .int (uy.1 0)) (C := RX3) (T := TX3) (N := 4) hx hb hts hin_X3 hown hK hP 24 rfl rfl 0 (by decide) lk_1 (fun _ h9 => h9) rfl dX7_drop_16 ?_
      refine lv_if_ne (tgt := 25) hx hb dX7_drop_19 (by decide) (fun hc_8 => ?_) (fun hc_8 => ?_)
      · replace h := h.1 hc_8
        refine lv_aload_n hx hb dX7_drop_25 rfl (lv_at hl 0 rfl) ?_
        refine va_get (D := (dC, dI)) (ci := 6) (v := .ref (AA 0 7)) (C := RX7) (T := TX7) (N := 8) hx hb hts hin_X7 hown hK hP 0 rfl rfl 6 (by decide) lk_0 (fun _ h9 => h9) rfl dX7_drop_26 ?_
        refine lv_iload_n hx hb dX7_drop_29 rfl (lv_at hl 1 rfl) ?_
        obtain ⟨hi_9, h⟩ := h
        refine va_aldq (D := (dC, dI)) (cl := vwCl) (i := x1) hx hb hK hP 1 0 rfl rfl hi_9 dX7_drop_30 ?_
        refine W.eq (g2 := F0 m 31 ls [.ref (AA 8 0)]) (by rw [kn_x1]; rfl) ?_
        refine lv_iconst (v := 0) hx hb dX7_drop_31 (by decide) ?_
        refine va_put (D := (dC, dI)) (ci := 3) (v := .int 0) (ty := .boolean) (C := RX3) (T := TX3) (N := 4) hx hb hts hin_X3 tyX3 tyX3_ok nmX3 hown hK hP hD hS 24 rfl rfl 0 (by decide) lk_1 (fun _ h9 => h9) rfl (by decide +kernel) rfl rfl (Nat.le_of_ble_eq_true rfl) dX7_drop_32 (fun H locs hP hD hS => ?_)
        obtain ⟨uy_10, euy_10⟩ : ∃ z : Ob, z = fs_i uy 0 0 := ⟨_, rfl⟩
        replace h := h uy_10 euy_10
        replace hP : va_P (dC, dI) vwCl (wd_X7 AA CA uf um ut uh ug ur uw ux uy_10) H := by rw [euy_10]; exact hP
        replace hD : va_D A (wd_X7 AA CA uf um ut uh ug ur uw ux uy_10) := by rw [euy_10]; exact hD
        refine lv_aload_n hx hb dX7_drop_35 rfl (lv_at hl 0 rfl) ?_
        refine va_get (D := (dC, dI)) (ci := 6) (v := .ref (AA 0 7)) (C := RX7) (T := TX7) (N := 8) hx hb hts hin_X7 hown hK hP 0 rfl rfl 6 (by decide) lk_0 (fun _ h9 => h9) rfl dX7_drop_36 ?_
        refine lv_iload_n hx hb dX7_drop_39 rfl (lv_at hl 1 rfl) ?_
        obtain ⟨hi_11, h⟩ := h
        refine va_aldq (D := (dC, dI)) (cl := vwCl) (i := x1) hx hb hK hP 1 0 rfl rfl hi_11 dX7_drop_40 ?_
        refine W.eq (g2 := F0 m 41 ls [.ref (AA 8 0)]) (by rw [kn_x1]; rfl) ?_
        refine va_get (D := (dC, dI)) (ci := 3) (v := .int (uy_10.1 1)) (C := RX3) (T := TX3) (N := 4) hx hb hts hin_X3 hown hK hP 24 rfl rfl 1 (by decide) lk_2 (fun _ h9 => h9) rfl dX7_drop_41 ?_
        subst hQ
        exact W.iret (v := (uy_10.1 1)) hx hb hr (fun t ht hW => ⟨⟨_, (ux, uy_10), rfl, h, by rw [ht]; exact hP, hD⟩, hS.F ht⟩) hS.2.2 dX7_drop_44
      · replace h := h.2 hc_8
        refine lv_bipush (v := (-11)) hx hb dX7_drop_22 (by decide) ?_
        subst hQ
        exact W.iret (v := (-11)) hx hb hr (fun t ht hW => ⟨⟨_, (ux, uy), rfl, h, by rw [ht]; exact hP, hD⟩, hS.F ht⟩) hS.2.2 dX7_drop_24
  · replace h := h.2 hc_2
    refine lv_iconst (v := (-1)) hx hb dX7_drop_8 (by decide) ?_
    subst hQ
    exact W.iret (v := (-1)) hx hb hr (fun t ht hW => ⟨⟨_, (ux, uy), rfl, h, by rw [ht]; exact hP, hD⟩, hS.F ht⟩) hS.2.2 dX7_drop_9
abbrev rm_X7_item : Room := { frames := 1, cells := 0, slots := 0, locals := 22 }
set_option maxHeartbeats 4000000 in
set_option maxRecDepth 100000 in
theorem c_X7_item (l : Launch) (dC : Nat → ClassId) (dI : Nat → Nat → Nat) (AA : Nat → Nat → Nat) (CA : Nat → Nat → ClassId) (sz : Nat) (uf : Ob) (um : Ob) (ut : Ob) (uh : Ob) (ug : Ob) (ur : Ob) (uw : Ob) (ux : Ob) (uy : Ob) (x1 : Int32) (x2 : Int32) (x3 : Int32) (x4 : Int32) (post : Int32 → Ob → Ob → Prop) (h : wp_X7_item uf ux uy x1 x2 x3 x4 post) : Met l yX7_item wsX7_item rm_X7_item (va_Pc [.ref (AA 0 0), .int x1, .int x2, .int x3, .int x4] (fun U => U.heap.size = sz ∧ va_P (dC, dI) vwCl (wd_X7 AA CA uf um ut uh ug ur uw ux uy) U.heap ∧ va_K (dC, dI) vwCl (ty_X7 CA) U ∧ va_D (fun _ => True) (wd_X7 AA CA uf um ut uh ug ur uw ux uy))) (va_Qi (fun (rr : Int32) (zz : Ob × Ob) => post rr zz.1 zz.2) (fun (zz : Ob × Ob) (t : State) => va_P (dC, dI) vwCl (wd_X7 AA CA uf um ut uh ug ur uw zz.1 zz.2) t.heap ∧ va_D (va_A (wd_X7 AA CA uf um ut uh ug ur uw ux uy) sz) (wd_X7 AA CA uf um ut uh ug ur uw zz.1 zz.2)) (va_A (wd_X7 AA CA uf um ut uh ug ur uw ux uy) sz)) 0 0 (va_A (wd_X7 AA CA uf um ut uh ug ur uw ux uy) sz) := by
  refine fl_ofW (cc := cX7_item) (maxL := 7) (ret := (some .int)) (by decide) rfl ?_
  intro p e s m args below meth c s₁ Q B hml hv hQ
  obtain ⟨hargs, hsz, hP, hK, hD0⟩ := hv
  have hx := B.exec
  have hb := B.bytes
  have hr := B.returns
  have hts := atoms_spec (ws := wsX7_item) B.pre
  have hown : s.vm.findClass RX7 = some m.cls := findClass_of_methodNamed B.named
  subst hsz
  have hD := hD0.self (sz := s.heap.size)
  generalize hAe : va_A (wd_X7 AA CA uf um ut uh ug ur uw ux uy) s.heap.size = A at hD hQ
  have hA : ∀ q : Nat, s.heap.size ≤ q → A q := fun q h => by rw [← hAe]; exact Or.inr h
  have hS : va_S A s.heap s.heap [] := va_S.rf
  have hl := lv_entry ([.ref (AA 0 0), .int x1, .int x2, .int x3, .int x4]) (n := 7) (Nat.le_of_ble_eq_true rfl)
  refine W.eq (g2 := F0 m 0 ((lg_sl ([.ref (AA 0 0), .int x1, .int x2, .int x3, .int x4]) ++ List.replicate (7 - (lg_sl ([.ref (AA 0 0), .int x1, .int x2, .int x3, .int x4])).length) Slot.unset).toArray) []) (by rw [hargs]; exact lg_entry_eq m _ 7) ?_
  generalize (lg_sl ([.ref (AA 0 0), .int x1, .int x2, .int x3, .int x4]) ++ List.replicate (7 - (lg_sl ([.ref (AA 0 0), .int x1, .int x2, .int x3, .int x4])).length) Slot.unset).toArray = ls at hl ⊢
  have hl : lv_has ls 7 [(0, .ref (AA 0 0)), (1, .int x1), (2, .int x2), (3, .int x3), (4, .int x4)] := hl
  suffices hstart : ∀ (H : Heap) (locs : List Loc) (ls : Array Slot), va_P (dC, dI) vwCl (wd_X7 AA CA uf um ut uh ug ur uw ux uy) H → va_D A (wd_X7 AA CA uf um ut uh ug ur uw ux uy) → va_S A s.heap H locs → lv_has ls 7 [(0, .ref (AA 0 0)), (1, .int x1), (2, .int x2), (3, .int x3), (4, .int x4)] → W p l e (headSpec wsX7_item rm_X7_item).room s m args below meth c H locs 0 0 Q (F0 m 0 ls []) from hstart _ _ _ hP hD hS hl
  clear hS hP hD hD0
  intro H locs ls hP hD hS hl
  have hin_X3 : ∀ w ∈ wsX30, w ∈ wsX7_item := by decide +kernel
  have hin_X7 : ∀ w ∈ wsX70, w ∈ wsX7_item := by decide +kernel
  have lk_0 := hts (.fieldLink RX7 50 "ForgettingLines" "sheets" "[LForgettingLines$Sheet;") (by decide +kernel)
  have lk_1 := hts (.fieldLink RX7 112 "ForgettingLines$Sheet" "size" "I") (by decide +kernel)
  unfold wp_X7_item at h
  refine lv_iload_n hx hb dX7_item_0 rfl (lv_at hl 1 rfl) ?_
  refine lv_iconst (v := 2) hx hb dX7_item_1 (by decide) ?_
  have hFc := fl_freeN hS hA
  refine va_calli (va_runS (As := [.int x1, .int 2]) (rest := []) ⟨hx, hb, hml, hown, hts⟩ (c_X7_isAmong l H.size x1 2 _ h) (va_cwS 2 hts gX7_item_X7_isAmong rfl rfl rfl (by decide +kernel) ⟨Nat.le_of_ble_eq_true rfl, Nat.le_of_ble_eq_true rfl⟩) ⟨fun a U g mk q => by obtain ⟨q0, q1⟩ := q; exact ⟨q0, q1⟩, fun U hU hW => ⟨rfl, congrArg Array.size hU⟩⟩ rfl rfl hl.1 rfl (lv_room (Nat.le_of_ble_eq_true rfl)) dX7_item_2 ⟨Nat.zero_le _, Nat.zero_le _⟩) hS (fun q _ h => hFc q h) hFc (fun r_1 zz t H1 locs ht hvm hw hB hz1 hk1 hS => ?_)
  replace hP := fl_keep hP hk1
  replace h := hw
  generalize H1 = H at hP hS ⊢
  refine lv_if_eq (tgt := 16) hx hb dX7_item_5 (by decide) (fun hc_2 => ?_) (fun hc_2 => ?_)
  · replace h := h.1 hc_2
    refine lv_iconst (v := (-1)) hx hb dX7_item_16 (by decide) ?_
    subst hQ
    exact W.iret (v := (-1)) hx hb hr (fun t ht hW => ⟨⟨_, (ux, uy), rfl, h, by rw [ht]; exact hP, hD⟩, hS.F ht⟩) hS.2.2 dX7_item_17
  · replace h := h.2 hc_2
    refine lv_iload_n hx hb dX7_item_8 rfl (lv_at hl 2 rfl) ?_
    refine lv_iconst (v := 2) hx hb dX7_item_9 (by decide) ?_
    have hFc := fl_freeN hS hA
    refine va_calli (va_runS (As := [.int x2, .int 2]) (rest := []) ⟨hx, hb, hml, hown, hts⟩ (c_X7_isAmong l H.size x2 2 _ h) (va_cwS 2 hts gX7_item_X7_isAmong rfl rfl rfl (by decide +kernel) ⟨Nat.le_of_ble_eq_true rfl, Nat.le_of_ble_eq_true rfl⟩) ⟨fun a U g mk q => by obtain ⟨q0, q1⟩ := q; exact ⟨q0, q1⟩, fun U hU hW => ⟨rfl, congrArg Array.size hU⟩⟩ rfl rfl hl.1 rfl (lv_room (Nat.le_of_ble_eq_true rfl)) dX7_item_10 ⟨Nat.zero_le _, Nat.zero_le _⟩) hS (fun q _ h => hFc q h) hFc (fun r_3 zz t H1 locs ht hvm hw hB hz1 hk1 hS => ?_)
    replace hP := fl_keep hP hk1
    replace h := hw
    generalize H1 = H at hP hS ⊢
    refine lv_if_ne (tgt := 18) hx hb dX7_item_13 (by decide) (fun hc_4 => ?_) (fun hc_4 => ?_)
    · replace h := h.1 hc_4
      refine lv_aload_n hx hb dX7_item_18 rfl (lv_at hl 0 rfl) ?_
      refine va_get (D := (dC, dI)) (ci := 6) (v := .ref (AA 0 7)) (C := RX7) (T := TX7) (N := 8) hx hb hts hin_X7 hown hK hP 0 rfl rfl 6 (by decide) lk_0 (fun _ h9 => h9) rfl dX7_item_19 ?_
      refine lv_iload_n hx hb dX7_item_22 rfl (lv_at hl 1 rfl) ?_
      obtain ⟨hi_5, h⟩ := h
      refine va_aldq (D := (dC, dI)) (cl := vwCl) (i := x1) hx hb hK hP 1 0 rfl rfl hi_5 dX7_item_23 ?_
      rcases fl_in2 hi_5 with kn_x1 | kn_x1
      · replace h := h.1 kn_x1
        refine W.eq (g2 := F0 m 24 ls [.ref (AA 7 0)]) (by rw [kn_x1]; rfl) ?_
        refine lv_astore (lv' := [(5, .ref (AA 7 0)), (0, .ref (AA 0 0)), (1, .int x1), (2, .int x2), (3, .int x3), (4, .int x4)]) hx hb dX7_item_24 hl (by decide) rfl (fun ls hl => ?_)
        refine lv_aload hx hb dX7_item_26 (lv_at hl 0 rfl) ?_
        refine lv_iload_n hx hb dX7_item_28 rfl (lv_at hl 3 rfl) ?_
        have hPc := hP.sub (ws' := (wd_X3 (AA 7) (CA 7) ux)) [22, 23] rfl
        have hDc := hD.sub (ws' := (wd_X3 (AA 7) (CA 7) ux)) [22, 23] (by decide) rfl
        have hKc := hK.sub (tys' := (ty_X3 (CA 7))) [15] rfl
        have hFc := va_free (wc := (wd_X3 (AA 7) (CA 7) ux)) hD hS hA [22, 23] rfl
        refine va_calli (va_runV (As := [.int x2]) (rest := []) ⟨hx, hb, hml, hown, hts⟩ (c_X3_faultAs l dC dI (AA 7) (CA 7) H.size ux x2 _ h) (cwV 1 hts gX7_item_X3_faultAs rfl rfl rfl (by decide +kernel) ⟨Nat.le_of_ble_eq_true rfl, Nat.le_of_ble_eq_true rfl⟩) ⟨fun a U g mk q => by obtain ⟨q0, q1, qP, qK, qD⟩ := q; exact ⟨q0, q1, qP, va_K.moved (u := U) (U := U.calling g mk a) (Vm.Alike.refl U.vm) qK, qD⟩, va_recv hKc hPc (ci := 3) (q0 := 0) rfl rfl, fun U hU hW => ⟨rfl, by rw [hU], by rw [hU]; exact hPc, va_K.moved hW.alike hKc, hDc.weaken (fun _ _ _ _ => trivial)⟩⟩ rfl rfl hl.1 rfl (lv_room (Nat.le_of_ble_eq_true rfl)) dX7_item_29 ⟨Nat.zero_le _, Nat.zero_le _⟩) hS (fun q _ h => hFc q h) hFc (fun r_6 zz t H1 locs ht hvm hw hB hz1 hk1 hS => ?_)
        replace h := hw
        obtain ⟨hP1, hD1⟩ := hB
        rw [ht] at hP1
        obtain ⟨hP, hD⟩ := va_join (wr := [0, 1, 2, 3, 4, 5, 6, 7, 8, 9, 10, 11, 12, 13, 14, 15, 16, 17, 18, 19, 20, 21, 24, 25].filterMap (fun i => (wd_X7 AA CA uf um ut uh ug ur uw ux uy)[i]?)) (w1 := (wd_X3 (AA 7) (CA 7) ux)) hP hD [22, 23] [0, 1, 2, 3, 4, 5, 6, 7, 8, 9, 10, 11, 12, 13, 14, 15, 16, 17, 18, 19, 20, 21, 24, 25] rfl rfl (by decide) (by decide) hk1 hFc hP1 hD1
        replace hP : va_P (dC, dI) vwCl (wd_X7 AA CA uf um ut uh ug ur uw ux uy) H1 := (hP.sub [0, 1, 2, 3, 4, 5, 6, 7, 8, 9, 10, 11, 12, 13, 14, 15, 16, 17, 18, 19, 20, 21, 24, 25, 22, 23] rfl)
        replace hD : va_D A (wd_X7 AA CA uf um ut uh ug ur uw ux uy) := (hD.sub [0, 1, 2, 3, 4, 5, 6, 7, 8, 9, 10, 11, 12, 13, 14, 15, 16, 17, 18, 19, 20, 21, 24, 25, 22, 23] (by decide) rfl)
        generalize H1 = H at hP hS ⊢
        refine lv_istore (lv' := [(6, .int r_6), (5, .ref (AA 7 0)), (0, .ref (AA 0 0)), (1, .int x1), (2, .int x2), (3, .int x3), (4, .int x4)]) hx hb dX7_item_32 hl (by decide) rfl (fun ls hl => ?_)
        refine lv_iload hx hb dX7_item_34 (lv_at hl 0 rfl) ?_
        refine lv_if_eq (tgt := 42) hx hb dX7_item_36 (by decide) (fun hc_7 => ?_) (fun hc_7 => ?_)
        · replace h := h.1 hc_7
          refine lv_iload_n hx hb dX7_item_42 rfl (lv_at hl 5 rfl) ?_
          refine lv_aload hx hb dX7_item_43 (lv_at hl 1 rfl) ?_
          refine va_get (D := (dC, dI)) (ci := 3) (v := .int (ux.1 1)) (C := RX3) (T := TX3) (N := 4) hx hb hts hin_X3 hown hK hP 22 rfl rfl 1 (by decide) lk_1 (fun _ h9 => h9) rfl dX7_item_45 ?_
          have hFc := fl_freeN hS hA
          refine va_calli (va_runS (As := [.int x3, .int (ux.1 1)]) (rest := []) ⟨hx, hb, hml, hown, hts⟩ (c_X7_isAmong l H.size x3 (ux.1 1) _ h) (va_cwS 2 hts gX7_item_X7_isAmong rfl rfl rfl (by decide +kernel) ⟨Nat.le_of_ble_eq_true rfl, Nat.le_of_ble_eq_true rfl⟩) ⟨fun a U g mk q => by obtain ⟨q0, q1⟩ := q; exact ⟨q0, q1⟩, fun U hU hW => ⟨rfl, congrArg Array.size hU⟩⟩ rfl rfl hl.1 rfl (lv_room (Nat.le_of_ble_eq_true rfl)) dX7_item_48 ⟨Nat.zero_le _, Nat.zero_le _⟩) hS (fun q _ h => hFc q h) hFc (fun r_8 zz t H1 locs ht hvm hw hB hz1 hk1 hS => ?_)
          replace hP := fl_keep hP hk1
          replace h := hw
          generalize H1 = H at hP hS ⊢
          refine lv_if_ne (tgt := 57) hx hb dX7_item_51 (by decide) (fun hc_9 => ?_) (fun hc_9 => ?_)
          · replace h := h.1 hc_9
            refine lv_aload hx hb dX7_item_57 (lv_at hl 1 rfl) ?_
            refine lv_iload_n hx hb dX7_item_59 rfl (lv_at hl 5 rfl) ?_
            refine lv_iload hx hb dX7_item_60 (lv_at hl 6 rfl) ?_
            have hPc := hP.sub (ws' := (wd_X3 (AA 7) (CA 7) ux)) [22, 23] rfl
            have hDc := hD.sub (ws' := (wd_X3 (AA 7) (CA 7) ux)) [22, 23] (by decide) rfl
            have hKc := hK.sub (tys' := (ty_X3 (CA 7))) [15] rfl
            have hFc := va_free (wc := (wd_X3 (AA 7) (CA 7) ux)) hD hS hA [22, 23] rfl
            refine va_callv (va_runV (As := [.int x3, .int x4]) (rest := []) ⟨hx, hb, hml, hown, hts⟩ (c_X3_put l dC dI (AA 7) (CA 7) H.size ux x3 x4 _ h) (cwV 2 hts gX7_item_X3_put rfl rfl rfl (by decide +kernel) ⟨Nat.le_of_ble_eq_true rfl, Nat.le_of_ble_eq_true rfl⟩) ⟨fun a U g mk q => by obtain ⟨q0, q1, qP, qK, qD⟩ := q; exact ⟨q0, q1, qP, va_K.moved (u := U) (U := U.calling g mk a) (Vm.Alike.refl U.vm) qK, qD⟩, va_recv hKc hPc (ci := 3) (q0 := 0) rfl rfl, fun U hU hW => ⟨rfl, by rw [hU], by rw [hU]; exact hPc, va_K.moved hW.alike hKc, hDc.weaken (fun _ _ _ _ => trivial)⟩⟩ rfl rfl hl.1 rfl (lv_room (Nat.le_of_ble_eq_true rfl)) dX7_item_62 ⟨Nat.zero_le _, Nat.zero_le _⟩) hS (fun q _ h => hFc q h) hFc (fun zz t H1 locs ht hvm hw hB hz1 hk1 hS => ?_)
            obtain ⟨ux_10, rfl⟩ : ∃ z, z = zz := ⟨_, rfl⟩
            replace h := hw
            obtain ⟨hP1, hD1⟩ := hB
            rw [ht] at hP1
            obtain ⟨hP, hD⟩ := va_join (wr := [0, 1, 2, 3, 4, 5, 6, 7, 8, 9, 10, 11, 12, 13, 14, 15, 16, 17, 18, 19, 20, 21, 24, 25].filterMap (fun i => (wd_X7 AA CA uf um ut uh ug ur uw ux uy)[i]?)) (w1 := (wd_X3 (AA 7) (CA 7) ux_10)) hP hD [22, 23] [0, 1, 2, 3, 4, 5, 6, 7, 8, 9, 10, 11, 12, 13, 14, 15, 16, 17, 18, 19, 20, 21, 24, 25] rfl rfl (by decide) (by decide) hk1 hFc hP1 hD1
            replace hP : va_P (dC, dI) vwCl (wd_X7 AA CA uf um ut uh ug ur uw ux_10 uy) H1 := (hP.sub [0, 1, 2, 3, 4, 5, 6, 7, 8, 9, 10, 11, 12, 13, 14, 15, 16, 17, 18, 19, 20, 21, 24, 25, 22, 23] rfl)
            replace hD : va_D A (wd_X7 AA CA uf um ut uh ug ur uw ux_10 uy) := (hD.sub [0, 1, 2, 3, 4, 5, 6, 7, 8, 9, 10, 11, 12, 13, 14, 15, 16, 17, 18, 19, 20, 21, 24, 25, 22, 23] (by decide) rfl)
            generalize H1 = H at hP hS ⊢
            refine lv_iconst (v := 1) hx hb dX7_item_65 (by decide) ?_
            subst hQ
            exact W.iret (v := 1) hx hb hr (fun t ht hW => ⟨⟨_, (ux_10, uy), rfl, h, by rw [ht]; exact hP, hD⟩, hS.F ht⟩) hS.2.2 dX7_item_66
          · replace h := h.2 hc_9
            refine lv_bipush (v := (-13)) hx hb dX7_item_54 (by decide) ?_
            subst hQ
            exact W.iret (v := (-13)) hx hb hr (fun t ht hW => ⟨⟨_, (ux, uy), rfl, h, by rw [ht]; exact hP, hD⟩, hS.F ht⟩) hS.2.2 dX7_item_56
        · replace h := h.2 hc_7
          refine lv_iload hx hb dX7_item_39 (lv_at hl 0 rfl) ?_
          subst hQ
          exact W.iret (v := r_6) hx hb hr (fun t ht hW => ⟨⟨_, (ux, uy), rfl, h, by rw [ht]; exact hP, hD⟩, hS.F ht⟩) hS.2.2 dX7_item_41
      · replace h := h.2 kn_x1
        refine W.eq (g2 := F0 m 24 ls [.ref (AA 8 0)]) (by rw [kn_x1]; rfl) ?_
        refine lv_astore (lv' := [(5, .ref (AA 8 0)), (0, .ref (AA 0 0)), (1, .int x1), (2, .int x2), (3, .int x3), (4, .int x4)]) hx hb dX7_item_24 hl (by decide) rfl (fun ls hl => ?_)
        refine lv_aload hx hb dX7_item_26 (lv_at hl 0 rfl) ?_
        refine lv_iload_n hx hb dX7_item_28 rfl (lv_at hl 3 rfl) ?_
        have hPc := hP.sub (ws' := (wd_X3 (AA 8) (CA 8) uy)) [24, 25] rfl
        have hDc := hD.sub (ws' := (wd_X3 (AA 8) (CA 8) uy)) [24, 25] (by decide) rfl
        have hKc := hK.sub (tys' := (ty_X3 (CA 8))) [16] rfl
        have hFc := va_free (wc := (wd_X3 (AA 8) (CA 8) uy)) hD hS hA [24, 25] rfl
        refine va_calli (va_runV (As := [.int x2]) (rest := []) ⟨hx, hb, hml, hown, hts⟩ (c_X3_faultAs l dC dI (AA 8) (CA 8) H.size uy x2 _ h) (cwV 1 hts gX7_item_X3_faultAs rfl rfl rfl (by decide +kernel) ⟨Nat.le_of_ble_eq_true rfl, Nat.le_of_ble_eq_true rfl⟩) ⟨fun a U g mk q => by obtain ⟨q0, q1, qP, qK, qD⟩ := q; exact ⟨q0, q1, qP, va_K.moved (u := U) (U := U.calling g mk a) (Vm.Alike.refl U.vm) qK, qD⟩, va_recv hKc hPc (ci := 3) (q0 := 0) rfl rfl, fun U hU hW => ⟨rfl, by rw [hU], by rw [hU]; exact hPc, va_K.moved hW.alike hKc, hDc.weaken (fun _ _ _ _ => trivial)⟩⟩ rfl rfl hl.1 rfl (lv_room (Nat.le_of_ble_eq_true rfl)) dX7_item_29 ⟨Nat.zero_le _, Nat.zero_le _⟩) hS (fun q _ h => hFc q h) hFc (fun r_11 zz t H1 locs ht hvm hw hB hz1 hk1 hS => ?_)
        replace h := hw
        obtain ⟨hP1, hD1⟩ := hB
        rw [ht] at hP1
        obtain ⟨hP, hD⟩ := va_join (wr := [0, 1, 2, 3, 4, 5, 6, 7, 8, 9, 10, 11, 12, 13, 14, 15, 16, 17, 18, 19, 20, 21, 22, 23].filterMap (fun i => (wd_X7 AA CA uf um ut uh ug ur uw ux uy)[i]?)) (w1 := (wd_X3 (AA 8) (CA 8) uy)) hP hD [24, 25] [0, 1, 2, 3, 4, 5, 6, 7, 8, 9, 10, 11, 12, 13, 14, 15, 16, 17, 18, 19, 20, 21, 22, 23] rfl rfl (by decide) (by decide) hk1 hFc hP1 hD1
        replace hP : va_P (dC, dI) vwCl (wd_X7 AA CA uf um ut uh ug ur uw ux uy) H1 := (hP.sub [0, 1, 2, 3, 4, 5, 6, 7, 8, 9, 10, 11, 12, 13, 14, 15, 16, 17, 18, 19, 20, 21, 22, 23, 24, 25] rfl)
        replace hD : va_D A (wd_X7 AA CA uf um ut uh ug ur uw ux uy) := (hD.sub [0, 1, 2, 3, 4, 5, 6, 7, 8, 9, 10, 11, 12, 13, 14, 15, 16, 17, 18, 19, 20, 21, 22, 23, 24, 25] (by decide) rfl)
        generalize H1 = H at hP hS ⊢
        refine lv_istore (lv' := [(6, .int r_11), (5, .ref (AA 8 0)), (0, .ref (AA 0 0)), (1, .int x1), (2, .int x2), (3, .int x3), (4, .int x4)]) hx hb dX7_item_32 hl (by decide) rfl (fun ls hl => ?_)
        refine lv_iload hx hb dX7_item_34 (lv_at hl 0 rfl) ?_
        refine lv_if_eq (tgt := 42) hx hb dX7_item_36 (by decide) (fun hc_12 => ?_) (fun hc_12 => ?_)
        · replace h := h.1 hc_12
          refine lv_iload_n hx hb dX7_item_42 rfl (lv_at hl 5 rfl) ?_
          refine lv_aload hx hb dX7_item_43 (lv_at hl 1 rfl) ?_
          refine va_get (D := (dC, dI)) (ci := 3) (v := .int (uy.1 1)) (C := RX3) (T := TX3) (N := 4) hx hb hts hin_X3 hown hK hP 24 rfl rfl 1 (by decide) lk_1 (fun _ h9 => h9) rfl dX7_item_45 ?_
          have hFc := fl_freeN hS hA
          refine va_calli (va_runS (As := [.int x3, .int (uy.1 1)]) (rest := []) ⟨hx, hb, hml, hown, hts⟩ (c_X7_isAmong l H.size x3 (uy.1 1) _ h) (va_cwS 2 hts gX7_item_X7_isAmong rfl rfl rfl (by decide +kernel) ⟨Nat.le_of_ble_eq_true rfl, Nat.le_of_ble_eq_true rfl⟩) ⟨fun a U g mk q => by obtain ⟨q0, q1⟩ := q; exact ⟨q0, q1⟩, fun U hU hW => ⟨rfl, congrArg Array.size hU⟩⟩ rfl rfl hl.1 rfl (lv_room (Nat.le_of_ble_eq_true rfl)) dX7_item_48 ⟨Nat.zero_le _, Nat.zero_le _⟩) hS (fun q _ h => hFc q h) hFc (fun r_13 zz t H1 locs ht hvm hw hB hz1 hk1 hS => ?_)
          replace hP := fl_keep hP hk1
          replace h := hw
          generalize H1 = H at hP hS ⊢
          refine lv_if_ne (tgt := 57) hx hb dX7_item_51 (by decide) (fun hc_14 => ?_) (fun hc_14 => ?_)
          · replace h := h.1 hc_14
            refine lv_aload hx hb dX7_item_57 (lv_at hl 1 rfl) ?_
            refine lv_iload_n hx hb dX7_item_59 rfl (lv_at hl 5 rfl) ?_
            refine lv_iload hx hb dX7_item_60 (lv_at hl 6 rfl) ?_
            have hPc := hP.sub (ws' := (wd_X3 (AA 8) (CA 8) uy)) [24, 25] rfl
            have hDc := hD.sub (ws' := (wd_X3 (AA 8) (CA 8) uy)) [24, 25] (by decide) rfl
            have hKc := hK.sub (tys' := (ty_X3 (CA 8))) [16] rfl
            have hFc := va_free (wc := (wd_X3 (AA 8) (CA 8) uy)) hD hS hA [24, 25] rfl
            refine va_callv (va_runV (As := [.int x3, .int x4]) (rest := []) ⟨hx, hb, hml, hown, hts⟩ (c_X3_put l dC dI (AA 8) (CA 8) H.size uy x3 x4 _ h) (cwV 2 hts gX7_item_X3_put rfl rfl rfl (by decide +kernel) ⟨Nat.le_of_ble_eq_true rfl, Nat.le_of_ble_eq_true rfl⟩) ⟨fun a U g mk q => by obtain ⟨q0, q1, qP, qK, qD⟩ := q; exact ⟨q0, q1, qP, va_K.moved (u := U) (U := U.calling g mk a) (Vm.Alike.refl U.vm) qK, qD⟩, va_recv hKc hPc (ci := 3) (q0 := 0) rfl rfl, fun U hU hW => ⟨rfl, by rw [hU], by rw [hU]; exact hPc, va_K.moved hW.alike hKc, hDc.weaken (fun _ _ _ _ => trivial)⟩⟩ rfl rfl hl.1 rfl (lv_room (Nat.le_of_ble_eq_true rfl)) dX7_item_62 ⟨Nat.zero_le _, Nat.zero_le _⟩) hS (fun q _ h => hFc q h) hFc (fun zz t H1 locs ht hvm hw hB hz1 hk1 hS => ?_)
            obtain ⟨uy_15, rfl⟩ : ∃ z, z = zz := ⟨_, rfl⟩
            replace h := hw
            obtain ⟨hP1, hD1⟩ := hB
            rw [ht] at hP1
            obtain ⟨hP, hD⟩ := va_join (wr := [0, 1, 2, 3, 4, 5, 6, 7, 8, 9, 10, 11, 12, 13, 14, 15, 16, 17, 18, 19, 20, 21, 22, 23].filterMap (fun i => (wd_X7 AA CA uf um ut uh ug ur uw ux uy)[i]?)) (w1 := (wd_X3 (AA 8) (CA 8) uy_15)) hP hD [24, 25] [0, 1, 2, 3, 4, 5, 6, 7, 8, 9, 10, 11, 12, 13, 14, 15, 16, 17, 18, 19, 20, 21, 22, 23] rfl rfl (by decide) (by decide) hk1 hFc hP1 hD1
            replace hP : va_P (dC, dI) vwCl (wd_X7 AA CA uf um ut uh ug ur uw ux uy_15) H1 := (hP.sub [0, 1, 2, 3, 4, 5, 6, 7, 8, 9, 10, 11, 12, 13, 14, 15, 16, 17, 18, 19, 20, 21, 22, 23, 24, 25] rfl)
            replace hD : va_D A (wd_X7 AA CA uf um ut uh ug ur uw ux uy_15) := (hD.sub [0, 1, 2, 3, 4, 5, 6, 7, 8, 9, 10, 11, 12, 13, 14, 15, 16, 17, 18, 19, 20, 21, 22, 23, 24, 25] (by decide) rfl)
            generalize H1 = H at hP hS ⊢
            refine lv_iconst (v := 1) hx hb dX7_item_65 (by decide) ?_
            subst hQ
            exact W.iret (v := 1) hx hb hr (fun t ht hW => ⟨⟨_, (ux, uy_15), rfl, h, by rw [ht]; exact hP, hD⟩, hS.F ht⟩) hS.2.2 dX7_item_66
          · replace h := h.2 hc_14
            refine lv_bipush (v := (-13)) hx hb dX7_item_54 (by decide) ?_
            subst hQ
            exact W.iret (v := (-13)) hx hb hr (fun t ht hW => ⟨⟨_, (ux, uy), rfl, h, by rw [ht]; exact hP, hD⟩, hS.F ht⟩) hS.2.2 dX7_item_56
        · replace h := h.2 hc_12
          refine lv_iload hx hb dX7_item_39 (lv_at hl 0 rfl) ?_
          subst hQ
          exact W.iret (v := r_11) hx hb hr (fun t ht hW => ⟨⟨_, (ux, uy), rfl, h, by rw [ht]; exact hP, hD⟩, hS.F ht⟩) hS.2.2 dX7_item_41
    · replace h := h.2 hc_4
      refine lv_iconst (v := (-1)) hx hb dX7_item_16 (by decide) ?_
      subst hQ
      exact W.iret (v := (-1)) hx hb hr (fun t ht hW => ⟨⟨_, (ux, uy), rfl, h, by rw [ht]; exact hP, hD⟩, hS.F ht⟩) hS.2.2 dX7_item_17
