abbrev rm_X8_isSheet : Room := { frames := 1, cells := 0, slots := 0, locals := 22 }
set_option maxHeartbeats 4000000 in
set_option maxRecDepth 100000 in
theorem c_X8_isSheet (l : Launch) (sz : Nat) (x1 : Int32) (post : Int32 → Prop) (h : wp_X8_isSheet x1 post) : Met l yX8_isSheet wsX8_isSheet rm_X8_isSheet (va_Pc [.int x1] (fun U => U.heap.size = sz)) (va_Qi (fun (rr : Int32) (_ : Unit) => post rr) (fun (_ : Unit) (_ : State) => True) (va_A [] sz)) 0 0 (va_A [] sz) := by
  refine fl_ofW (cc := cX8_isSheet) (maxL := 1) (ret := (some .boolean)) (by decide) rfl ?_
  intro p e s m args below meth c s₁ Q B hml hv hQ
  obtain ⟨hargs, hsz⟩ := hv
  have hx := B.exec
  have hb := B.bytes
  have hr := B.returns
  have hts := atoms_spec (ws := wsX8_isSheet) B.pre
  have hown : s.vm.findClass RX8 = some m.cls := findClass_of_methodNamed B.named
  subst hsz
  generalize hAe : va_A [] s.heap.size = A at hQ
  have hA : ∀ q : Nat, s.heap.size ≤ q → A q := fun q h => by rw [← hAe]; exact Or.inr h
  have hS : va_S A s.heap s.heap [] := va_S.rf
  have hl := lv_entry ([.int x1]) (n := 1) (Nat.le_of_ble_eq_true rfl)
  refine W.eq (g2 := F0 m 0 ((lg_sl ([.int x1]) ++ List.replicate (1 - (lg_sl ([.int x1])).length) Slot.unset).toArray) []) (by rw [hargs]; exact lg_entry_eq m _ 1) ?_
  generalize (lg_sl ([.int x1]) ++ List.replicate (1 - (lg_sl ([.int x1])).length) Slot.unset).toArray = ls at hl ⊢
  have hl : lv_has ls 1 [(0, .int x1)] := hl
  suffices hstart : ∀ (H : Heap) (locs : List Loc) (ls : Array Slot), va_S A s.heap H locs → lv_has ls 1 [(0, .int x1)] → W p l e (headSpec wsX8_isSheet rm_X8_isSheet).room s m args below meth c H locs 0 0 Q (F0 m 0 ls []) from hstart _ _ _ hS hl
  clear hS
  intro H locs ls hS hl
  unfold wp_X8_isSheet at h
  refine lv_iload_n hx hb dX8_isSheet_0 rfl (lv_at hl 0 rfl) ?_
  refine lv_iconst (v := 0) hx hb dX8_isSheet_1 (by decide) ?_
  refine lv_iconst (v := 1) hx hb dX8_isSheet_2 (by decide) ?_
  have hFc := fl_freeN hS hA
  refine va_calli (va_runS (As := [.int x1, .int 0, .int 1]) (rest := []) ⟨hx, hb, hml, hown, hts⟩ (c_X8_in l H.size x1 0 1 _ h) (va_cwS 3 hts gX8_isSheet_X8_in rfl rfl rfl (by decide +kernel) ⟨Nat.le_of_ble_eq_true rfl, Nat.le_of_ble_eq_true rfl⟩) ⟨fun a U g mk q => by obtain ⟨q0, q1⟩ := q; exact ⟨q0, q1⟩, fun U hU hW => ⟨rfl, congrArg Array.size hU⟩⟩ rfl rfl hl.1 rfl (lv_room (Nat.le_of_ble_eq_true rfl)) dX8_isSheet_3 ⟨Nat.zero_le _, Nat.zero_le _⟩) hS (fun q _ h => hFc q h) hFc (fun r_1 zz t H1 locs ht hvm hw hB hz1 hk1 hS => ?_)
  replace h := hw
  generalize H1 = H at hS ⊢
  obtain ⟨hz, h⟩ := h
  subst hQ
  exact W.zret (v := r_1) hx hb hr hz (fun t ht hW => ⟨⟨_, (), rfl, h, trivial⟩, hS.F ht⟩) hS.2.2 dX8_isSheet_6
abbrev rm_X8_sheet : Room := { frames := 2, cells := 0, slots := 0, locals := 42 }
set_option maxHeartbeats 4000000 in
set_option maxRecDepth 100000 in
theorem c_X8_sheet (l : Launch) (dC : Nat → ClassId) (dI : Nat → Nat → Nat) (a : Nat → Nat) (ca : Nat → ClassId) (sz : Nat) (u : Ob) (x1 : Int32) (x2 : Int32) (x3 : Int32) (post : Int32 → Ob → Prop) (h : wp_X8_sheet u x1 x2 x3 post) : Met l yX8_sheet wsX8_sheet rm_X8_sheet (va_Pc [.ref (a 0), .int x1, .int x2, .int x3] (fun U => U.heap.size = sz ∧ va_P (dC, dI) vwCl (wd_X8 a ca u) U.heap ∧ va_K (dC, dI) vwCl (ty_X8 ca) U ∧ va_D (fun _ => True) (wd_X8 a ca u))) (va_Qi post (fun (zz : Ob) (t : State) => va_P (dC, dI) vwCl (wd_X8 a ca zz) t.heap ∧ va_D (va_A (wd_X8 a ca u) sz) (wd_X8 a ca zz)) (va_A (wd_X8 a ca u) sz)) 0 0 (va_A (wd_X8 a ca u) sz) := by
  refine fl_ofW (cc := cX8_sheet) (maxL := 5) (ret := (some .int)) (by decide) rfl ?_
  intro p e s m args below meth c s₁ Q B hml hv hQ
  obtain ⟨hargs, hsz, hP, hK, hD0⟩ := hv
  have hx := B.exec
  have hb := B.bytes
  have hr := B.returns
  have hts := atoms_spec (ws := wsX8_sheet) B.pre
  have hown : s.vm.findClass RX8 = some m.cls := findClass_of_methodNamed B.named
  subst hsz
  have hD := hD0.self (sz := s.heap.size)
  generalize hAe : va_A (wd_X8 a ca u) s.heap.size = A at hD hQ
  have hA : ∀ q : Nat, s.heap.size ≤ q → A q := fun q h => by rw [← hAe]; exact Or.inr h
  have hS : va_S A s.heap s.heap [] := va_S.rf
  have hl := lv_entry ([.ref (a 0), .int x1, .int x2, .int x3]) (n := 5) (Nat.le_of_ble_eq_true rfl)
  refine W.eq (g2 := F0 m 0 ((lg_sl ([.ref (a 0), .int x1, .int x2, .int x3]) ++ List.replicate (5 - (lg_sl ([.ref (a 0), .int x1, .int x2, .int x3])).length) Slot.unset).toArray) []) (by rw [hargs]; exact lg_entry_eq m _ 5) ?_
  generalize (lg_sl ([.ref (a 0), .int x1, .int x2, .int x3]) ++ List.replicate (5 - (lg_sl ([.ref (a 0), .int x1, .int x2, .int x3])).length) Slot.unset).toArray = ls at hl ⊢
  have hl : lv_has ls 5 [(0, .ref (a 0)), (1, .int x1), (2, .int x2), (3, .int x3)] := hl
  suffices hstart : ∀ (H : Heap) (locs : List Loc) (ls : Array Slot), va_P (dC, dI) vwCl (wd_X8 a ca u) H → va_D A (wd_X8 a ca u) → va_S A s.heap H locs → lv_has ls 5 [(0, .ref (a 0)), (1, .int x1), (2, .int x2), (3, .int x3)] → W p l e (headSpec wsX8_sheet rm_X8_sheet).room s m args below meth c H locs 0 0 Q (F0 m 0 ls []) from hstart _ _ _ hP hD hS hl
  clear hS hP hD hD0
  intro H locs ls hP hD hS hl
  have hin_X8 : ∀ w ∈ wsX80, w ∈ wsX8_sheet := by decide +kernel
  have lk_0 := hts (.fieldLink RX8 64 "ForgettingLinesModel" "lanes" "[I") (by decide +kernel)
  have lk_1 := hts (.fieldLink RX8 67 "ForgettingLinesModel" "longs" "[I") (by decide +kernel)
  have lk_2 := hts (.fieldLink RX8 70 "ForgettingLinesModel" "items" "[I") (by decide +kernel)
  unfold wp_X8_sheet at h
  refine lv_iload_n hx hb dX8_sheet_0 rfl (lv_at hl 1 rfl) ?_
  have hFc := fl_freeN hS hA
  refine va_calli (va_runS (As := [.int x1]) (rest := []) ⟨hx, hb, hml, hown, hts⟩ (c_X8_isSheet l H.size x1 _ h) (va_cwS 1 hts gX8_sheet_X8_isSheet rfl rfl rfl (by decide +kernel) ⟨Nat.le_of_ble_eq_true rfl, Nat.le_of_ble_eq_true rfl⟩) ⟨fun a U g mk q => by obtain ⟨q0, q1⟩ := q; exact ⟨q0, q1⟩, fun U hU hW => ⟨rfl, congrArg Array.size hU⟩⟩ rfl rfl hl.1 rfl (lv_room (Nat.le_of_ble_eq_true rfl)) dX8_sheet_1 ⟨Nat.zero_le _, Nat.zero_le _⟩) hS (fun q _ h => hFc q h) hFc (fun r_1 zz t H1 locs ht hvm hw hB hz1 hk1 hS => ?_)
  replace hP := fl_keep hP hk1
  replace h := hw
  generalize H1 = H at hP hS ⊢
  refine lv_if_eq (tgt := 22) hx hb dX8_sheet_4 (by decide) (fun hc_2 => ?_) (fun hc_2 => ?_)
  · replace h := h.1 hc_2
    refine lv_iconst (v := (-1)) hx hb dX8_sheet_22 (by decide) ?_
    subst hQ
    exact W.iret (v := (-1)) hx hb hr (fun t ht hW => ⟨⟨_, u, rfl, h, by rw [ht]; exact hP, hD⟩, hS.F ht⟩) hS.2.2 dX8_sheet_23
  · replace h := h.2 hc_2
    refine lv_iload_n hx hb dX8_sheet_7 rfl (lv_at hl 2 rfl) ?_
    refine lv_iconst (v := 0) hx hb dX8_sheet_8 (by decide) ?_
    refine lv_iconst (v := 1) hx hb dX8_sheet_9 (by decide) ?_
    have hFc := fl_freeN hS hA
    refine va_calli (va_runS (As := [.int x2, .int 0, .int 1]) (rest := []) ⟨hx, hb, hml, hown, hts⟩ (c_X8_in l H.size x2 0 1 _ h) (va_cwS 3 hts gX8_sheet_X8_in rfl rfl rfl (by decide +kernel) ⟨Nat.le_of_ble_eq_true rfl, Nat.le_of_ble_eq_true rfl⟩) ⟨fun a U g mk q => by obtain ⟨q0, q1⟩ := q; exact ⟨q0, q1⟩, fun U hU hW => ⟨rfl, congrArg Array.size hU⟩⟩ rfl rfl hl.1 rfl (lv_room (Nat.le_of_ble_eq_true rfl)) dX8_sheet_10 ⟨Nat.zero_le _, Nat.zero_le _⟩) hS (fun q _ h => hFc q h) hFc (fun r_3 zz t H1 locs ht hvm hw hB hz1 hk1 hS => ?_)
    replace hP := fl_keep hP hk1
    replace h := hw
    generalize H1 = H at hP hS ⊢
    refine lv_if_eq (tgt := 22) hx hb dX8_sheet_13 (by decide) (fun hc_4 => ?_) (fun hc_4 => ?_)
    · replace h := h.1 hc_4
      refine lv_iconst (v := (-1)) hx hb dX8_sheet_22 (by decide) ?_
      subst hQ
      exact W.iret (v := (-1)) hx hb hr (fun t ht hW => ⟨⟨_, u, rfl, h, by rw [ht]; exact hP, hD⟩, hS.F ht⟩) hS.2.2 dX8_sheet_23
    · replace h := h.2 hc_4
      refine lv_iload_n hx hb dX8_sheet_16 rfl (lv_at hl 3 rfl) ?_
      refine lv_bipush (v := 60) hx hb dX8_sheet_17 (by decide) ?_
      refine lv_icmp_le (tgt := 24) hx hb dX8_sheet_19 (by decide) (fun hc_5 => ?_) (fun hc_5 => ?_)
      · replace h := h.1 hc_5
        refine lv_iload_n hx hb dX8_sheet_24 rfl (lv_at hl 3 rfl) ?_
        refine lv_if_ge (tgt := 31) hx hb dX8_sheet_25 (by decide) (fun hc_6 => ?_) (fun hc_6 => ?_)
        · replace h := h.1 hc_6
          refine lv_aload_n hx hb dX8_sheet_31 rfl (lv_at hl 0 rfl) ?_
          refine va_get (D := (dC, dI)) (ci := 7) (v := .ref (a 23)) (C := RX8) (T := TX8) (N := 25) hx hb hts hin_X8 hown hK hP 0 rfl rfl 22 (by decide) lk_0 (fun _ h9 => h9) rfl dX8_sheet_32 ?_
          refine lv_iload_n hx hb dX8_sheet_35 rfl (lv_at hl 1 rfl) ?_
          refine lv_iload_n hx hb dX8_sheet_36 rfl (lv_at hl 2 rfl) ?_
          obtain ⟨hi_7, h⟩ := h
          refine va_iast (D := (dC, dI)) (cl := vwCl) (i := x1) hx hb hK hP hD hS 17 16 rfl rfl hi_7 dX8_sheet_37 (fun H locs hP hD hS => ?_)
          obtain ⟨u_8, eu_8⟩ : ∃ z : Ob, z = fs_a u 22 (upd (u.2.1 22) x1.toNatClampNeg x2) := ⟨_, rfl⟩
          replace h := h u_8 eu_8
          replace hP : va_P (dC, dI) vwCl (wd_X8 a ca u_8) H := by rw [eu_8]; exact hP
          replace hD : va_D A (wd_X8 a ca u_8) := by rw [eu_8]; exact hD
          refine lv_aload_n hx hb dX8_sheet_38 rfl (lv_at hl 0 rfl) ?_
          refine va_get (D := (dC, dI)) (ci := 7) (v := .ref (a 24)) (C := RX8) (T := TX8) (N := 25) hx hb hts hin_X8 hown hK hP 0 rfl rfl 23 (by decide) lk_1 (fun _ h9 => h9) rfl dX8_sheet_39 ?_
          refine lv_iload_n hx hb dX8_sheet_42 rfl (lv_at hl 1 rfl) ?_
          refine lv_iload_n hx hb dX8_sheet_43 rfl (lv_at hl 3 rfl) ?_
          obtain ⟨hi_9, h⟩ := h
          refine va_iast (D := (dC, dI)) (cl := vwCl) (i := x1) hx hb hK hP hD hS 18 17 rfl rfl hi_9 dX8_sheet_44 (fun H locs hP hD hS => ?_)
          obtain ⟨u_10, eu_10⟩ : ∃ z : Ob, z = fs_a u_8 23 (upd (u_8.2.1 23) x1.toNatClampNeg x3) := ⟨_, rfl⟩
          replace h := h u_10 eu_10
          replace hP : va_P (dC, dI) vwCl (wd_X8 a ca u_10) H := by rw [eu_10]; exact hP
          replace hD : va_D A (wd_X8 a ca u_10) := by rw [eu_10]; exact hD
          refine lv_iconst (v := 0) hx hb dX8_sheet_45 (by decide) ?_
          refine lv_istore (lv' := [(4, .int 0), (0, .ref (a 0)), (1, .int x1), (2, .int x2), (3, .int x3)]) hx hb dX8_sheet_46 hl (by decide) rfl (fun ls hl => ?_)
          obtain ⟨n_17, h⟩ := h
          refine lq2_ind (GG := (fun (v4_12 : Int32) (u_13 : Ob) => ∀ (H : Heap) (locs : List Loc) (ls : Array Slot), va_P (dC, dI) vwCl (wd_X8 a ca u_13) H → va_D A (wd_X8 a ca u_13) → va_S A s.heap H locs → lv_has ls 5 [(4, .int v4_12), (0, .ref (a 0)), (1, .int x1), (3, .int x3)] → W p l e (headSpec wsX8_sheet rm_X8_sheet).room s m args below meth c H locs 0 0 Q (F0 m 48 ls []))) (fun LL_11 ih_LL_11 v4_12 u_13 h H locs ls hP hD hS hl => ?_) n_17 _ _ h _ _ _ hP hD hS (lv_sub hl [0, 1, 2, 4] rfl)
          refine lv_iload hx hb dX8_sheet_48 (lv_at hl 0 rfl) ?_
          refine lv_bipush (v := 60) hx hb dX8_sheet_50 (by decide) ?_
          refine lv_icmp_ge (tgt := 74) hx hb dX8_sheet_52 (by decide) (fun hc_14 => ?_) (fun hc_14 => ?_)
          · replace h := h.1 hc_14
            refine lv_iload_n hx hb dX8_sheet_74 rfl (lv_at hl 3 rfl) ?_
            subst hQ
            exact W.iret (v := x3) hx hb hr (fun t ht hW => ⟨⟨_, u_13, rfl, h, by rw [ht]; exact hP, hD⟩, hS.F ht⟩) hS.2.2 dX8_sheet_75
          · replace h := h.2 hc_14
            refine lv_aload_n hx hb dX8_sheet_55 rfl (lv_at hl 1 rfl) ?_
            refine va_get (D := (dC, dI)) (ci := 7) (v := .ref (a 25)) (C := RX8) (T := TX8) (N := 25) hx hb hts hin_X8 hown hK hP 0 rfl rfl 24 (by decide) lk_2 (fun _ h9 => h9) rfl dX8_sheet_56 ?_
            refine lv_bipush (v := 60) hx hb dX8_sheet_59 (by decide) ?_
            refine lv_iload_n hx hb dX8_sheet_61 rfl (lv_at hl 2 rfl) ?_
            refine lv_imul hx hb dX8_sheet_62 ?_
            refine lv_iload hx hb dX8_sheet_63 (lv_at hl 0 rfl) ?_
            refine lv_iadd hx hb dX8_sheet_65 ?_
            refine lv_iconst (v := 0) hx hb dX8_sheet_66 (by decide) ?_
            obtain ⟨hi_15, h⟩ := h
            refine va_iast (D := (dC, dI)) (cl := vwCl) (i := ((60 * x1) + v4_12)) hx hb hK hP hD hS 19 18 rfl rfl hi_15 dX8_sheet_67 (fun H locs hP hD hS => ?_)
            obtain ⟨u_16, eu_16⟩ : ∃ z : Ob, z = fs_a u_13 24 (upd (u_13.2.1 24) ((60 * x1) + v4_12).toNatClampNeg 0) := ⟨_, rfl⟩
            replace h := h u_16 eu_16
            replace hP : va_P (dC, dI) vwCl (wd_X8 a ca u_16) H := by rw [eu_16]; exact hP
            replace hD : va_D A (wd_X8 a ca u_16) := by rw [eu_16]; exact hD
            refine lv_iinc (v := (v4_12 + 1)) (lv' := [(4, .int (v4_12 + 1)), (0, .ref (a 0)), (1, .int x1), (3, .int x3)]) hx hb dX8_sheet_68 hl (k := 0) rfl rfl (by decide) rfl (fun ls hl => ?_)
            refine lv_goto (tgt := 48) hx hb dX8_sheet_71 (by decide) ?_
            exact ih_LL_11 _ _ h _ _ _ hP hD hS (lv_sub hl [0, 1, 2, 3] rfl)
        · replace h := h.2 hc_6
          refine lv_bipush (v := (-14)) hx hb dX8_sheet_28 (by decide) ?_
          subst hQ
          exact W.iret (v := (-14)) hx hb hr (fun t ht hW => ⟨⟨_, u, rfl, h, by rw [ht]; exact hP, hD⟩, hS.F ht⟩) hS.2.2 dX8_sheet_30
      · replace h := h.2 hc_5
        refine lv_iconst (v := (-1)) hx hb dX8_sheet_22 (by decide) ?_
        subst hQ
        exact W.iret (v := (-1)) hx hb hr (fun t ht hW => ⟨⟨_, u, rfl, h, by rw [ht]; exact hP, hD⟩, hS.F ht⟩) hS.2.2 dX8_sheet_23
abbrev rm_X8_drop : Room := { frames := 2, cells := 0, slots := 0, locals := 42 }
set_option maxHeartbeats 4000000 in
set_option maxRecDepth 100000 in
theorem c_X8_drop (l : Launch) (dC : Nat → ClassId) (dI : Nat → Nat → Nat) (a : Nat → Nat) (ca : Nat → ClassId) (sz : Nat) (u : Ob) (x1 : Int32) (post : Int32 → Ob → Prop) (h : wp_X8_drop u x1 post) : Met l yX8_drop wsX8_drop rm_X8_drop (va_Pc [.ref (a 0), .int x1] (fun U => U.heap.size = sz ∧ va_P (dC, dI) vwCl (wd_X8 a ca u) U.heap ∧ va_K (dC, dI) vwCl (ty_X8 ca) U ∧ va_D (fun _ => True) (wd_X8 a ca u))) (va_Qi post (fun (zz : Ob) (t : State) => va_P (dC, dI) vwCl (wd_X8 a ca zz) t.heap ∧ va_D (va_A (wd_X8 a ca u) sz) (wd_X8 a ca zz)) (va_A (wd_X8 a ca u) sz)) 0 0 (va_A (wd_X8 a ca u) sz) := by
  refine fl_ofW (cc := cX8_drop) (maxL := 2) (ret := (some .int)) (by decide) rfl ?_
  intro p e s m args below meth c s₁ Q B hml hv hQ
  obtain ⟨hargs, hsz, hP, hK, hD0⟩ := hv
  have hx := B.exec
  have hb := B.bytes
  have hr := B.returns
  have hts := atoms_spec (ws := wsX8_drop) B.pre
  have hown : s.vm.findClass RX8 = some m.cls := findClass_of_methodNamed B.named
  subst hsz
  have hD := hD0.self (sz := s.heap.size)
  generalize hAe : va_A (wd_X8 a ca u) s.heap.size = A at hD hQ
  have hA : ∀ q : Nat, s.heap.size ≤ q → A q := fun q h => by rw [← hAe]; exact Or.inr h
  have hS : va_S A s.heap s.heap [] := va_S.rf
  have hl := lv_entry ([.ref (a 0), .int x1]) (n := 2) (Nat.le_of_ble_eq_true rfl)
  refine W.eq (g2 := F0 m 0 ((lg_sl ([.ref (a 0), .int x1]) ++ List.replicate (2 - (lg_sl ([.ref (a 0), .int x1])).length) Slot.unset).toArray) []) (by rw [hargs]; exact lg_entry_eq m _ 2) ?_
  generalize (lg_sl ([.ref (a 0), .int x1]) ++ List.replicate (2 - (lg_sl ([.ref (a 0), .int x1])).length) Slot.unset).toArray = ls at hl ⊢
  have hl : lv_has ls 2 [(0, .ref (a 0)), (1, .int x1)] := hl
  suffices hstart : ∀ (H : Heap) (locs : List Loc) (ls : Array Slot), va_P (dC, dI) vwCl (wd_X8 a ca u) H → va_D A (wd_X8 a ca u) → va_S A s.heap H locs → lv_has ls 2 [(0, .ref (a 0)), (1, .int x1)] → W p l e (headSpec wsX8_drop rm_X8_drop).room s m args below meth c H locs 0 0 Q (F0 m 0 ls []) from hstart _ _ _ hP hD hS hl
  clear hS hP hD hD0
  intro H locs ls hP hD hS hl
  have hin_X8 : ∀ w ∈ wsX80, w ∈ wsX8_drop := by decide +kernel
  have lk_0 := hts (.fieldLink RX8 64 "ForgettingLinesModel" "lanes" "[I") (by decide +kernel)
  have lk_1 := hts (.fieldLink RX8 67 "ForgettingLinesModel" "longs" "[I") (by decide +kernel)
  unfold wp_X8_drop at h
  refine lv_iload_n hx hb dX8_drop_0 rfl (lv_at hl 1 rfl) ?_
  have hFc := fl_freeN hS hA
  refine va_calli (va_runS (As := [.int x1]) (rest := []) ⟨hx, hb, hml, hown, hts⟩ (c_X8_isSheet l H.size x1 _ h) (va_cwS 1 hts gX8_drop_X8_isSheet rfl rfl rfl (by decide +kernel) ⟨Nat.le_of_ble_eq_true rfl, Nat.le_of_ble_eq_true rfl⟩) ⟨fun a U g mk q => by obtain ⟨q0, q1⟩ := q; exact ⟨q0, q1⟩, fun U hU hW => ⟨rfl, congrArg Array.size hU⟩⟩ rfl rfl hl.1 rfl (lv_room (Nat.le_of_ble_eq_true rfl)) dX8_drop_1 ⟨Nat.zero_le _, Nat.zero_le _⟩) hS (fun q _ h => hFc q h) hFc (fun r_1 zz t H1 locs ht hvm hw hB hz1 hk1 hS => ?_)
  replace hP := fl_keep hP hk1
  replace h := hw
  generalize H1 = H at hP hS ⊢
  refine lv_if_ne (tgt := 9) hx hb dX8_drop_4 (by decide) (fun hc_2 => ?_) (fun hc_2 => ?_)
  · replace h := h.1 hc_2
    refine lv_aload_n hx hb dX8_drop_9 rfl (lv_at hl 0 rfl) ?_
    refine va_get (D := (dC, dI)) (ci := 7) (v := .ref (a 23)) (C := RX8) (T := TX8) (N := 25) hx hb hts hin_X8 hown hK hP 0 rfl rfl 22 (by decide) lk_0 (fun _ h9 => h9) rfl dX8_drop_10 ?_
    refine lv_iload_n hx hb dX8_drop_13 rfl (lv_at hl 1 rfl) ?_
    obtain ⟨hi_3, h⟩ := h
    refine va_iald (D := (dC, dI)) (cl := vwCl) (i := x1) hx hb hK hP 17 16 rfl rfl hi_3 dX8_drop_14 ?_
    refine lv_if_ge (tgt := 21) hx hb dX8_drop_15 (by decide) (fun hc_4 => ?_) (fun hc_4 => ?_)
    · replace h := h.1 hc_4
      refine lv_aload_n hx hb dX8_drop_21 rfl (lv_at hl 0 rfl) ?_
      refine va_get (D := (dC, dI)) (ci := 7) (v := .ref (a 23)) (C := RX8) (T := TX8) (N := 25) hx hb hts hin_X8 hown hK hP 0 rfl rfl 22 (by decide) lk_0 (fun _ h9 => h9) rfl dX8_drop_22 ?_
      refine lv_iload_n hx hb dX8_drop_25 rfl (lv_at hl 1 rfl) ?_
      refine lv_iconst (v := (-1)) hx hb dX8_drop_26 (by decide) ?_
      obtain ⟨hi_5, h⟩ := h
      refine va_iast (D := (dC, dI)) (cl := vwCl) (i := x1) hx hb hK hP hD hS 17 16 rfl rfl hi_5 dX8_drop_27 (fun H locs hP hD hS => ?_)
      obtain ⟨u_6, eu_6⟩ : ∃ z : Ob, z = fs_a u 22 (upd (u.2.1 22) x1.toNatClampNeg (-1)) := ⟨_, rfl⟩
      replace h := h u_6 eu_6
      replace hP : va_P (dC, dI) vwCl (wd_X8 a ca u_6) H := by rw [eu_6]; exact hP
      replace hD : va_D A (wd_X8 a ca u_6) := by rw [eu_6]; exact hD
      refine lv_aload_n hx hb dX8_drop_28 rfl (lv_at hl 0 rfl) ?_
      refine va_get (D := (dC, dI)) (ci := 7) (v := .ref (a 24)) (C := RX8) (T := TX8) (N := 25) hx hb hts hin_X8 hown hK hP 0 rfl rfl 23 (by decide) lk_1 (fun _ h9 => h9) rfl dX8_drop_29 ?_
      refine lv_iload_n hx hb dX8_drop_32 rfl (lv_at hl 1 rfl) ?_
      obtain ⟨hi_7, h⟩ := h
      refine va_iald (D := (dC, dI)) (cl := vwCl) (i := x1) hx hb hK hP 18 17 rfl rfl hi_7 dX8_drop_33 ?_
      subst hQ
      exact W.iret (v := (u_6.2.1 23 x1.toNatClampNeg)) hx hb hr (fun t ht hW => ⟨⟨_, u_6, rfl, h, by rw [ht]; exact hP, hD⟩, hS.F ht⟩) hS.2.2 dX8_drop_34
    · replace h := h.2 hc_4
      refine lv_bipush (v := (-11)) hx hb dX8_drop_18 (by decide) ?_
      subst hQ
      exact W.iret (v := (-11)) hx hb hr (fun t ht hW => ⟨⟨_, u, rfl, h, by rw [ht]; exact hP, hD⟩, hS.F ht⟩) hS.2.2 dX8_drop_20
  · replace h := h.2 hc_2
    refine lv_iconst (v := (-1)) hx hb dX8_drop_7 (by decide) ?_
    subst hQ
    exact W.iret (v := (-1)) hx hb hr (fun t ht hW => ⟨⟨_, u, rfl, h, by rw [ht]; exact hP, hD⟩, hS.F ht⟩) hS.2.2 dX8_drop_8
abbrev rm_X8_item : Room := { frames := 2, cells := 0, slots := 0, locals := 42 }
set_option maxHeartbeats 4000000 in
set_option maxRecDepth 100000 in
theorem c_X8_item (l : Launch) (dC : Nat → ClassId) (dI : Nat → Nat → Nat) (a : Nat → Nat) (ca : Nat → ClassId) (sz : Nat) (u : Ob) (x1 : Int32) (x2 : Int32) (x3 : Int32) (x4 : Int32) (post : Int32 → Ob → Prop) (h : wp_X8_item u x1 x2 x3 x4 post) : Met l yX8_item wsX8_item rm_X8_item (va_Pc [.ref (a 0), .int x1, .int x2, .int x3, .int x4] (fun U => U.heap.size = sz ∧ va_P (dC, dI) vwCl (wd_X8 a ca u) U.heap ∧ va_K (dC, dI) vwCl (ty_X8 ca) U ∧ va_D (fun _ => True) (wd_X8 a ca u))) (va_Qi post (fun (zz : Ob) (t : State) => va_P (dC, dI) vwCl (wd_X8 a ca zz) t.heap ∧ va_D (va_A (wd_X8 a ca u) sz) (wd_X8 a ca zz)) (va_A (wd_X8 a ca u) sz)) 0 0 (va_A (wd_X8 a ca u) sz) := by
  refine fl_ofW (cc := cX8_item) (maxL := 5) (ret := (some .int)) (by decide) rfl ?_
  intro p e s m args below meth c s₁ Q B hml hv hQ
  obtain ⟨hargs, hsz, hP, hK, hD0⟩ := hv
  have hx := B.exec
  have hb := B.bytes
  have hr := B.returns
  have hts := atoms_spec (ws := wsX8_item) B.pre
  have hown : s.vm.findClass RX8 = some m.cls := findClass_of_methodNamed B.named
  subst hsz
  have hD := hD0.self (sz := s.heap.size)
  generalize hAe : va_A (wd_X8 a ca u) s.heap.size = A at hD hQ
  have hA : ∀ q : Nat, s.heap.size ≤ q → A q := fun q h => by rw [← hAe]; exact Or.inr h
  have hS : va_S A s.heap s.heap [] := va_S.rf
  have hl := lv_entry ([.ref (a 0), .int x1, .int x2, .int x3, .int x4]) (n := 5) (Nat.le_of_ble_eq_true rfl)
  refine W.eq (g2 := F0 m 0 ((lg_sl ([.ref (a 0), .int x1, .int x2, .int x3, .int x4]) ++ List.replicate (5 - (lg_sl ([.ref (a 0), .int x1, .int x2, .int x3, .int x4])).length) Slot.unset).toArray) []) (by rw [hargs]; exact lg_entry_eq m _ 5) ?_
  generalize (lg_sl ([.ref (a 0), .int x1, .int x2, .int x3, .int x4]) ++ List.replicate (5 - (lg_sl ([.ref (a 0), .int x1, .int x2, .int x3, .int x4])).length) Slot.unset).toArray = ls at hl ⊢
  have hl : lv_has ls 5 [(0, .ref (a 0)), (1, .int x1), (2, .int x2), (3, .int x3), (4, .int x4)] := hl
  suffices hstart : ∀ (H : Heap) (locs : List Loc) (ls : Array Slot), va_P (dC, dI) vwCl (wd_X8 a ca u) H → va_D A (wd_X8 a ca u) → va_S A s.heap H locs → lv_has ls 5 [(0, .ref (a 0)), (1, .int x1), (2, .int x2), (3, .int x3), (4, .int x4)] → W p l e (headSpec wsX8_item rm_X8_item).room s m args below meth c H locs 0 0 Q (F0 m 0 ls []) from hstart _ _ _ hP hD hS hl
  clear hS hP hD hD0
  intro H locs ls hP hD hS hl
  have hin_X8 : ∀ w ∈ wsX80, w ∈ wsX8_item := by decide +kernel
  have lk_0 := hts (.fieldLink RX8 64 "ForgettingLinesModel" "lanes" "[I") (by decide +kernel)
  have lk_1 := hts (.fieldLink RX8 67 "ForgettingLinesModel" "longs" "[I") (by decide +kernel)
  have lk_2 := hts (.fieldLink RX8 70 "ForgettingLinesModel" "items" "[I") (by decide +kernel)
  unfold wp_X8_item at h
  refine lv_iload_n hx hb dX8_item_0 rfl (lv_at hl 1 rfl) ?_
  have hFc := fl_freeN hS hA
  refine va_calli (va_runS (As := [.int x1]) (rest := []) ⟨hx, hb, hml, hown, hts⟩ (c_X8_isSheet l H.size x1 _ h) (va_cwS 1 hts gX8_item_X8_isSheet rfl rfl rfl (by decide +kernel) ⟨Nat.le_of_ble_eq_true rfl, Nat.le_of_ble_eq_true rfl⟩) ⟨fun a U g mk q => by obtain ⟨q0, q1⟩ := q; exact ⟨q0, q1⟩, fun U hU hW => ⟨rfl, congrArg Array.size hU⟩⟩ rfl rfl hl.1 rfl (lv_room (Nat.le_of_ble_eq_true rfl)) dX8_item_1 ⟨Nat.zero_le _, Nat.zero_le _⟩) hS (fun q _ h => hFc q h) hFc (fun r_1 zz t H1 locs ht hvm hw hB hz1 hk1 hS => ?_)
  replace hP := fl_keep hP hk1
  replace h := hw
  generalize H1 = H at hP hS ⊢
  refine lv_if_eq (tgt := 16) hx hb dX8_item_4 (by decide) (fun hc_2 => ?_) (fun hc_2 => ?_)
  · replace h := h.1 hc_2
    refine lv_iconst (v := (-1)) hx hb dX8_item_16 (by decide) ?_
    subst hQ
    exact W.iret (v := (-1)) hx hb hr (fun t ht hW => ⟨⟨_, u, rfl, h, by rw [ht]; exact hP, hD⟩, hS.F ht⟩) hS.2.2 dX8_item_17
  · replace h := h.2 hc_2
    refine lv_iload_n hx hb dX8_item_7 rfl (lv_at hl 2 rfl) ?_
    refine lv_iconst (v := 0) hx hb dX8_item_8 (by decide) ?_
    refine lv_iconst (v := 1) hx hb dX8_item_9 (by decide) ?_
    have hFc := fl_freeN hS hA
    refine va_calli (va_runS (As := [.int x2, .int 0, .int 1]) (rest := []) ⟨hx, hb, hml, hown, hts⟩ (c_X8_in l H.size x2 0 1 _ h) (va_cwS 3 hts gX8_item_X8_in rfl rfl rfl (by decide +kernel) ⟨Nat.le_of_ble_eq_true rfl, Nat.le_of_ble_eq_true rfl⟩) ⟨fun a U g mk q => by obtain ⟨q0, q1⟩ := q; exact ⟨q0, q1⟩, fun U hU hW => ⟨rfl, congrArg Array.size hU⟩⟩ rfl rfl hl.1 rfl (lv_room (Nat.le_of_ble_eq_true rfl)) dX8_item_10 ⟨Nat.zero_le _, Nat.zero_le _⟩) hS (fun q _ h => hFc q h) hFc (fun r_3 zz t H1 locs ht hvm hw hB hz1 hk1 hS => ?_)
    replace hP := fl_keep hP hk1
    replace h := hw
    generalize H1 = H at hP hS ⊢
    refine lv_if_ne (tgt := 18) hx hb dX8_item_13 (by decide) (fun hc_4 => ?_) (fun hc_4 => ?_)
    · replace h := h.1 hc_4
      refine lv_aload_n hx hb dX8_item_18 rfl (lv_at hl 0 rfl) ?_
      refine va_get (D := (dC, dI)) (ci := 7) (v := .ref (a 23)) (C := RX8) (T := TX8) (N := 25) hx hb hts hin_X8 hown hK hP 0 rfl rfl 22 (by decide) lk_0 (fun _ h9 => h9) rfl dX8_item_19 ?_
      refine lv_iload_n hx hb dX8_item_22 rfl (lv_at hl 1 rfl) ?_
      obtain ⟨hi_5, h⟩ := h
      refine va_iald (D := (dC, dI)) (cl := vwCl) (i := x1) hx hb hK hP 17 16 rfl rfl hi_5 dX8_item_23 ?_
      refine lv_if_ge (tgt := 30) hx hb dX8_item_24 (by decide) (fun hc_6 => ?_) (fun hc_6 => ?_)
      · replace h := h.1 hc_6
        refine lv_aload_n hx hb dX8_item_30 rfl (lv_at hl 0 rfl) ?_
        refine va_get (D := (dC, dI)) (ci := 7) (v := .ref (a 23)) (C := RX8) (T := TX8) (N := 25) hx hb hts hin_X8 hown hK hP 0 rfl rfl 22 (by decide) lk_0 (fun _ h9 => h9) rfl dX8_item_31 ?_
        refine lv_iload_n hx hb dX8_item_34 rfl (lv_at hl 1 rfl) ?_
        obtain ⟨hi_7, h⟩ := h
        refine va_iald (D := (dC, dI)) (cl := vwCl) (i := x1) hx hb hK hP 17 16 rfl rfl hi_7 dX8_item_35 ?_
        refine lv_iload_n hx hb dX8_item_36 rfl (lv_at hl 2 rfl) ?_
        refine lv_icmp_eq (tgt := 43) hx hb dX8_item_37 (by decide) (fun hc_8 => ?_) (fun hc_8 => ?_)
        · replace h := h.1 hc_8
          refine lv_iload_n hx hb dX8_item_43 rfl (lv_at hl 3 rfl) ?_
          refine lv_iconst (v := 0) hx hb dX8_item_44 (by decide) ?_
          refine lv_aload_n hx hb dX8_item_45 rfl (lv_at hl 0 rfl) ?_
          refine va_get (D := (dC, dI)) (ci := 7) (v := .ref (a 24)) (C := RX8) (T := TX8) (N := 25) hx hb hts hin_X8 hown hK hP 0 rfl rfl 23 (by decide) lk_1 (fun _ h9 => h9) rfl dX8_item_46 ?_
          refine lv_iload_n hx hb dX8_item_49 rfl (lv_at hl 1 rfl) ?_
          obtain ⟨hi_9, h⟩ := h
          refine va_iald (D := (dC, dI)) (cl := vwCl) (i := x1) hx hb hK hP 18 17 rfl rfl hi_9 dX8_item_50 ?_
          refine lv_iconst (v := 1) hx hb dX8_item_51 (by decide) ?_
          refine lv_isub hx hb dX8_item_52 ?_
          have hFc := fl_freeN hS hA
          refine va_calli (va_runS (As := [.int x3, .int 0, .int ((u.2.1 23 x1.toNatClampNeg) - 1)]) (rest := []) ⟨hx, hb, hml, hown, hts⟩ (c_X8_in l H.size x3 0 ((u.2.1 23 x1.toNatClampNeg) - 1) _ h) (va_cwS 3 hts gX8_item_X8_in rfl rfl rfl (by decide +kernel) ⟨Nat.le_of_ble_eq_true rfl, Nat.le_of_ble_eq_true rfl⟩) ⟨fun a U g mk q => by obtain ⟨q0, q1⟩ := q; exact ⟨q0, q1⟩, fun U hU hW => ⟨rfl, congrArg Array.size hU⟩⟩ rfl rfl hl.1 rfl (lv_room (Nat.le_of_ble_eq_true rfl)) dX8_item_53 ⟨Nat.zero_le _, Nat.zero_le _⟩) hS (fun q _ h => hFc q h) hFc (fun r_10 zz t H1 locs ht hvm hw hB hz1 hk1 hS => ?_)
          replace hP := fl_keep hP hk1
          replace h := hw
          generalize H1 = H at hP hS ⊢
          refine lv_if_ne (tgt := 62) hx hb dX8_item_56 (by decide) (fun hc_11 => ?_) (fun hc_11 => ?_)
          · replace h := h.1 hc_11
            refine lv_aload_n hx hb dX8_item_62 rfl (lv_at hl 0 rfl) ?_
            refine va_get (D := (dC, dI)) (ci := 7) (v := .ref (a 25)) (C := RX8) (T := TX8) (N := 25) hx hb hts hin_X8 hown hK hP 0 rfl rfl 24 (by decide) lk_2 (fun _ h9 => h9) rfl dX8_item_63 ?_
            refine lv_bipush (v := 60) hx hb dX8_item_66 (by decide) ?_
            refine lv_iload_n hx hb dX8_item_68 rfl (lv_at hl 1 rfl) ?_
            refine lv_imul hx hb dX8_item_69 ?_
            refine lv_iload_n hx hb dX8_item_70 rfl (lv_at hl 3 rfl) ?_
            refine lv_iadd hx hb dX8_item_71 ?_
            refine lv_iload_n hx hb dX8_item_72 rfl (lv_at hl 2 rfl) ?_
            refine jn1_ind (GG := (fun (w_13 : Int32) => ∀ (H : Heap) (locs : List Loc) (ls : Array Slot), va_P (dC, dI) vwCl (wd_X8 a ca u) H → va_D A (wd_X8 a ca u) → va_S A s.heap H locs → lv_has ls 5 [] → W p l e (headSpec wsX8_item rm_X8_item).room s m args below meth c H locs 0 0 Q (F0 m 84 ls [.int w_13, .int ((60 * x1) + x3), .ref (a 25)]))) h (fun w_13 h H locs ls hP hD hS hl => ?_) (fun JJ_12 ih_JJ_12 h => ?_)
            · obtain ⟨hi_14, h⟩ := h
              refine va_iast (D := (dC, dI)) (cl := vwCl) (i := ((60 * x1) + x3)) hx hb hK hP hD hS 19 18 rfl rfl hi_14 dX8_item_84 (fun H locs hP hD hS => ?_)
              obtain ⟨u_15, eu_15⟩ : ∃ z : Ob, z = fs_a u 24 (upd (u.2.1 24) ((60 * x1) + x3).toNatClampNeg w_13) := ⟨_, rfl⟩
              replace h := h u_15 eu_15
              replace hP : va_P (dC, dI) vwCl (wd_X8 a ca u_15) H := by rw [eu_15]; exact hP
              replace hD : va_D A (wd_X8 a ca u_15) := by rw [eu_15]; exact hD
              refine lv_iconst (v := 1) hx hb dX8_item_85 (by decide) ?_
              subst hQ
              exact W.iret (v := 1) hx hb hr (fun t ht hW => ⟨⟨_, u_15, rfl, h, by rw [ht]; exact hP, hD⟩, hS.F ht⟩) hS.2.2 dX8_item_86
            · refine lv_if_ne (tgt := 82) hx hb dX8_item_73 (by decide) (fun hc_16 => ?_) (fun hc_16 => ?_)
              · replace h := h.1 hc_16
                refine lv_iload hx hb dX8_item_82 (lv_at hl 4 rfl) ?_
                exact ih_JJ_12 _ h _ _ _ hP hD hS (lv_sub hl [] rfl)
              · replace h := h.2 hc_16
                refine lv_iload hx hb dX8_item_76 (lv_at hl 4 rfl) ?_
                refine lv_i2b (v := (Int8.toInt32 (Int32.toInt8 x4))) hx hb dX8_item_78 rfl ?_
                refine lv_goto (tgt := 84) hx hb dX8_item_79 (by decide) ?_
                exact ih_JJ_12 _ h _ _ _ hP hD hS (lv_sub hl [] rfl)
          · replace h := h.2 hc_11
            refine lv_bipush (v := (-13)) hx hb dX8_item_59 (by decide) ?_
            subst hQ
            exact W.iret (v := (-13)) hx hb hr (fun t ht hW => ⟨⟨_, u, rfl, h, by rw [ht]; exact hP, hD⟩, hS.F ht⟩) hS.2.2 dX8_item_61
        · replace h := h.2 hc_8
          refine lv_bipush (v := (-12)) hx hb dX8_item_40 (by decide) ?_
          subst hQ
          exact W.iret (v := (-12)) hx hb hr (fun t ht hW => ⟨⟨_, u, rfl, h, by rw [ht]; exact hP, hD⟩, hS.F ht⟩) hS.2.2 dX8_item_42
      · replace h := h.2 hc_6
        refine lv_bipush (v := (-11)) hx hb dX8_item_27 (by decide) ?_
        subst hQ
        exact W.iret (v := (-11)) hx hb hr (fun t ht hW => ⟨⟨_, u, rfl, h, by rw [ht]; exact hP, hD⟩, hS.F ht⟩) hS.2.2 dX8_item_29
    · replace h := h.2 hc_4
      refine lv_iconst (v := (-1)) hx hb dX8_item_16 (by decide) ?_
      subst hQ
      exact W.iret (v := (-1)) hx hb hr (fun t ht hW => ⟨⟨_, u, rfl, h, by rw [ht]; exact hP, hD⟩, hS.F ht⟩) hS.2.2 dX8_item_17
abbrev rm_X8_arcs : Room := { frames := 3, cells := 0, slots := 0, locals := 69 }
set_option maxHeartbeats 4000000 in
set_option maxRecDepth 100000 in
theorem c_X8_arcs (l : Launch) (dC : Nat → ClassId) (dI : Nat → Nat → Nat) (a : Nat → Nat) (ca : Nat → ClassId) (sz : Nat) (u : Ob) (x1 : Int32) (x2 : Int32) (x3 : Int32) (x4 : Int32) (post : Int32 → Ob → Prop) (h : wp_X8_arcs u x1 x2 x3 x4 post) : Met l yX8_arcs wsX8_arcs rm_X8_arcs (va_Pc [.ref (a 0), .int x1, .int x2, .int x3, .int x4] (fun U => U.heap.size = sz ∧ va_P (dC, dI) vwCl (wd_X8 a ca u) U.heap ∧ va_K (dC, dI) vwCl (ty_X8 ca) U ∧ va_D (fun _ => True) (wd_X8 a ca u))) (va_Qi post (fun (zz : Ob) (t : State) => va_P (dC, dI) vwCl (wd_X8 a ca zz) t.heap ∧ va_D (va_A (wd_X8 a ca u) sz) (wd_X8 a ca zz)) (va_A (wd_X8 a ca u) sz)) 0 0 (va_A (wd_X8 a ca u) sz) := by
  refine fl_ofW (cc := cX8_arcs) (maxL := 7) (ret := (some .int)) (by decide) rfl ?_
  intro p e s m args below meth c s₁ Q B hml hv hQ
  obtain ⟨hargs, hsz, hP, hK, hD0⟩ := hv
  have hx := B.exec
  have hb := B.bytes
  have hr := B.returns
  have hts := atoms_spec (ws := wsX8_arcs) B.pre
  have hown : s.vm.findClass RX8 = some m.cls := findClass_of_methodNamed B.named
  subst hsz
  have hD := hD0.self (sz := s.heap.size)
  generalize hAe : va_A (wd_X8 a ca u) s.heap.size = A at hD hQ
  have hA : ∀ q : Nat, s.heap.size ≤ q → A q := fun q h => by rw [← hAe]; exact Or.inr h
  have hS : va_S A s.heap s.heap [] := va_S.rf
  have hl := lv_entry ([.ref (a 0), .int x1, .int x2, .int x3, .int x4]) (n := 7) (Nat.le_of_ble_eq_true rfl)
  refine W.eq (g2 := F0 m 0 ((lg_sl ([.ref (a 0), .int x1, .int x2, .int x3, .int x4]) ++ List.replicate (7 - (lg_sl ([.ref (a 0), .int x1, .int x2, .int x3, .int x4])).length) Slot.unset).toArray) []) (by rw [hargs]; exact lg_entry_eq m _ 7) ?_
  generalize (lg_sl ([.ref (a 0), .int x1, .int x2, .int x3, .int x4]) ++ List.replicate (7 - (lg_sl ([.ref (a 0), .int x1, .int x2, .int x3, .int x4])).length) Slot.unset).toArray = ls at hl ⊢
  have hl : lv_has ls 7 [(0, .ref (a 0)), (1, .int x1), (2, .int x2), (3, .int x3), (4, .int x4)] := hl
  suffices hstart : ∀ (H : Heap) (locs : List Loc) (ls : Array Slot), va_P (dC, dI) vwCl (wd_X8 a ca u) H → va_D A (wd_X8 a ca u) → va_S A s.heap H locs → lv_has ls 7 [(0, .ref (a 0)), (1, .int x1), (2, .int x2), (3, .int x3), (4, .int x4)] → W p l e (headSpec wsX8_arcs rm_X8_arcs).room s m args below meth c H locs 0 0 Q (F0 m 0 ls []) from hstart _ _ _ hP hD hS hl
  clear hS hP hD hD0
  intro H locs ls hP hD hS hl
  have hin_X8 : ∀ w ∈ wsX80, w ∈ wsX8_arcs := by decide +kernel
  have lk_0 := hts (.fieldLink RX8 64 "ForgettingLinesModel" "lanes" "[I") (by decide +kernel)
  have lk_1 := hts (.fieldLink RX8 67 "ForgettingLinesModel" "longs" "[I") (by decide +kernel)
  have lk_2 := hts (.fieldLink RX8 77 "ForgettingLinesModel" "arcs" "I") (by decide +kernel)
  have lk_3 := hts (.fieldLink RX8 70 "ForgettingLinesModel" "items" "[I") (by decide +kernel)
  unfold wp_X8_arcs at h
  refine lv_iload_n hx hb dX8_arcs_0 rfl (lv_at hl 1 rfl) ?_
  have hFc := fl_freeN hS hA
  refine va_calli (va_runS (As := [.int x1]) (rest := []) ⟨hx, hb, hml, hown, hts⟩ (c_X8_isSheet l H.size x1 _ h) (va_cwS 1 hts gX8_arcs_X8_isSheet rfl rfl rfl (by decide +kernel) ⟨Nat.le_of_ble_eq_true rfl, Nat.le_of_ble_eq_true rfl⟩) ⟨fun a U g mk q => by obtain ⟨q0, q1⟩ := q; exact ⟨q0, q1⟩, fun U hU hW => ⟨rfl, congrArg Array.size hU⟩⟩ rfl rfl hl.1 rfl (lv_room (Nat.le_of_ble_eq_true rfl)) dX8_arcs_1 ⟨Nat.zero_le _, Nat.zero_le _⟩) hS (fun q _ h => hFc q h) hFc (fun r_1 zz t H1 locs ht hvm hw hB hz1 hk1 hS => ?_)
  replace hP := fl_keep hP hk1
  replace h := hw
  generalize H1 = H at hP hS ⊢
  refine lv_if_eq (tgt := 27) hx hb dX8_arcs_4 (by decide) (fun hc_2 => ?_) (fun hc_2 => ?_)
  · replace h := h.1 hc_2
    refine lv_iconst (v := (-1)) hx hb dX8_arcs_27 (by decide) ?_
    subst hQ
    exact W.iret (v := (-1)) hx hb hr (fun t ht hW => ⟨⟨_, u, rfl, h, by rw [ht]; exact hP, hD⟩, hS.F ht⟩) hS.2.2 dX8_arcs_28
  · replace h := h.2 hc_2
    refine lv_iload_n hx hb dX8_arcs_7 rfl (lv_at hl 2 rfl) ?_
    refine lv_iconst (v := 0) hx hb dX8_arcs_8 (by decide) ?_
    refine lv_iconst (v := 1) hx hb dX8_arcs_9 (by decide) ?_
    have hFc := fl_freeN hS hA
    refine va_calli (va_runS (As := [.int x2, .int 0, .int 1]) (rest := []) ⟨hx, hb, hml, hown, hts⟩ (c_X8_in l H.size x2 0 1 _ h) (va_cwS 3 hts gX8_arcs_X8_in rfl rfl rfl (by decide +kernel) ⟨Nat.le_of_ble_eq_true rfl, Nat.le_of_ble_eq_true rfl⟩) ⟨fun a U g mk q => by obtain ⟨q0, q1⟩ := q; exact ⟨q0, q1⟩, fun U hU hW => ⟨rfl, congrArg Array.size hU⟩⟩ rfl rfl hl.1 rfl (lv_room (Nat.le_of_ble_eq_true rfl)) dX8_arcs_10 ⟨Nat.zero_le _, Nat.zero_le _⟩) hS (fun q _ h => hFc q h) hFc (fun r_3 zz t H1 locs ht hvm hw hB hz1 hk1 hS => ?_)
    replace hP := fl_keep hP hk1
    replace h := hw
    generalize H1 = H at hP hS ⊢
    refine lv_if_eq (tgt := 27) hx hb dX8_arcs_13 (by decide) (fun hc_4 => ?_) (fun hc_4 => ?_)
    · replace h := h.1 hc_4
      refine lv_iconst (v := (-1)) hx hb dX8_arcs_27 (by decide) ?_
      subst hQ
      exact W.iret (v := (-1)) hx hb hr (fun t ht hW => ⟨⟨_, u, rfl, h, by rw [ht]; exact hP, hD⟩, hS.F ht⟩) hS.2.2 dX8_arcs_28
    · replace h := h.2 hc_4
      refine lv_iload hx hb dX8_arcs_16 (lv_at hl 4 rfl) ?_
      refine lv_iconst (v := 0) hx hb dX8_arcs_18 (by decide) ?_
      refine lv_bipush (v := 12) hx hb dX8_arcs_19 (by decide) ?_
      have hFc := fl_freeN hS hA
      refine va_calli (va_runS (As := [.int x4, .int 0, .int 12]) (rest := []) ⟨hx, hb, hml, hown, hts⟩ (c_X8_in l H.size x4 0 12 _ h) (va_cwS 3 hts gX8_arcs_X8_in rfl rfl rfl (by decide +kernel) ⟨Nat.le_of_ble_eq_true rfl, Nat.le_of_ble_eq_true rfl⟩) ⟨fun a U g mk q => by obtain ⟨q0, q1⟩ := q; exact ⟨q0, q1⟩, fun U hU hW => ⟨rfl, congrArg Array.size hU⟩⟩ rfl rfl hl.1 rfl (lv_room (Nat.le_of_ble_eq_true rfl)) dX8_arcs_21 ⟨Nat.zero_le _, Nat.zero_le _⟩) hS (fun q _ h => hFc q h) hFc (fun r_5 zz t H1 locs ht hvm hw hB hz1 hk1 hS => ?_)
      replace hP := fl_keep hP hk1
      replace h := hw
      generalize H1 = H at hP hS ⊢
      refine lv_if_ne (tgt := 29) hx hb dX8_arcs_24 (by decide) (fun hc_6 => ?_) (fun hc_6 => ?_)
      · replace h := h.1 hc_6
        refine lv_aload_n hx hb dX8_arcs_29 rfl (lv_at hl 0 rfl) ?_
        refine va_get (D := (dC, dI)) (ci := 7) (v := .ref (a 23)) (C := RX8) (T := TX8) (N := 25) hx hb hts hin_X8 hown hK hP 0 rfl rfl 22 (by decide) lk_0 (fun _ h9 => h9) rfl dX8_arcs_30 ?_
        refine lv_iload_n hx hb dX8_arcs_33 rfl (lv_at hl 1 rfl) ?_
        obtain ⟨hi_7, h⟩ := h
        refine va_iald (D := (dC, dI)) (cl := vwCl) (i := x1) hx hb hK hP 17 16 rfl rfl hi_7 dX8_arcs_34 ?_
        refine lv_if_ge (tgt := 41) hx hb dX8_arcs_35 (by decide) (fun hc_8 => ?_) (fun hc_8 => ?_)
        · replace h := h.1 hc_8
          refine lv_aload_n hx hb dX8_arcs_41 rfl (lv_at hl 0 rfl) ?_
          refine va_get (D := (dC, dI)) (ci := 7) (v := .ref (a 23)) (C := RX8) (T := TX8) (N := 25) hx hb hts hin_X8 hown hK hP 0 rfl rfl 22 (by decide) lk_0 (fun _ h9 => h9) rfl dX8_arcs_42 ?_
          refine lv_iload_n hx hb dX8_arcs_45 rfl (lv_at hl 1 rfl) ?_
          obtain ⟨hi_9, h⟩ := h
          refine va_iald (D := (dC, dI)) (cl := vwCl) (i := x1) hx hb hK hP 17 16 rfl rfl hi_9 dX8_arcs_46 ?_
          refine lv_iload_n hx hb dX8_arcs_47 rfl (lv_at hl 2 rfl) ?_
          refine lv_icmp_eq (tgt := 54) hx hb dX8_arcs_48 (by decide) (fun hc_10 => ?_) (fun hc_10 => ?_)
          · replace h := h.1 hc_10
            refine lv_iload_n hx hb dX8_arcs_54 rfl (lv_at hl 3 rfl) ?_
            refine lv_if_lt (tgt := 77) hx hb dX8_arcs_55 (by decide) (fun hc_11 => ?_) (fun hc_11 => ?_)
            · replace h := h.1 hc_11
              refine lv_bipush (v := (-13)) hx hb dX8_arcs_77 (by decide) ?_
              subst hQ
              exact W.iret (v := (-13)) hx hb hr (fun t ht hW => ⟨⟨_, u, rfl, h, by rw [ht]; exact hP, hD⟩, hS.F ht⟩) hS.2.2 dX8_arcs_79
            · replace h := h.2 hc_11
              refine lv_iload_n hx hb dX8_arcs_58 rfl (lv_at hl 3 rfl) ?_
              refine lv_i2l (v := (Int32.toInt64 x3)) hx hb dX8_arcs_59 rfl ?_
              refine lv_iconst (v := 5) hx hb dX8_arcs_60 (by decide) ?_
              refine lv_iload hx hb dX8_arcs_61 (lv_at hl 4 rfl) ?_
              refine lv_imul hx hb dX8_arcs_63 ?_
              refine lv_i2l (v := (Int32.toInt64 (5 * x4))) hx hb dX8_arcs_64 rfl ?_
              refine lv_ladd hx hb dX8_arcs_65 ?_
              refine lv_aload_n hx hb dX8_arcs_66 rfl (lv_at hl 0 rfl) ?_
              refine va_get (D := (dC, dI)) (ci := 7) (v := .ref (a 24)) (C := RX8) (T := TX8) (N := 25) hx hb hts hin_X8 hown hK hP 0 rfl rfl 23 (by decide) lk_1 (fun _ h9 => h9) rfl dX8_arcs_67 ?_
              refine lv_iload_n hx hb dX8_arcs_70 rfl (lv_at hl 1 rfl) ?_
              obtain ⟨hi_12, h⟩ := h
              refine va_iald (D := (dC, dI)) (cl := vwCl) (i := x1) hx hb hK hP 18 17 rfl rfl hi_12 dX8_arcs_71 ?_
              refine lv_i2l (v := (Int32.toInt64 (u.2.1 23 x1.toNatClampNeg))) hx hb dX8_arcs_72 rfl ?_
              refine W.lcmp hx hb dX8_arcs_73 ?_
              refine lv_if_le (tgt := 80) hx hb dX8_arcs_74 (by decide) (fun hc_13 => ?_) (fun hc_13 => ?_)
              · replace h := h.1 hc_13
                refine lv_bipush (v := 60) hx hb dX8_arcs_80 (by decide) ?_
                refine lv_iload_n hx hb dX8_arcs_82 rfl (lv_at hl 1 rfl) ?_
                refine lv_imul hx hb dX8_arcs_83 ?_
                refine lv_iload_n hx hb dX8_arcs_84 rfl (lv_at hl 3 rfl) ?_
                refine lv_iadd hx hb dX8_arcs_85 ?_
                refine lv_istore (lv' := [(5, .int ((60 * x1) + x3)), (0, .ref (a 0)), (1, .int x1), (2, .int x2), (3, .int x3), (4, .int x4)]) hx hb dX8_arcs_86 hl (by decide) rfl (fun ls hl => ?_)
                refine lv_iconst (v := 0) hx hb dX8_arcs_88 (by decide) ?_
                refine lv_istore (lv' := [(6, .int 0), (5, .int ((60 * x1) + x3)), (0, .ref (a 0)), (1, .int x1), (2, .int x2), (3, .int x3), (4, .int x4)]) hx hb dX8_arcs_89 hl (by decide) rfl (fun ls hl => ?_)
                obtain ⟨n_37, h⟩ := h
                refine lq1_ind (GG := (fun (v6_15 : Int32) => ∀ (H : Heap) (locs : List Loc) (ls : Array Slot), va_P (dC, dI) vwCl (wd_X8 a ca u) H → va_D A (wd_X8 a ca u) → va_S A s.heap H locs → lv_has ls 7 [(6, .int v6_15), (5, .int ((60 * x1) + x3)), (0, .ref (a 0)), (4, .int x4)] → W p l e (headSpec wsX8_arcs rm_X8_arcs).room s m args below meth c H locs 0 0 Q (F0 m 91 ls []))) (fun LL_14 ih_LL_14 v6_15 h H locs ls hP hD hS hl => ?_) n_37 _ h _ _ _ hP hD hS (lv_sub hl [0, 1, 2, 6] rfl)
                refine lv_iload hx hb dX8_arcs_91 (lv_at hl 0 rfl) ?_
                refine lv_iload hx hb dX8_arcs_93 (lv_at hl 3 rfl) ?_
                refine lv_icmp_ge (tgt := 182) hx hb dX8_arcs_95 (by decide) (fun hc_16 => ?_) (fun hc_16 => ?_)
                · replace h := h.1 hc_16
                  refine lv_aload_n hx hb dX8_arcs_182 rfl (lv_at hl 2 rfl) ?_
                  refine va_get (D := (dC, dI)) (ci := 7) (v := .int (u.1 2)) (C := RX8) (T := TX8) (N := 25) hx hb hts hin_X8 hown hK hP 0 rfl rfl 2 (by decide) lk_2 (fun _ h9 => h9) rfl dX8_arcs_183 ?_
                  refine lv_iload hx hb dX8_arcs_186 (lv_at hl 3 rfl) ?_
                  refine lv_iadd hx hb dX8_arcs_188 ?_
                  refine lv_bipush (v := 20) hx hb dX8_arcs_189 (by decide) ?_
                  refine lv_icmp_le (tgt := 197) hx hb dX8_arcs_191 (by decide) (fun hc_17 => ?_) (fun hc_17 => ?_)
                  · replace h := h.1 hc_17
                    refine lv_iconst (v := 0) hx hb dX8_arcs_197 (by decide) ?_
                    refine lv_istore (lv' := [(6, .int 0), (5, .int ((60 * x1) + x3)), (0, .ref (a 0)), (4, .int x4)]) hx hb dX8_arcs_198 hl (by decide) rfl (fun ls hl => ?_)
                    obtain ⟨n_29, h⟩ := h
                    refine lq2_ind (GG := (fun (v6_19 : Int32) (u_20 : Ob) => ∀ (H : Heap) (locs : List Loc) (ls : Array Slot), va_P (dC, dI) vwCl (wd_X8 a ca u_20) H → va_D A (wd_X8 a ca u_20) → va_S A s.heap H locs → lv_has ls 7 [(6, .int v6_19), (5, .int ((60 * x1) + x3)), (0, .ref (a 0)), (4, .int x4)] → W p l e (headSpec wsX8_arcs rm_X8_arcs).room s m args below meth c H locs 0 0 Q (F0 m 200 ls []))) (fun LL_18 ih_LL_18 v6_19 u_20 h H locs ls hP hD hS hl => ?_) n_29 _ _ h _ _ _ hP hD hS (lv_sub hl [0, 1, 2, 3] rfl)
                    refine lv_iload hx hb dX8_arcs_200 (lv_at hl 0 rfl) ?_
                    refine lv_iload hx hb dX8_arcs_202 (lv_at hl 3 rfl) ?_
                    refine lv_icmp_ge (tgt := 285) hx hb dX8_arcs_204 (by decide) (fun hc_21 => ?_) (fun hc_21 => ?_)
                    · replace h := h.1 hc_21
                      refine lv_aload_n hx hb dX8_arcs_285 rfl (lv_at hl 2 rfl) ?_
                      refine lv_bipush (v := 82) hx hb dX8_arcs_286 (by decide) ?_
                      refine lv_iconst (v := 0) hx hb dX8_arcs_288 (by decide) ?_
                      have hPc := hP
                      have hDc := hD
                      have hKc := hK
                      have hFc := va_free (wc := (wd_X8 a ca u_20)) hD hS hA [0, 1, 2, 3, 4, 5, 6, 7, 8, 9, 10, 11, 12, 13, 14, 15, 16, 17, 18, 19] rfl
                      refine va_callv (va_runV (As := [.int 82, .int 0]) (rest := []) ⟨hx, hb, hml, hown, hts⟩ (c_X8_empty l dC dI a ca H.size u_20 82 0 _ h) (cwV 2 hts gX8_arcs_X8_empty rfl rfl rfl (by decide +kernel) ⟨Nat.le_of_ble_eq_true rfl, Nat.le_of_ble_eq_true rfl⟩) ⟨fun a U g mk q => by obtain ⟨q0, q1, qP, qK, qD⟩ := q; exact ⟨q0, q1, qP, va_K.moved (u := U) (U := U.calling g mk a) (Vm.Alike.refl U.vm) qK, qD⟩, va_recv hKc hPc (ci := 7) (q0 := 0) rfl rfl, fun U hU hW => ⟨rfl, by rw [hU], by rw [hU]; exact hPc, va_K.moved hW.alike hKc, hDc.weaken (fun _ _ _ _ => trivial)⟩⟩ rfl rfl hl.1 rfl (lv_room (Nat.le_of_ble_eq_true rfl)) dX8_arcs_289 ⟨Nat.zero_le _, Nat.zero_le _⟩) hS (fun q _ h => hFc q h) hFc (fun zz t H1 locs ht hvm hw hB hz1 hk1 hS => ?_)
                      obtain ⟨u_22, rfl⟩ : ∃ z, z = zz := ⟨_, rfl⟩
                      replace h := hw
                      obtain ⟨hP1, hD1⟩ := hB
                      rw [ht] at hP1
                      replace hD : va_D A (wd_X8 a ca u_22) := hD1.weaken (fun _ _ _ h9 => hFc _ h9)
                      replace hP : va_P (dC, dI) vwCl (wd_X8 a ca u_22) H1 := hP1
                      generalize H1 = H at hP hS ⊢
                      refine lv_aload_n hx hb dX8_arcs_292 rfl (lv_at hl 2 rfl) ?_
                      refine va_get (D := (dC, dI)) (ci := 7) (v := .int (u_22.1 2)) (C := RX8) (T := TX8) (N := 25) hx hb hts hin_X8 hown hK hP 0 rfl rfl 2 (by decide) lk_2 (fun _ h9 => h9) rfl dX8_arcs_293 ?_
                      subst hQ
                      exact W.iret (v := (u_22.1 2)) hx hb hr (fun t ht hW => ⟨⟨_, u_22, rfl, h, by rw [ht]; exact hP, hD⟩, hS.F ht⟩) hS.2.2 dX8_arcs_296
                    · replace h := h.2 hc_21
                      refine lv_aload_n hx hb dX8_arcs_207 rfl (lv_at hl 2 rfl) ?_
                      refine lv_aload_n hx hb dX8_arcs_208 rfl (lv_at hl 2 rfl) ?_
                      refine va_get (D := (dC, dI)) (ci := 7) (v := .ref (a 25)) (C := RX8) (T := TX8) (N := 25) hx hb hts hin_X8 hown hK hP 0 rfl rfl 24 (by decide) lk_3 (fun _ h9 => h9) rfl dX8_arcs_209 ?_
                      refine lv_iload hx hb dX8_arcs_212 (lv_at hl 1 rfl) ?_
                      refine lv_iconst (v := 5) hx hb dX8_arcs_214 (by decide) ?_
                      refine lv_iload hx hb dX8_arcs_215 (lv_at hl 0 rfl) ?_
                      refine lv_imul hx hb dX8_arcs_217 ?_
                      refine lv_iadd hx hb dX8_arcs_218 ?_
                      obtain ⟨hi_23, h⟩ := h
                      refine va_iald (D := (dC, dI)) (cl := vwCl) (i := (((60 * x1) + x3) + (5 * v6_19))) hx hb hK hP 19 18 rfl rfl hi_23 dX8_arcs_219 ?_
                      refine lv_aload_n hx hb dX8_arcs_220 rfl (lv_at hl 2 rfl) ?_
                      refine va_get (D := (dC, dI)) (ci := 7) (v := .ref (a 25)) (C := RX8) (T := TX8) (N := 25) hx hb hts hin_X8 hown hK hP 0 rfl rfl 24 (by decide) lk_3 (fun _ h9 => h9) rfl dX8_arcs_221 ?_
                      refine lv_iload hx hb dX8_arcs_224 (lv_at hl 1 rfl) ?_
                      refine lv_iconst (v := 5) hx hb dX8_arcs_226 (by decide) ?_
                      refine lv_iload hx hb dX8_arcs_227 (lv_at hl 0 rfl) ?_
                      refine lv_imul hx hb dX8_arcs_229 ?_
                      refine lv_iadd hx hb dX8_arcs_230 ?_
                      refine lv_iconst (v := 1) hx hb dX8_arcs_231 (by decide) ?_
                      refine lv_iadd hx hb dX8_arcs_232 ?_
                      obtain ⟨hi_24, h⟩ := h
                      refine va_iald (D := (dC, dI)) (cl := vwCl) (i := ((((60 * x1) + x3) + (5 * v6_19)) + 1)) hx hb hK hP 19 18 rfl rfl hi_24 dX8_arcs_233 ?_
                      refine lv_aload_n hx hb dX8_arcs_234 rfl (lv_at hl 2 rfl) ?_
                      refine va_get (D := (dC, dI)) (ci := 7) (v := .ref (a 25)) (C := RX8) (T := TX8) (N := 25) hx hb hts hin_X8 hown hK hP 0 rfl rfl 24 (by decide) lk_3 (fun _ h9 => h9) rfl dX8_arcs_235 ?_
                      refine lv_iload hx hb dX8_arcs_238 (lv_at hl 1 rfl) ?_
                      refine lv_iconst (v := 5) hx hb dX8_arcs_240 (by decide) ?_
                      refine lv_iload hx hb dX8_arcs_241 (lv_at hl 0 rfl) ?_
                      refine lv_imul hx hb dX8_arcs_243 ?_
                      refine lv_iadd hx hb dX8_arcs_244 ?_
                      refine lv_iconst (v := 2) hx hb dX8_arcs_245 (by decide) ?_
                      refine lv_iadd hx hb dX8_arcs_246 ?_
                      obtain ⟨hi_25, h⟩ := h
                      refine va_iald (D := (dC, dI)) (cl := vwCl) (i := ((((60 * x1) + x3) + (5 * v6_19)) + 2)) hx hb hK hP 19 18 rfl rfl hi_25 dX8_arcs_247 ?_
                      refine lv_aload_n hx hb dX8_arcs_248 rfl (lv_at hl 2 rfl) ?_
                      refine va_get (D := (dC, dI)) (ci := 7) (v := .ref (a 25)) (C := RX8) (T := TX8) (N := 25) hx hb hts hin_X8 hown hK hP 0 rfl rfl 24 (by decide) lk_3 (fun _ h9 => h9) rfl dX8_arcs_249 ?_
                      refine lv_iload hx hb dX8_arcs_252 (lv_at hl 1 rfl) ?_
                      refine lv_iconst (v := 5) hx hb dX8_arcs_254 (by decide) ?_
                      refine lv_iload hx hb dX8_arcs_255 (lv_at hl 0 rfl) ?_
                      refine lv_imul hx hb dX8_arcs_257 ?_
                      refine lv_iadd hx hb dX8_arcs_258 ?_
                      refine lv_iconst (v := 3) hx hb dX8_arcs_259 (by decide) ?_
                      refine lv_iadd hx hb dX8_arcs_260 ?_
                      obtain ⟨hi_26, h⟩ := h
                      refine va_iald (D := (dC, dI)) (cl := vwCl) (i := ((((60 * x1) + x3) + (5 * v6_19)) + 3)) hx hb hK hP 19 18 rfl rfl hi_26 dX8_arcs_261 ?_
                      refine lv_aload_n hx hb dX8_arcs_262 rfl (lv_at hl 2 rfl) ?_
                      refine va_get (D := (dC, dI)) (ci := 7) (v := .ref (a 25)) (C := RX8) (T := TX8) (N := 25) hx hb hts hin_X8 hown hK hP 0 rfl rfl 24 (by decide) lk_3 (fun _ h9 => h9) rfl dX8_arcs_263 ?_
                      refine lv_iload hx hb dX8_arcs_266 (lv_at hl 1 rfl) ?_
                      refine lv_iconst (v := 5) hx hb dX8_arcs_268 (by decide) ?_
                      refine lv_iload hx hb dX8_arcs_269 (lv_at hl 0 rfl) ?_
                      refine lv_imul hx hb dX8_arcs_271 ?_
                      refine lv_iadd hx hb dX8_arcs_272 ?_
                      refine lv_iconst (v := 4) hx hb dX8_arcs_273 (by decide) ?_
                      refine lv_iadd hx hb dX8_arcs_274 ?_
                      obtain ⟨hi_27, h⟩ := h
                      refine va_iald (D := (dC, dI)) (cl := vwCl) (i := ((((60 * x1) + x3) + (5 * v6_19)) + 4)) hx hb hK hP 19 18 rfl rfl hi_27 dX8_arcs_275 ?_
                      have hPc := hP
                      have hDc := hD
                      have hKc := hK
                      have hFc := va_free (wc := (wd_X8 a ca u_20)) hD hS hA [0, 1, 2, 3, 4, 5, 6, 7, 8, 9, 10, 11, 12, 13, 14, 15, 16, 17, 18, 19] rfl
                      refine va_callv (va_runV (As := [.int (u_20.2.1 24 (((60 * x1) + x3) + (5 * v6_19)).toNatClampNeg), .int (u_20.2.1 24 ((((60 * x1) + x3) + (5 * v6_19)) + 1).toNatClampNeg), .int (u_20.2.1 24 ((((60 * x1) + x3) + (5 * v6_19)) + 2).toNatClampNeg), .int (u_20.2.1 24 ((((60 * x1) + x3) + (5 * v6_19)) + 3).toNatClampNeg), .int (u_20.2.1 24 ((((60 * x1) + x3) + (5 * v6_19)) + 4).toNatClampNeg)]) (rest := []) ⟨hx, hb, hml, hown, hts⟩ (c_X8_put l dC dI a ca H.size u_20 (u_20.2.1 24 (((60 * x1) + x3) + (5 * v6_19)).toNatClampNeg) (u_20.2.1 24 ((((60 * x1) + x3) + (5 * v6_19)) + 1).toNatClampNeg) (u_20.2.1 24 ((((60 * x1) + x3) + (5 * v6_19)) + 2).toNatClampNeg) (u_20.2.1 24 ((((60 * x1) + x3) + (5 * v6_19)) + 3).toNatClampNeg) (u_20.2.1 24 ((((60 * x1) + x3) + (5 * v6_19)) + 4).toNatClampNeg) _ h) (cwV 5 hts gX8_arcs_X8_put rfl rfl rfl (by decide +kernel) ⟨Nat.le_of_ble_eq_true rfl, Nat.le_of_ble_eq_true rfl⟩) ⟨fun a U g mk q => by obtain ⟨q0, q1, qP, qK, qD⟩ := q; exact ⟨q0, q1, qP, va_K.moved (u := U) (U := U.calling g mk a) (Vm.Alike.refl U.vm) qK, qD⟩, va_recv hKc hPc (ci := 7) (q0 := 0) rfl rfl, fun U hU hW => ⟨rfl, by rw [hU], by rw [hU]; exact hPc, va_K.moved hW.alike hKc, hDc.weaken (fun _ _ _ _ => trivial)⟩⟩ rfl rfl hl.1 rfl (lv_room (Nat.le_of_ble_eq_true rfl)) dX8_arcs_276 ⟨Nat.zero_le _, Nat.zero_le _⟩) hS (fun q _ h => hFc q h) hFc (fun zz t H1 locs ht hvm hw hB hz1 hk1 hS => ?_)
                      obtain ⟨u_28, rfl⟩ : ∃ z, z = zz := ⟨_, rfl⟩
                      replace h := hw
                      obtain ⟨hP1, hD1⟩ := hB
                      rw [ht] at hP1
                      replace hD : va_D A (wd_X8 a ca u_28) := hD1.weaken (fun _ _ _ h9 => hFc _ h9)
                      replace hP : va_P (dC, dI) vwCl (wd_X8 a ca u_28) H1 := hP1
                      generalize H1 = H at hP hS ⊢
                      refine lv_iinc (v := (v6_19 + 1)) (lv' := [(6, .int (v6_19 + 1)), (5, .int ((60 * x1) + x3)), (0, .ref (a 0)), (4, .int x4)]) hx hb dX8_arcs_279 hl (k := 0) rfl rfl (by decide) rfl (fun ls hl => ?_)
                      refine lv_goto (tgt := 200) hx hb dX8_arcs_282 (by decide) ?_
                      exact ih_LL_18 _ _ h _ _ _ hP hD hS (lv_sub hl [0, 1, 2, 3] rfl)
                  · replace h := h.2 hc_17
                    refine lv_bipush (v := (-3)) hx hb dX8_arcs_194 (by decide) ?_
                    subst hQ
                    exact W.iret (v := (-3)) hx hb hr (fun t ht hW => ⟨⟨_, u, rfl, h, by rw [ht]; exact hP, hD⟩, hS.F ht⟩) hS.2.2 dX8_arcs_196
                · replace h := h.2 hc_16
                  refine lv_aload_n hx hb dX8_arcs_98 rfl (lv_at hl 2 rfl) ?_
                  refine lv_aload_n hx hb dX8_arcs_99 rfl (lv_at hl 2 rfl) ?_
                  refine va_get (D := (dC, dI)) (ci := 7) (v := .ref (a 25)) (C := RX8) (T := TX8) (N := 25) hx hb hts hin_X8 hown hK hP 0 rfl rfl 24 (by decide) lk_3 (fun _ h9 => h9) rfl dX8_arcs_100 ?_
                  refine lv_iload hx hb dX8_arcs_103 (lv_at hl 1 rfl) ?_
                  refine lv_iconst (v := 5) hx hb dX8_arcs_105 (by decide) ?_
                  refine lv_iload hx hb dX8_arcs_106 (lv_at hl 0 rfl) ?_
                  refine lv_imul hx hb dX8_arcs_108 ?_
                  refine lv_iadd hx hb dX8_arcs_109 ?_
                  obtain ⟨hi_30, h⟩ := h
                  refine va_iald (D := (dC, dI)) (cl := vwCl) (i := (((60 * x1) + x3) + (5 * v6_15))) hx hb hK hP 19 18 rfl rfl hi_30 dX8_arcs_110 ?_
                  refine lv_aload_n hx hb dX8_arcs_111 rfl (lv_at hl 2 rfl) ?_
                  refine va_get (D := (dC, dI)) (ci := 7) (v := .ref (a 25)) (C := RX8) (T := TX8) (N := 25) hx hb hts hin_X8 hown hK hP 0 rfl rfl 24 (by decide) lk_3 (fun _ h9 => h9) rfl dX8_arcs_112 ?_
                  refine lv_iload hx hb dX8_arcs_115 (lv_at hl 1 rfl) ?_
                  refine lv_iconst (v := 5) hx hb dX8_arcs_117 (by decide) ?_
                  refine lv_iload hx hb dX8_arcs_118 (lv_at hl 0 rfl) ?_
                  refine lv_imul hx hb dX8_arcs_120 ?_
                  refine lv_iadd hx hb dX8_arcs_121 ?_
                  refine lv_iconst (v := 1) hx hb dX8_arcs_122 (by decide) ?_
                  refine lv_iadd hx hb dX8_arcs_123 ?_
                  obtain ⟨hi_31, h⟩ := h
                  refine va_iald (D := (dC, dI)) (cl := vwCl) (i := ((((60 * x1) + x3) + (5 * v6_15)) + 1)) hx hb hK hP 19 18 rfl rfl hi_31 dX8_arcs_124 ?_
                  refine lv_aload_n hx hb dX8_arcs_125 rfl (lv_at hl 2 rfl) ?_
                  refine va_get (D := (dC, dI)) (ci := 7) (v := .ref (a 25)) (C := RX8) (T := TX8) (N := 25) hx hb hts hin_X8 hown hK hP 0 rfl rfl 24 (by decide) lk_3 (fun _ h9 => h9) rfl dX8_arcs_126 ?_
                  refine lv_iload hx hb dX8_arcs_129 (lv_at hl 1 rfl) ?_
                  refine lv_iconst (v := 5) hx hb dX8_arcs_131 (by decide) ?_
                  refine lv_iload hx hb dX8_arcs_132 (lv_at hl 0 rfl) ?_
                  refine lv_imul hx hb dX8_arcs_134 ?_
                  refine lv_iadd hx hb dX8_arcs_135 ?_
                  refine lv_iconst (v := 2) hx hb dX8_arcs_136 (by decide) ?_
                  refine lv_iadd hx hb dX8_arcs_137 ?_
                  obtain ⟨hi_32, h⟩ := h
                  refine va_iald (D := (dC, dI)) (cl := vwCl) (i := ((((60 * x1) + x3) + (5 * v6_15)) + 2)) hx hb hK hP 19 18 rfl rfl hi_32 dX8_arcs_138 ?_
                  refine lv_aload_n hx hb dX8_arcs_139 rfl (lv_at hl 2 rfl) ?_
                  refine va_get (D := (dC, dI)) (ci := 7) (v := .ref (a 25)) (C := RX8) (T := TX8) (N := 25) hx hb hts hin_X8 hown hK hP 0 rfl rfl 24 (by decide) lk_3 (fun _ h9 => h9) rfl dX8_arcs_140 ?_
                  refine lv_iload hx hb dX8_arcs_143 (lv_at hl 1 rfl) ?_
                  refine lv_iconst (v := 5) hx hb dX8_arcs_145 (by decide) ?_
                  refine lv_iload hx hb dX8_arcs_146 (lv_at hl 0 rfl) ?_
                  refine lv_imul hx hb dX8_arcs_148 ?_
                  refine lv_iadd hx hb dX8_arcs_149 ?_
                  refine lv_iconst (v := 3) hx hb dX8_arcs_150 (by decide) ?_
                  refine lv_iadd hx hb dX8_arcs_151 ?_
                  obtain ⟨hi_33, h⟩ := h
                  refine va_iald (D := (dC, dI)) (cl := vwCl) (i := ((((60 * x1) + x3) + (5 * v6_15)) + 3)) hx hb hK hP 19 18 rfl rfl hi_33 dX8_arcs_152 ?_
                  refine lv_aload_n hx hb dX8_arcs_153 rfl (lv_at hl 2 rfl) ?_
                  refine va_get (D := (dC, dI)) (ci := 7) (v := .ref (a 25)) (C := RX8) (T := TX8) (N := 25) hx hb hts hin_X8 hown hK hP 0 rfl rfl 24 (by decide) lk_3 (fun _ h9 => h9) rfl dX8_arcs_154 ?_
                  refine lv_iload hx hb dX8_arcs_157 (lv_at hl 1 rfl) ?_
                  refine lv_iconst (v := 5) hx hb dX8_arcs_159 (by decide) ?_
                  refine lv_iload hx hb dX8_arcs_160 (lv_at hl 0 rfl) ?_
                  refine lv_imul hx hb dX8_arcs_162 ?_
                  refine lv_iadd hx hb dX8_arcs_163 ?_
                  refine lv_iconst (v := 4) hx hb dX8_arcs_164 (by decide) ?_
                  refine lv_iadd hx hb dX8_arcs_165 ?_
                  obtain ⟨hi_34, h⟩ := h
                  refine va_iald (D := (dC, dI)) (cl := vwCl) (i := ((((60 * x1) + x3) + (5 * v6_15)) + 4)) hx hb hK hP 19 18 rfl rfl hi_34 dX8_arcs_166 ?_
                  have hPc := hP
                  have hDc := hD
                  have hKc := hK
                  have hFc := va_free (wc := (wd_X8 a ca u)) hD hS hA [0, 1, 2, 3, 4, 5, 6, 7, 8, 9, 10, 11, 12, 13, 14, 15, 16, 17, 18, 19] rfl
                  refine va_calli (va_runV (As := [.int (u.2.1 24 (((60 * x1) + x3) + (5 * v6_15)).toNatClampNeg), .int (u.2.1 24 ((((60 * x1) + x3) + (5 * v6_15)) + 1).toNatClampNeg), .int (u.2.1 24 ((((60 * x1) + x3) + (5 * v6_15)) + 2).toNatClampNeg), .int (u.2.1 24 ((((60 * x1) + x3) + (5 * v6_15)) + 3).toNatClampNeg), .int (u.2.1 24 ((((60 * x1) + x3) + (5 * v6_15)) + 4).toNatClampNeg)]) (rest := []) ⟨hx, hb, hml, hown, hts⟩ (c_X8_isGood l dC dI a ca H.size u (u.2.1 24 (((60 * x1) + x3) + (5 * v6_15)).toNatClampNeg) (u.2.1 24 ((((60 * x1) + x3) + (5 * v6_15)) + 1).toNatClampNeg) (u.2.1 24 ((((60 * x1) + x3) + (5 * v6_15)) + 2).toNatClampNeg) (u.2.1 24 ((((60 * x1) + x3) + (5 * v6_15)) + 3).toNatClampNeg) (u.2.1 24 ((((60 * x1) + x3) + (5 * v6_15)) + 4).toNatClampNeg) _ h) (cwV 5 hts gX8_arcs_X8_isGood rfl rfl rfl (by decide +kernel) ⟨Nat.le_of_ble_eq_true rfl, Nat.le_of_ble_eq_true rfl⟩) ⟨fun a U g mk q => by obtain ⟨q0, q1, qP, qK, qD⟩ := q; exact ⟨q0, q1, qP, va_K.moved (u := U) (U := U.calling g mk a) (Vm.Alike.refl U.vm) qK, qD⟩, va_recv hKc hPc (ci := 7) (q0 := 0) rfl rfl, fun U hU hW => ⟨rfl, by rw [hU], by rw [hU]; exact hPc, va_K.moved hW.alike hKc, hDc.weaken (fun _ _ _ _ => trivial)⟩⟩ rfl rfl hl.1 rfl (lv_room (Nat.le_of_ble_eq_true rfl)) dX8_arcs_167 ⟨Nat.zero_le _, Nat.zero_le _⟩) hS (fun q _ h => hFc q h) hFc (fun r_35 zz t H1 locs ht hvm hw hB hz1 hk1 hS => ?_)
                  replace h := hw
                  obtain ⟨hP1, hD1⟩ := hB
                  rw [ht] at hP1
                  replace hD : va_D A (wd_X8 a ca u) := hD1.weaken (fun _ _ _ h9 => hFc _ h9)
                  replace hP : va_P (dC, dI) vwCl (wd_X8 a ca u) H1 := hP1
                  generalize H1 = H at hP hS ⊢
                  refine lv_if_ne (tgt := 176) hx hb dX8_arcs_170 (by decide) (fun hc_36 => ?_) (fun hc_36 => ?_)
                  · replace h := h.1 hc_36
                    refine lv_iinc (v := (v6_15 + 1)) (lv' := [(6, .int (v6_15 + 1)), (5, .int ((60 * x1) + x3)), (0, .ref (a 0)), (4, .int x4)]) hx hb dX8_arcs_176 hl (k := 0) rfl rfl (by decide) rfl (fun ls hl => ?_)
                    refine lv_goto (tgt := 91) hx hb dX8_arcs_179 (by decide) ?_
                    exact ih_LL_14 _ h _ _ _ hP hD hS (lv_sub hl [0, 1, 2, 3] rfl)
                  · replace h := h.2 hc_36
                    refine lv_bipush (v := (-2)) hx hb dX8_arcs_173 (by decide) ?_
                    subst hQ
                    exact W.iret (v := (-2)) hx hb hr (fun t ht hW => ⟨⟨_, u, rfl, h, by rw [ht]; exact hP, hD⟩, hS.F ht⟩) hS.2.2 dX8_arcs_175
              · replace h := h.2 hc_13
                refine lv_bipush (v := (-13)) hx hb dX8_arcs_77 (by decide) ?_
                subst hQ
                exact W.iret (v := (-13)) hx hb hr (fun t ht hW => ⟨⟨_, u, rfl, h, by rw [ht]; exact hP, hD⟩, hS.F ht⟩) hS.2.2 dX8_arcs_79
          · replace h := h.2 hc_10
            refine lv_bipush (v := (-12)) hx hb dX8_arcs_51 (by decide) ?_
            subst hQ
            exact W.iret (v := (-12)) hx hb hr (fun t ht hW => ⟨⟨_, u, rfl, h, by rw [ht]; exact hP, hD⟩, hS.F ht⟩) hS.2.2 dX8_arcs_53
        · replace h := h.2 hc_8
          refine lv_bipush (v := (-11)) hx hb dX8_arcs_38 (by decide) ?_
          subst hQ
          exact W.iret (v := (-11)) hx hb hr (fun t ht hW => ⟨⟨_, u, rfl, h, by rw [ht]; exact hP, hD⟩, hS.F ht⟩) hS.2.2 dX8_arcs_40
      · replace h := h.2 hc_6
        refine lv_iconst (v := (-1)) hx hb dX8_arcs_27 (by decide) ?_
        subst hQ
        exact W.iret (v := (-1)) hx hb hr (fun t ht hW => ⟨⟨_, u, rfl, h, by rw [ht]; exact hP, hD⟩, hS.F ht⟩) hS.2.2 dX8_arcs_28
