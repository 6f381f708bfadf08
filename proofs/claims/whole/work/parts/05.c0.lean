abbrev rm_X2_add : Room := { frames := 0, cells := 0, slots := 0, locals := 0 }
set_option maxHeartbeats 4000000 in
set_option maxRecDepth 100000 in
theorem c_X2_add (l : Launch) (dC : Nat → ClassId) (dI : Nat → Nat → Nat) (a : Nat → Nat) (ca : Nat → ClassId) (sz : Nat) (u : Ob) (x1 : Int32) (x2 : Int32) (x3 : Int32) (x4 : Int32) (x5 : Int32) (post : Ob → Prop) (h : wp_X2_add u x1 x2 x3 x4 x5 post) : Met l yX2_add wsX2_add rm_X2_add (va_Pc [.ref (a 0), .int x1, .int x2, .int x3, .int x4, .int x5] (fun U => U.heap.size = sz ∧ va_P (dC, dI) vwCl (wd_X2 a ca u) U.heap ∧ va_K (dC, dI) vwCl (ty_X2 ca) U ∧ va_D (fun _ => True) (wd_X2 a ca u))) (va_Qv post (fun (zz : Ob) (t : State) => va_P (dC, dI) vwCl (wd_X2 a ca zz) t.heap ∧ va_D (va_A (wd_X2 a ca u) sz) (wd_X2 a ca zz)) (va_A (wd_X2 a ca u) sz)) 0 0 (va_A (wd_X2 a ca u) sz) := by
  refine fl_ofW (cc := cX2_add) (maxL := 6) (ret := none) (by decide) rfl ?_
  intro p e s m args below meth c s₁ Q B hml hv hQ
  obtain ⟨hargs, hsz, hP, hK, hD0⟩ := hv
  have hx := B.exec
  have hb := B.bytes
  have hr := B.returns
  have hts := atoms_spec (ws := wsX2_add) B.pre
  have hown : s.vm.findClass RX2 = some m.cls := findClass_of_methodNamed B.named
  subst hsz
  have hD := hD0.self (sz := s.heap.size)
  generalize hAe : va_A (wd_X2 a ca u) s.heap.size = A at hD hQ
  have hA : ∀ q : Nat, s.heap.size ≤ q → A q := fun q h => by rw [← hAe]; exact Or.inr h
  have hS : va_S A s.heap s.heap [] := va_S.rf
  have hl := lv_entry ([.ref (a 0), .int x1, .int x2, .int x3, .int x4, .int x5]) (n := 6) (Nat.le_of_ble_eq_true rfl)
  refine W.eq (g2 := F0 m 0 ((lg_sl ([.ref (a 0), .int x1, .int x2, .int x3, .int x4, .int x5]) ++ List.replicate (6 - (lg_sl ([.ref (a 0), .int x1, .int x2, .int x3, .int x4, .int x5])).length) Slot.unset).toArray) []) (by rw [hargs]; exact lg_entry_eq m _ 6) ?_
  generalize (lg_sl ([.ref (a 0), .int x1, .int x2, .int x3, .int x4, .int x5]) ++ List.replicate (6 - (lg_sl ([.ref (a 0), .int x1, .int x2, .int x3, .int x4, .int x5])).length) Slot.unset).toArray = ls at hl ⊢
  have hl : lv_has ls 6 [(0, .ref (a 0)), (1, .int x1), (2, .int x2), (3, .int x3), (4, .int x4), (5, .int x5)] := hl
  suffices hstart : ∀ (H : Heap) (locs : List Loc) (ls : Array Slot), va_P (dC, dI) vwCl (wd_X2 a ca u) H → va_D A (wd_X2 a ca u) → va_S A s.heap H locs → lv_has ls 6 [(0, .ref (a 0)), (1, .int x1), (2, .int x2), (3, .int x3), (4, .int x4), (5, .int x5)] → W p l e (headSpec wsX2_add rm_X2_add).room s m args below meth c H locs 0 0 Q (F0 m 0 ls []) from hstart _ _ _ hP hD hS hl
  clear hS hP hD hD0
  intro H locs ls hP hD hS hl
  have hin_X2 : ∀ w ∈ wsX20, w ∈ wsX2_add := by decide +kernel
  have lk_0 := hts (.fieldLink RX2 15 "ForgettingLines$Search" "states" "[I") (by decide +kernel)
  have lk_1 := hts (.fieldLink RX2 30 "ForgettingLines$Search" "count" "I") (by decide +kernel)
  have lk_2 := hts (.fieldLink RX2 18 "ForgettingLines$Search" "words0" "[I") (by decide +kernel)
  have lk_3 := hts (.fieldLink RX2 21 "ForgettingLines$Search" "words1" "[I") (by decide +kernel)
  have lk_4 := hts (.fieldLink RX2 24 "ForgettingLines$Search" "arcs" "[I") (by decide +kernel)
  have lk_5 := hts (.fieldLink RX2 27 "ForgettingLines$Search" "origins" "[I") (by decide +kernel)
  have lk_6 := hts (.fieldLink RX2 9 "ForgettingLines$Search" "rounds" "[I") (by decide +kernel)
  unfold wp_X2_add at h
  refine lv_aload_n hx hb dX2_add_0 rfl (lv_at hl 0 rfl) ?_
  refine va_get (D := (dC, dI)) (ci := 2) (v := .ref (a 4)) (C := RX2) (T := TX2) (N := 8) hx hb hts hin_X2 hown hK hP 0 rfl rfl 3 (by decide) lk_0 (fun _ h9 => h9) rfl dX2_add_1 ?_
  refine lv_aload_n hx hb dX2_add_4 rfl (lv_at hl 0 rfl) ?_
  refine va_get (D := (dC, dI)) (ci := 2) (v := .int (u.1 0)) (C := RX2) (T := TX2) (N := 8) hx hb hts hin_X2 hown hK hP 0 rfl rfl 0 (by decide) lk_1 (fun _ h9 => h9) rfl dX2_add_5 ?_
  refine lv_iload_n hx hb dX2_add_8 rfl (lv_at hl 1 rfl) ?_
  obtain ⟨hi_1, h⟩ := h
  refine va_iast (D := (dC, dI)) (cl := vwCl) (i := (u.1 0)) hx hb hK hP hD hS 2 1 rfl rfl hi_1 dX2_add_9 (fun H locs hP hD hS => ?_)
  obtain ⟨u_2, eu_2⟩ : ∃ z : Ob, z = fs_a u 3 (upd (u.2.1 3) (u.1 0).toNatClampNeg x1) := ⟨_, rfl⟩
  replace h := h u_2 eu_2
  replace hP : va_P (dC, dI) vwCl (wd_X2 a ca u_2) H := by rw [eu_2]; exact hP
  replace hD : va_D A (wd_X2 a ca u_2) := by rw [eu_2]; exact hD
  refine lv_aload_n hx hb dX2_add_10 rfl (lv_at hl 0 rfl) ?_
  refine va_get (D := (dC, dI)) (ci := 2) (v := .ref (a 5)) (C := RX2) (T := TX2) (N := 8) hx hb hts hin_X2 hown hK hP 0 rfl rfl 4 (by decide) lk_2 (fun _ h9 => h9) rfl dX2_add_11 ?_
  refine lv_aload_n hx hb dX2_add_14 rfl (lv_at hl 0 rfl) ?_
  refine va_get (D := (dC, dI)) (ci := 2) (v := .int (u_2.1 0)) (C := RX2) (T := TX2) (N := 8) hx hb hts hin_X2 hown hK hP 0 rfl rfl 0 (by decide) lk_1 (fun _ h9 => h9) rfl dX2_add_15 ?_
  refine lv_iload_n hx hb dX2_add_18 rfl (lv_at hl 2 rfl) ?_
  obtain ⟨hi_3, h⟩ := h
  refine va_iast (D := (dC, dI)) (cl := vwCl) (i := (u_2.1 0)) hx hb hK hP hD hS 3 2 rfl rfl hi_3 dX2_add_19 (fun H locs hP hD hS => ?_)
  obtain ⟨u_4, eu_4⟩ : ∃ z : Ob, z = fs_a u_2 4 (upd (u_2.2.1 4) (u_2.1 0).toNatClampNeg x2) := ⟨_, rfl⟩
  replace h := h u_4 eu_4
  replace hP : va_P (dC, dI) vwCl (wd_X2 a ca u_4) H := by rw [eu_4]; exact hP
  replace hD : va_D A (wd_X2 a ca u_4) := by rw [eu_4]; exact hD
  refine lv_aload_n hx hb dX2_add_20 rfl (lv_at hl 0 rfl) ?_
  refine va_get (D := (dC, dI)) (ci := 2) (v := .ref (a 6)) (C := RX2) (T := TX2) (N := 8) hx hb hts hin_X2 hown hK hP 0 rfl rfl 5 (by decide) lk_3 (fun _ h9 => h9) rfl dX2_add_21 ?_
  refine lv_aload_n hx hb dX2_add_24 rfl (lv_at hl 0 rfl) ?_
  refine va_get (D := (dC, dI)) (ci := 2) (v := .int (u_4.1 0)) (C := RX2) (T := TX2) (N := 8) hx hb hts hin_X2 hown hK hP 0 rfl rfl 0 (by decide) lk_1 (fun _ h9 => h9) rfl dX2_add_25 ?_
  refine lv_iload_n hx hb dX2_add_28 rfl (lv_at hl 3 rfl) ?_
  obtain ⟨hi_5, h⟩ := h
  refine va_iast (D := (dC, dI)) (cl := vwCl) (i := (u_4.1 0)) hx hb hK hP hD hS 4 3 rfl rfl hi_5 dX2_add_29 (fun H locs hP hD hS => ?_)
  obtain ⟨u_6, eu_6⟩ : ∃ z : Ob, z = fs_a u_4 5 (upd (u_4.2.1 5) (u_4.1 0).toNatClampNeg x3) := ⟨_, rfl⟩
  replace h := h u_6 eu_6
  replace hP : va_P (dC, dI) vwCl (wd_X2 a ca u_6) H := by rw [eu_6]; exact hP
  replace hD : va_D A (wd_X2 a ca u_6) := by rw [eu_6]; exact hD
  refine lv_aload_n hx hb dX2_add_30 rfl (lv_at hl 0 rfl) ?_
  refine va_get (D := (dC, dI)) (ci := 2) (v := .ref (a 7)) (C := RX2) (T := TX2) (N := 8) hx hb hts hin_X2 hown hK hP 0 rfl rfl 6 (by decide) lk_4 (fun _ h9 => h9) rfl dX2_add_31 ?_
  refine lv_aload_n hx hb dX2_add_34 rfl (lv_at hl 0 rfl) ?_
  refine va_get (D := (dC, dI)) (ci := 2) (v := .int (u_6.1 0)) (C := RX2) (T := TX2) (N := 8) hx hb hts hin_X2 hown hK hP 0 rfl rfl 0 (by decide) lk_1 (fun _ h9 => h9) rfl dX2_add_35 ?_
  refine lv_iload hx hb dX2_add_38 (lv_at hl 4 rfl) ?_
  obtain ⟨hi_7, h⟩ := h
  refine va_iast (D := (dC, dI)) (cl := vwCl) (i := (u_6.1 0)) hx hb hK hP hD hS 5 4 rfl rfl hi_7 dX2_add_40 (fun H locs hP hD hS => ?_)
  obtain ⟨u_8, eu_8⟩ : ∃ z : Ob, z = fs_a u_6 6 (upd (u_6.2.1 6) (u_6.1 0).toNatClampNeg x4) := ⟨_, rfl⟩
  replace h := h u_8 eu_8
  replace hP : va_P (dC, dI) vwCl (wd_X2 a ca u_8) H := by rw [eu_8]; exact hP
  replace hD : va_D A (wd_X2 a ca u_8) := by rw [eu_8]; exact hD
  refine lv_aload_n hx hb dX2_add_41 rfl (lv_at hl 0 rfl) ?_
  refine va_get (D := (dC, dI)) (ci := 2) (v := .ref (a 8)) (C := RX2) (T := TX2) (N := 8) hx hb hts hin_X2 hown hK hP 0 rfl rfl 7 (by decide) lk_5 (fun _ h9 => h9) rfl dX2_add_42 ?_
  refine lv_aload_n hx hb dX2_add_45 rfl (lv_at hl 0 rfl) ?_
  refine va_get (D := (dC, dI)) (ci := 2) (v := .int (u_8.1 0)) (C := RX2) (T := TX2) (N := 8) hx hb hts hin_X2 hown hK hP 0 rfl rfl 0 (by decide) lk_1 (fun _ h9 => h9) rfl dX2_add_46 ?_
  refine lv_iload hx hb dX2_add_49 (lv_at hl 5 rfl) ?_
  obtain ⟨hi_9, h⟩ := h
  refine va_iast (D := (dC, dI)) (cl := vwCl) (i := (u_8.1 0)) hx hb hK hP hD hS 6 5 rfl rfl hi_9 dX2_add_51 (fun H locs hP hD hS => ?_)
  obtain ⟨u_10, eu_10⟩ : ∃ z : Ob, z = fs_a u_8 7 (upd (u_8.2.1 7) (u_8.1 0).toNatClampNeg x5) := ⟨_, rfl⟩
  replace h := h u_10 eu_10
  replace hP : va_P (dC, dI) vwCl (wd_X2 a ca u_10) H := by rw [eu_10]; exact hP
  replace hD : va_D A (wd_X2 a ca u_10) := by rw [eu_10]; exact hD
  refine lv_aload_n hx hb dX2_add_52 rfl (lv_at hl 0 rfl) ?_
  refine va_get (D := (dC, dI)) (ci := 2) (v := .ref (a 3)) (C := RX2) (T := TX2) (N := 8) hx hb hts hin_X2 hown hK hP 0 rfl rfl 2 (by decide) lk_6 (fun _ h9 => h9) rfl dX2_add_53 ?_
  refine lv_aload_n hx hb dX2_add_56 rfl (lv_at hl 0 rfl) ?_
  refine va_get (D := (dC, dI)) (ci := 2) (v := .int (u_10.1 0)) (C := RX2) (T := TX2) (N := 8) hx hb hts hin_X2 hown hK hP 0 rfl rfl 0 (by decide) lk_1 (fun _ h9 => h9) rfl dX2_add_57 ?_
  refine lv_iload hx hb dX2_add_60 (lv_at hl 5 rfl) ?_
  refine jn1_ind (GG := (fun (w_12 : Int32) => ∀ (H : Heap) (locs : List Loc) (ls : Array Slot), va_P (dC, dI) vwCl (wd_X2 a ca u_10) H → va_D A (wd_X2 a ca u_10) → va_S A s.heap H locs → lv_has ls 6 [(0, .ref (a 0))] → W p l e (headSpec wsX2_add rm_X2_add).room s m args below meth c H locs 0 0 Q (F0 m 78 ls [.int w_12, .int (u_10.1 0), .ref (a 3)]))) h (fun w_12 h H locs ls hP hD hS hl => ?_) (fun JJ_11 ih_JJ_11 h => ?_)
  · obtain ⟨hi_13, h⟩ := h
    refine va_iast (D := (dC, dI)) (cl := vwCl) (i := (u_10.1 0)) hx hb hK hP hD hS 1 0 rfl rfl hi_13 dX2_add_78 (fun H locs hP hD hS => ?_)
    obtain ⟨u_14, eu_14⟩ : ∃ z : Ob, z = fs_a u_10 2 (upd (u_10.2.1 2) (u_10.1 0).toNatClampNeg w_12) := ⟨_, rfl⟩
    replace h := h u_14 eu_14
    replace hP : va_P (dC, dI) vwCl (wd_X2 a ca u_14) H := by rw [eu_14]; exact hP
    replace hD : va_D A (wd_X2 a ca u_14) := by rw [eu_14]; exact hD
    refine lv_aload_n hx hb dX2_add_79 rfl (lv_at hl 0 rfl) ?_
    refine lv_dup hx hb dX2_add_80 rfl ?_
    refine va_get (D := (dC, dI)) (ci := 2) (v := .int (u_14.1 0)) (C := RX2) (T := TX2) (N := 8) hx hb hts hin_X2 hown hK hP 0 rfl rfl 0 (by decide) lk_1 (fun _ h9 => h9) rfl dX2_add_81 ?_
    refine lv_iconst (v := 1) hx hb dX2_add_84 (by decide) ?_
    refine lv_iadd hx hb dX2_add_85 ?_
    refine va_put (D := (dC, dI)) (ci := 2) (v := .int ((u_14.1 0) + 1)) (ty := .int) (C := RX2) (T := TX2) (N := 8) hx hb hts hin_X2 tyX2 tyX2_ok nmX2 hown hK hP hD hS 0 rfl rfl 0 (by decide) lk_1 (fun _ h9 => h9) rfl (by decide +kernel) rfl rfl (Nat.le_of_ble_eq_true rfl) dX2_add_86 (fun H locs hP hD hS => ?_)
    obtain ⟨u_15, eu_15⟩ : ∃ z : Ob, z = fs_i u_14 0 ((u_14.1 0) + 1) := ⟨_, rfl⟩
    replace h := h u_15 eu_15
    replace hP : va_P (dC, dI) vwCl (wd_X2 a ca u_15) H := by rw [eu_15]; exact hP
    replace hD : va_D A (wd_X2 a ca u_15) := by rw [eu_15]; exact hD
    subst hQ
    exact W.vret hx hb hr (fun t ht hW => ⟨⟨u_15, rfl, h, by rw [ht]; exact hP, hD⟩, hS.F ht⟩) hS.2.2 dX2_add_89
  · refine lv_if_ge (tgt := 69) hx hb dX2_add_62 (by decide) (fun hc_16 => ?_) (fun hc_16 => ?_)
    · replace h := h.1 hc_16
      refine lv_aload_n hx hb dX2_add_69 rfl (lv_at hl 0 rfl) ?_
      refine va_get (D := (dC, dI)) (ci := 2) (v := .ref (a 3)) (C := RX2) (T := TX2) (N := 8) hx hb hts hin_X2 hown hK hP 0 rfl rfl 2 (by decide) lk_6 (fun _ h9 => h9) rfl dX2_add_70 ?_
      refine lv_iload hx hb dX2_add_73 (lv_at hl 5 rfl) ?_
      obtain ⟨hi_17, h⟩ := h
      refine va_iald (D := (dC, dI)) (cl := vwCl) (i := x5) hx hb hK hP 1 0 rfl rfl hi_17 dX2_add_75 ?_
      refine lv_iconst (v := 1) hx hb dX2_add_76 (by decide) ?_
      refine lv_iadd hx hb dX2_add_77 ?_
      exact ih_JJ_11 _ h _ _ _ hP hD hS (lv_sub hl [0] rfl)
    · replace h := h.2 hc_16
      refine lv_iconst (v := 0) hx hb dX2_add_65 (by decide) ?_
      refine lv_goto (tgt := 78) hx hb dX2_add_66 (by decide) ?_
      exact ih_JJ_11 _ h _ _ _ hP hD hS (lv_sub hl [0] rfl)
abbrev rm_X2_isBelowPlace : Room := { frames := 1, cells := 0, slots := 0, locals := 24 }
set_option maxHeartbeats 4000000 in
set_option maxRecDepth 100000 in
theorem c_X2_isBelowPlace (l : Launch) (dC : Nat → ClassId) (dI : Nat → Nat → Nat) (a : Nat → Nat) (ca : Nat → ClassId) (sz : Nat) (u : Ob) (x1 : Int32) (x2 : Int32) (x3 : Int32) (x4 : Int32) (post : Int32 → Prop) (h : wp_X2_isBelowPlace u x1 x2 x3 x4 post) : Met l yX2_isBelowPlace wsX2_isBelowPlace rm_X2_isBelowPlace (va_Pc [.ref (a 0), .int x1, .int x2, .int x3, .int x4] (fun U => U.heap.size = sz ∧ va_P (dC, dI) vwCl (wd_X2 a ca u) U.heap ∧ va_K (dC, dI) vwCl (ty_X2 ca) U ∧ va_D (fun _ => True) (wd_X2 a ca u))) (va_Qi (fun (rr : Int32) (_ : Unit) => post rr) (fun (zz : Unit) (t : State) => va_P (dC, dI) vwCl (wd_X2 a ca u) t.heap ∧ va_D (va_A (wd_X2 a ca u) sz) (wd_X2 a ca u)) (va_A (wd_X2 a ca u) sz)) 0 0 (va_A (wd_X2 a ca u) sz) := by
  refine fl_ofW (cc := cX2_isBelowPlace) (maxL := 5) (ret := (some .boolean)) (by decide) rfl ?_
  intro p e s m args below meth c s₁ Q B hml hv hQ
  obtain ⟨hargs, hsz, hP, hK, hD0⟩ := hv
  have hx := B.exec
  have hb := B.bytes
  have hr := B.returns
  have hts := atoms_spec (ws := wsX2_isBelowPlace) B.pre
  have hown : s.vm.findClass RX2 = some m.cls := findClass_of_methodNamed B.named
  subst hsz
  have hD := hD0.self (sz := s.heap.size)
  generalize hAe : va_A (wd_X2 a ca u) s.heap.size = A at hD hQ
  have hA : ∀ q : Nat, s.heap.size ≤ q → A q := fun q h => by rw [← hAe]; exact Or.inr h
  have hS : va_S A s.heap s.heap [] := va_S.rf
  have hl := lv_entry ([.ref (a 0), .int x1, .int x2, .int x3, .int x4]) (n := 5) (Nat.le_of_ble_eq_true rfl)
  refine W.eq (g2 := F0 m 0 ((lg_sl ([.ref (a 0), .int x1, .int x2, .int x3, .int x4]) ++ List.replicate (5 - (lg_sl ([.ref (a 0), .int x1, .int x2, .int x3, .int x4])).length) Slot.unset).toArray) []) (by rw [hargs]; exact lg_entry_eq m _ 5) ?_
  generalize (lg_sl ([.ref (a 0), .int x1, .int x2, .int x3, .int x4]) ++ List.replicate (5 - (lg_sl ([.ref (a 0), .int x1, .int x2, .int x3, .int x4])).length) Slot.unset).toArray = ls at hl ⊢
  have hl : lv_has ls 5 [(0, .ref (a 0)), (1, .int x1), (2, .int x2), (3, .int x3), (4, .int x4)] := hl
  suffices hstart : ∀ (H : Heap) (locs : List Loc) (ls : Array Slot), va_P (dC, dI) vwCl (wd_X2 a ca u) H → va_D A (wd_X2 a ca u) → va_S A s.heap H locs → lv_has ls 5 [(0, .ref (a 0)), (1, .int x1), (2, .int x2), (3, .int x3), (4, .int x4)] → W p l e (headSpec wsX2_isBelowPlace rm_X2_isBelowPlace).room s m args below meth c H locs 0 0 Q (F0 m 0 ls []) from hstart _ _ _ hP hD hS hl
  clear hS hP hD hD0
  intro H locs ls hP hD hS hl
  have hin_X2 : ∀ w ∈ wsX20, w ∈ wsX2_isBelowPlace := by decide +kernel
  have lk_0 := hts (.fieldLink RX2 15 "ForgettingLines$Search" "states" "[I") (by decide +kernel)
  have lk_1 := hts (.fieldLink RX2 18 "ForgettingLines$Search" "words0" "[I") (by decide +kernel)
  have lk_2 := hts (.fieldLink RX2 21 "ForgettingLines$Search" "words1" "[I") (by decide +kernel)
  unfold wp_X2_isBelowPlace at h
  refine lv_aload_n hx hb dX2_isBelowPlace_0 rfl (lv_at hl 0 rfl) ?_
  refine va_get (D := (dC, dI)) (ci := 2) (v := .ref (a 4)) (C := RX2) (T := TX2) (N := 8) hx hb hts hin_X2 hown hK hP 0 rfl rfl 3 (by decide) lk_0 (fun _ h9 => h9) rfl dX2_isBelowPlace_1 ?_
  refine lv_iload_n hx hb dX2_isBelowPlace_4 rfl (lv_at hl 1 rfl) ?_
  obtain ⟨hi_1, h⟩ := h
  refine va_iald (D := (dC, dI)) (cl := vwCl) (i := x1) hx hb hK hP 2 1 rfl rfl hi_1 dX2_isBelowPlace_5 ?_
  refine lv_iload_n hx hb dX2_isBelowPlace_6 rfl (lv_at hl 2 rfl) ?_
  refine lv_icmp_ne (tgt := 41) hx hb dX2_isBelowPlace_7 (by decide) (fun hc_2 => ?_) (fun hc_2 => ?_)
  · replace h := h.1 hc_2
    refine lv_iconst (v := 0) hx hb dX2_isBelowPlace_41 (by decide) ?_
    subst hQ
    exact W.zret (v := 0) hx hb hr (by rfl) (fun t ht hW => ⟨⟨_, (), rfl, h, by rw [ht]; exact hP, hD⟩, hS.F ht⟩) hS.2.2 dX2_isBelowPlace_42
  · replace h := h.2 hc_2
    refine lv_aload_n hx hb dX2_isBelowPlace_10 rfl (lv_at hl 0 rfl) ?_
    refine va_get (D := (dC, dI)) (ci := 2) (v := .ref (a 5)) (C := RX2) (T := TX2) (N := 8) hx hb hts hin_X2 hown hK hP 0 rfl rfl 4 (by decide) lk_1 (fun _ h9 => h9) rfl dX2_isBelowPlace_11 ?_
    refine lv_iload_n hx hb dX2_isBelowPlace_14 rfl (lv_at hl 1 rfl) ?_
    obtain ⟨hi_3, h⟩ := h
    refine va_iald (D := (dC, dI)) (cl := vwCl) (i := x1) hx hb hK hP 3 2 rfl rfl hi_3 dX2_isBelowPlace_15 ?_
    refine lv_iload_n hx hb dX2_isBelowPlace_16 rfl (lv_at hl 3 rfl) ?_
    have hFc := fl_freeN hS hA
    refine va_calli (va_runS (As := [.int (u.2.1 4 x1.toNatClampNeg), .int x3]) (rest := []) ⟨hx, hb, hml, hown, hts⟩ (c_X6_isIn l H.size (u.2.1 4 x1.toNatClampNeg) x3 _ h) (va_cwS 2 hts gX2_isBelowPlace_X6_isIn rfl rfl rfl (by decide +kernel) ⟨Nat.le_of_ble_eq_true rfl, Nat.le_of_ble_eq_true rfl⟩) ⟨fun a U g mk q => by obtain ⟨q0, q1⟩ := q; exact ⟨q0, q1⟩, fun U hU hW => ⟨rfl, congrArg Array.size hU⟩⟩ rfl rfl hl.1 rfl (lv_room (Nat.le_of_ble_eq_true rfl)) dX2_isBelowPlace_17 ⟨Nat.zero_le _, Nat.zero_le _⟩) hS (fun q _ h => hFc q h) hFc (fun r_4 zz t H1 locs ht hvm hw hB hz1 hk1 hS => ?_)
    replace hP := fl_keep hP hk1
    replace h := hw
    generalize H1 = H at hP hS ⊢
    refine lv_if_eq (tgt := 41) hx hb dX2_isBelowPlace_20 (by decide) (fun hc_5 => ?_) (fun hc_5 => ?_)
    · replace h := h.1 hc_5
      refine lv_iconst (v := 0) hx hb dX2_isBelowPlace_41 (by decide) ?_
      subst hQ
      exact W.zret (v := 0) hx hb hr (by rfl) (fun t ht hW => ⟨⟨_, (), rfl, h, by rw [ht]; exact hP, hD⟩, hS.F ht⟩) hS.2.2 dX2_isBelowPlace_42
    · replace h := h.2 hc_5
      refine lv_aload_n hx hb dX2_isBelowPlace_23 rfl (lv_at hl 0 rfl) ?_
      refine va_get (D := (dC, dI)) (ci := 2) (v := .ref (a 6)) (C := RX2) (T := TX2) (N := 8) hx hb hts hin_X2 hown hK hP 0 rfl rfl 5 (by decide) lk_2 (fun _ h9 => h9) rfl dX2_isBelowPlace_24 ?_
      refine lv_iload_n hx hb dX2_isBelowPlace_27 rfl (lv_at hl 1 rfl) ?_
      obtain ⟨hi_6, h⟩ := h
      refine va_iald (D := (dC, dI)) (cl := vwCl) (i := x1) hx hb hK hP 4 3 rfl rfl hi_6 dX2_isBelowPlace_28 ?_
      refine lv_iload hx hb dX2_isBelowPlace_29 (lv_at hl 4 rfl) ?_
      have hFc := fl_freeN hS hA
      refine va_calli (va_runS (As := [.int (u.2.1 5 x1.toNatClampNeg), .int x4]) (rest := []) ⟨hx, hb, hml, hown, hts⟩ (c_X6_isIn l H.size (u.2.1 5 x1.toNatClampNeg) x4 _ h) (va_cwS 2 hts gX2_isBelowPlace_X6_isIn rfl rfl rfl (by decide +kernel) ⟨Nat.le_of_ble_eq_true rfl, Nat.le_of_ble_eq_true rfl⟩) ⟨fun a U g mk q => by obtain ⟨q0, q1⟩ := q; exact ⟨q0, q1⟩, fun U hU hW => ⟨rfl, congrArg Array.size hU⟩⟩ rfl rfl hl.1 rfl (lv_room (Nat.le_of_ble_eq_true rfl)) dX2_isBelowPlace_31 ⟨Nat.zero_le _, Nat.zero_le _⟩) hS (fun q _ h => hFc q h) hFc (fun r_7 zz t H1 locs ht hvm hw hB hz1 hk1 hS => ?_)
      replace hP := fl_keep hP hk1
      replace h := hw
      generalize H1 = H at hP hS ⊢
      refine lv_if_eq (tgt := 41) hx hb dX2_isBelowPlace_34 (by decide) (fun hc_8 => ?_) (fun hc_8 => ?_)
      · replace h := h.1 hc_8
        refine lv_iconst (v := 0) hx hb dX2_isBelowPlace_41 (by decide) ?_
        subst hQ
        exact W.zret (v := 0) hx hb hr (by rfl) (fun t ht hW => ⟨⟨_, (), rfl, h, by rw [ht]; exact hP, hD⟩, hS.F ht⟩) hS.2.2 dX2_isBelowPlace_42
      · replace h := h.2 hc_8
        refine lv_iconst (v := 1) hx hb dX2_isBelowPlace_37 (by decide) ?_
        refine lv_goto (tgt := 42) hx hb dX2_isBelowPlace_38 (by decide) ?_
        subst hQ
        exact W.zret (v := 1) hx hb hr (by rfl) (fun t ht hW => ⟨⟨_, (), rfl, h, by rw [ht]; exact hP, hD⟩, hS.F ht⟩) hS.2.2 dX2_isBelowPlace_42
abbrev rm_X2_firstBelow : Room := { frames := 2, cells := 0, slots := 0, locals := 48 }
set_option maxHeartbeats 4000000 in
set_option maxRecDepth 100000 in
theorem c_X2_firstBelow (l : Launch) (dC : Nat → ClassId) (dI : Nat → Nat → Nat) (a : Nat → Nat) (ca : Nat → ClassId) (sz : Nat) (u : Ob) (x1 : Int32) (x2 : Int32) (x3 : Int32) (post : Int32 → Prop) (h : wp_X2_firstBelow u x1 x2 x3 post) : Met l yX2_firstBelow wsX2_firstBelow rm_X2_firstBelow (va_Pc [.ref (a 0), .int x1, .int x2, .int x3] (fun U => U.heap.size = sz ∧ va_P (dC, dI) vwCl (wd_X2 a ca u) U.heap ∧ va_K (dC, dI) vwCl (ty_X2 ca) U ∧ va_D (fun _ => True) (wd_X2 a ca u))) (va_Qi (fun (rr : Int32) (_ : Unit) => post rr) (fun (zz : Unit) (t : State) => va_P (dC, dI) vwCl (wd_X2 a ca u) t.heap ∧ va_D (va_A (wd_X2 a ca u) sz) (wd_X2 a ca u)) (va_A (wd_X2 a ca u) sz)) 0 0 (va_A (wd_X2 a ca u) sz) := by
  refine fl_ofW (cc := cX2_firstBelow) (maxL := 5) (ret := (some .int)) (by decide) rfl ?_
  intro p e s m args below meth c s₁ Q B hml hv hQ
  obtain ⟨hargs, hsz, hP, hK, hD0⟩ := hv
  have hx := B.exec
  have hb := B.bytes
  have hr := B.returns
  have hts := atoms_spec (ws := wsX2_firstBelow) B.pre
  have hown : s.vm.findClass RX2 = some m.cls := findClass_of_methodNamed B.named
  subst hsz
  have hD := hD0.self (sz := s.heap.size)
  generalize hAe : va_A (wd_X2 a ca u) s.heap.size = A at hD hQ
  have hA : ∀ q : Nat, s.heap.size ≤ q → A q := fun q h => by rw [← hAe]; exact Or.inr h
  have hS : va_S A s.heap s.heap [] := va_S.rf
  have hl := lv_entry ([.ref (a 0), .int x1, .int x2, .int x3]) (n := 5) (Nat.le_of_ble_eq_true rfl)
  refine W.eq (g2 := F0 m 0 ((lg_sl ([.ref (a 0), .int x1, .int x2, .int x3]) ++ List.replicate (5 - (lg_sl ([.ref (a 0), .int x1, .int x2, .int x3])).length) Slot.unset).toArray) []) (by rw [hargs]; exact lg_entry_eq m _ 5) ?_
  generalize (lg_sl ([.ref (a 0), .int x1, .int x2, .int x3]) ++ List.replicate (5 - (lg_sl ([.ref (a 0), .int x1, .int x2, .int x3])).length) Slot.unset).toArray = ls at hl ⊢
  have hl : lv_has ls 5 [(0, .ref (a 0)), (1, .int x1), (2, .int x2), (3, .int x3)] := hl
  suffices hstart : ∀ (H : Heap) (locs : List Loc) (ls : Array Slot), va_P (dC, dI) vwCl (wd_X2 a ca u) H → va_D A (wd_X2 a ca u) → va_S A s.heap H locs → lv_has ls 5 [(0, .ref (a 0)), (1, .int x1), (2, .int x2), (3, .int x3)] → W p l e (headSpec wsX2_firstBelow rm_X2_firstBelow).room s m args below meth c H locs 0 0 Q (F0 m 0 ls []) from hstart _ _ _ hP hD hS hl
  clear hS hP hD hD0
  intro H locs ls hP hD hS hl
  have hin_X2 : ∀ w ∈ wsX20, w ∈ wsX2_firstBelow := by decide +kernel
  have lk_0 := hts (.fieldLink RX2 30 "ForgettingLines$Search" "count" "I") (by decide +kernel)
  unfold wp_X2_firstBelow at h
  refine lv_iconst (v := 0) hx hb dX2_firstBelow_0 (by decide) ?_
  refine lv_istore (lv' := [(4, .int 0), (0, .ref (a 0)), (1, .int x1), (2, .int x2), (3, .int x3)]) hx hb dX2_firstBelow_1 hl (by decide) rfl (fun ls hl => ?_)
  obtain ⟨n_6, h⟩ := h
  refine lq1_ind (GG := (fun (v4_2 : Int32) => ∀ (H : Heap) (locs : List Loc) (ls : Array Slot), va_P (dC, dI) vwCl (wd_X2 a ca u) H → va_D A (wd_X2 a ca u) → va_S A s.heap H locs → lv_has ls 5 [(4, .int v4_2), (0, .ref (a 0)), (1, .int x1), (2, .int x2), (3, .int x3)] → W p l e (headSpec wsX2_firstBelow rm_X2_firstBelow).room s m args below meth c H locs 0 0 Q (F0 m 3 ls []))) (fun LL_1 ih_LL_1 v4_2 h H locs ls hP hD hS hl => ?_) n_6 _ h _ _ _ hP hD hS (lv_sub hl [0, 1, 2, 3, 4] rfl)
  refine lv_iload hx hb dX2_firstBelow_3 (lv_at hl 0 rfl) ?_
  refine lv_aload_n hx hb dX2_firstBelow_5 rfl (lv_at hl 1 rfl) ?_
  refine va_get (D := (dC, dI)) (ci := 2) (v := .int (u.1 0)) (C := RX2) (T := TX2) (N := 8) hx hb hts hin_X2 hown hK hP 0 rfl rfl 0 (by decide) lk_0 (fun _ h9 => h9) rfl dX2_firstBelow_6 ?_
  refine lv_icmp_ge (tgt := 33) hx hb dX2_firstBelow_9 (by decide) (fun hc_3 => ?_) (fun hc_3 => ?_)
  · replace h := h.1 hc_3
    refine lv_iconst (v := (-1)) hx hb dX2_firstBelow_33 (by decide) ?_
    subst hQ
    exact W.iret (v := (-1)) hx hb hr (fun t ht hW => ⟨⟨_, (), rfl, h, by rw [ht]; exact hP, hD⟩, hS.F ht⟩) hS.2.2 dX2_firstBelow_34
  · replace h := h.2 hc_3
    refine lv_aload_n hx hb dX2_firstBelow_12 rfl (lv_at hl 1 rfl) ?_
    refine lv_iload hx hb dX2_firstBelow_13 (lv_at hl 0 rfl) ?_
    refine lv_iload_n hx hb dX2_firstBelow_15 rfl (lv_at hl 2 rfl) ?_
    refine lv_iload_n hx hb dX2_firstBelow_16 rfl (lv_at hl 3 rfl) ?_
    refine lv_iload_n hx hb dX2_firstBelow_17 rfl (lv_at hl 4 rfl) ?_
    have hPc := hP
    have hDc := hD
    have hKc := hK
    have hFc := va_free (wc := (wd_X2 a ca u)) hD hS hA [0, 1, 2, 3, 4, 5, 6] rfl
    refine va_calli (va_runV (As := [.int v4_2, .int x1, .int x2, .int x3]) (rest := []) ⟨hx, hb, hml, hown, hts⟩ (c_X2_isBelowPlace l dC dI a ca H.size u v4_2 x1 x2 x3 _ h) (cwV 4 hts gX2_firstBelow_X2_isBelowPlace rfl rfl rfl (by decide +kernel) ⟨Nat.le_of_ble_eq_true rfl, Nat.le_of_ble_eq_true rfl⟩) ⟨fun a U g mk q => by obtain ⟨q0, q1, qP, qK, qD⟩ := q; exact ⟨q0, q1, qP, va_K.moved (u := U) (U := U.calling g mk a) (Vm.Alike.refl U.vm) qK, qD⟩, va_recv hKc hPc (ci := 2) (q0 := 0) rfl rfl, fun U hU hW => ⟨rfl, by rw [hU], by rw [hU]; exact hPc, va_K.moved hW.alike hKc, hDc.weaken (fun _ _ _ _ => trivial)⟩⟩ rfl rfl hl.1 rfl (lv_room (Nat.le_of_ble_eq_true rfl)) dX2_firstBelow_18 ⟨Nat.zero_le _, Nat.zero_le _⟩) hS (fun q _ h => hFc q h) hFc (fun r_4 zz t H1 locs ht hvm hw hB hz1 hk1 hS => ?_)
    replace h := hw
    obtain ⟨hP1, hD1⟩ := hB
    rw [ht] at hP1
    replace hD : va_D A (wd_X2 a ca u) := hD1.weaken (fun _ _ _ h9 => hFc _ h9)
    replace hP : va_P (dC, dI) vwCl (wd_X2 a ca u) H1 := hP1
    generalize H1 = H at hP hS ⊢
    refine lv_if_eq (tgt := 27) hx hb dX2_firstBelow_21 (by decide) (fun hc_5 => ?_) (fun hc_5 => ?_)
    · replace h := h.1 hc_5
      refine lv_iinc (v := (v4_2 + 1)) (lv' := [(4, .int (v4_2 + 1)), (0, .ref (a 0)), (1, .int x1), (2, .int x2), (3, .int x3)]) hx hb dX2_firstBelow_27 hl (k := 0) rfl rfl (by decide) rfl (fun ls hl => ?_)
      refine lv_goto (tgt := 3) hx hb dX2_firstBelow_30 (by decide) ?_
      exact ih_LL_1 _ h _ _ _ hP hD hS (lv_sub hl [0, 1, 2, 3, 4] rfl)
    · replace h := h.2 hc_5
      refine lv_iload hx hb dX2_firstBelow_24 (lv_at hl 0 rfl) ?_
      subst hQ
      exact W.iret (v := v4_2) hx hb hr (fun t ht hW => ⟨⟨_, (), rfl, h, by rw [ht]; exact hP, hD⟩, hS.F ht⟩) hS.2.2 dX2_firstBelow_26
abbrev rm_X2_lookAhead : Room := { frames := 3, cells := 0, slots := 0, locals := 73 }
set_option maxHeartbeats 4000000 in
set_option maxRecDepth 100000 in
theorem c_X2_lookAhead (l : Launch) (dC : Nat → ClassId) (dI : Nat → Nat → Nat) (a : Nat → Nat) (ca : Nat → ClassId) (a1 : Nat → Nat) (ca1 : Nat → ClassId) (sz : Nat) (u : Ob) (u1 : Ob) (x2 : Int32) (x3 : Int32) (post : Ob → Prop) (h : wp_X2_lookAhead u u1 x2 x3 post) : Met l yX2_lookAhead wsX2_lookAhead rm_X2_lookAhead (va_Pc [.ref (a 0), .ref (a1 0), .int x2, .int x3] (fun U => U.heap.size = sz ∧ va_P (dC, dI) vwCl (wd_X2 a ca u ++ (wd_X0 a1 ca1 u1)) U.heap ∧ va_K (dC, dI) vwCl (ty_X2 ca ++ (ty_X0 ca1)) U ∧ va_D (fun _ => True) (wd_X2 a ca u ++ (wd_X0 a1 ca1 u1)))) (va_Qv post (fun (zz : Ob) (t : State) => va_P (dC, dI) vwCl (wd_X2 a ca zz ++ (wd_X0 a1 ca1 u1)) t.heap ∧ va_D (va_A (wd_X2 a ca u ++ (wd_X0 a1 ca1 u1)) sz) (wd_X2 a ca zz ++ (wd_X0 a1 ca1 u1))) (va_A (wd_X2 a ca u ++ (wd_X0 a1 ca1 u1)) sz)) 0 0 (va_A (wd_X2 a ca u ++ (wd_X0 a1 ca1 u1)) sz) := by
  refine fl_ofW (cc := cX2_lookAhead) (maxL := 8) (ret := none) (by decide) rfl ?_
  intro p e s m args below meth c s₁ Q B hml hv hQ
  obtain ⟨hargs, hsz, hP, hK, hD0⟩ := hv
  have hx := B.exec
  have hb := B.bytes
  have hr := B.returns
  have hts := atoms_spec (ws := wsX2_lookAhead) B.pre
  have hown : s.vm.findClass RX2 = some m.cls := findClass_of_methodNamed B.named
  subst hsz
  have hD := hD0.self (sz := s.heap.size)
  generalize hAe : va_A (wd_X2 a ca u ++ (wd_X0 a1 ca1 u1)) s.heap.size = A at hD hQ
  have hA : ∀ q : Nat, s.heap.size ≤ q → A q := fun q h => by rw [← hAe]; exact Or.inr h
  have hS : va_S A s.heap s.heap [] := va_S.rf
  have hl := lv_entry ([.ref (a 0), .ref (a1 0), .int x2, .int x3]) (n := 8) (Nat.le_of_ble_eq_true rfl)
  refine W.eq (g2 := F0 m 0 ((lg_sl ([.ref (a 0), .ref (a1 0), .int x2, .int x3]) ++ List.replicate (8 - (lg_sl ([.ref (a 0), .ref (a1 0), .int x2, .int x3])).length) Slot.unset).toArray) []) (by rw [hargs]; exact lg_entry_eq m _ 8) ?_
  generalize (lg_sl ([.ref (a 0), .ref (a1 0), .int x2, .int x3]) ++ List.replicate (8 - (lg_sl ([.ref (a 0), .ref (a1 0), .int x2, .int x3])).length) Slot.unset).toArray = ls at hl ⊢
  have hl : lv_has ls 8 [(0, .ref (a 0)), (1, .ref (a1 0)), (2, .int x2), (3, .int x3)] := hl
  suffices hstart : ∀ (H : Heap) (locs : List Loc) (ls : Array Slot), va_P (dC, dI) vwCl (wd_X2 a ca u ++ (wd_X0 a1 ca1 u1)) H → va_D A (wd_X2 a ca u ++ (wd_X0 a1 ca1 u1)) → va_S A s.heap H locs → lv_has ls 8 [(0, .ref (a 0)), (1, .ref (a1 0)), (2, .int x2), (3, .int x3)] → W p l e (headSpec wsX2_lookAhead rm_X2_lookAhead).room s m args below meth c H locs 0 0 Q (F0 m 0 ls []) from hstart _ _ _ hP hD hS hl
  clear hS hP hD hD0
  intro H locs ls hP hD hS hl
  have hin_X2 : ∀ w ∈ wsX20, w ∈ wsX2_lookAhead := by decide +kernel
  have lk_0 := hts (.fieldLink RX2 30 "ForgettingLines$Search" "count" "I") (by decide +kernel)
  have lk_1 := hts (.fieldLink RX2 34 "ForgettingLines$Search" "spent" "Z") (by decide +kernel)
  have lk_2 := hts (.fieldLink RX2 21 "ForgettingLines$Search" "words1" "[I") (by decide +kernel)
  have lk_3 := hts (.fieldLink RX2 18 "ForgettingLines$Search" "words0" "[I") (by decide +kernel)
  unfold wp_X2_lookAhead at h
  refine lv_aload_n hx hb dX2_lookAhead_0 rfl (lv_at hl 1 rfl) ?_
  refine lv_iload_n hx hb dX2_lookAhead_1 rfl (lv_at hl 2 rfl) ?_
  refine lv_iconst (v := 0) hx hb dX2_lookAhead_2 (by decide) ?_
  have hPc := hP.sub (ws' := (wd_X0 a1 ca1 u1)) [7, 8, 9] rfl
  have hDc := hD.sub (ws' := (wd_X0 a1 ca1 u1)) [7, 8, 9] (by decide) rfl
  have hKc := hK.sub (tys' := (ty_X0 ca1)) [6, 7] rfl
  have hFc := va_free (wc := (wd_X0 a1 ca1 u1)) hD hS hA [7, 8, 9] rfl
  refine va_calli (va_runV (As := [.int x2, .int 0]) (rest := []) ⟨hx, hb, hml, hown, hts⟩ (c_X0_part l dC dI a1 ca1 H.size u1 x2 0 _ h) (cwV 2 hts gX2_lookAhead_X0_part rfl rfl rfl (by decide +kernel) ⟨Nat.le_of_ble_eq_true rfl, Nat.le_of_ble_eq_true rfl⟩) ⟨fun a U g mk q => by obtain ⟨q0, q1, qP, qK, qD⟩ := q; exact ⟨q0, q1, qP, va_K.moved (u := U) (U := U.calling g mk a) (Vm.Alike.refl U.vm) qK, qD⟩, va_recv hKc hPc (ci := 0) (q0 := 0) rfl rfl, fun U hU hW => ⟨rfl, by rw [hU], by rw [hU]; exact hPc, va_K.moved hW.alike hKc, hDc.weaken (fun _ _ _ _ => trivial)⟩⟩ rfl rfl hl.1 rfl (lv_room (Nat.le_of_ble_eq_true rfl)) dX2_lookAhead_3 ⟨Nat.zero_le _, Nat.zero_le _⟩) hS (fun q _ h => hFc q h) hFc (fun r_1 zz t H1 locs ht hvm hw hB hz1 hk1 hS => ?_)
  replace h := hw
  obtain ⟨hP1, hD1⟩ := hB
  rw [ht] at hP1
  obtain ⟨hP, hD⟩ := va_join (wr := [0, 1, 2, 3, 4, 5, 6].filterMap (fun i => (wd_X2 a ca u ++ (wd_X0 a1 ca1 u1))[i]?)) (w1 := (wd_X0 a1 ca1 u1)) hP hD [7, 8, 9] [0, 1, 2, 3, 4, 5, 6] rfl rfl (by decide) (by decide) hk1 hFc hP1 hD1
  replace hP : va_P (dC, dI) vwCl (wd_X2 a ca u ++ (wd_X0 a1 ca1 u1)) H1 := (hP.sub [0, 1, 2, 3, 4, 5, 6, 7, 8, 9] rfl)
  replace hD : va_D A (wd_X2 a ca u ++ (wd_X0 a1 ca1 u1)) := (hD.sub [0, 1, 2, 3, 4, 5, 6, 7, 8, 9] (by decide) rfl)
  generalize H1 = H at hP hS ⊢
  refine lv_istore (lv' := [(4, .int r_1), (0, .ref (a 0)), (1, .ref (a1 0)), (2, .int x2), (3, .int x3)]) hx hb dX2_lookAhead_6 hl (by decide) rfl (fun ls hl => ?_)
  refine lv_aload_n hx hb dX2_lookAhead_8 rfl (lv_at hl 2 rfl) ?_
  refine lv_iload_n hx hb dX2_lookAhead_9 rfl (lv_at hl 3 rfl) ?_
  refine lv_iconst (v := 2) hx hb dX2_lookAhead_10 (by decide) ?_
  have hPc := hP.sub (ws' := (wd_X0 a1 ca1 u1)) [7, 8, 9] rfl
  have hDc := hD.sub (ws' := (wd_X0 a1 ca1 u1)) [7, 8, 9] (by decide) rfl
  have hKc := hK.sub (tys' := (ty_X0 ca1)) [6, 7] rfl
  have hFc := va_free (wc := (wd_X0 a1 ca1 u1)) hD hS hA [7, 8, 9] rfl
  refine va_calli (va_runV (As := [.int x2, .int 2]) (rest := []) ⟨hx, hb, hml, hown, hts⟩ (c_X0_part l dC dI a1 ca1 H.size u1 x2 2 _ h) (cwV 2 hts gX2_lookAhead_X0_part rfl rfl rfl (by decide +kernel) ⟨Nat.le_of_ble_eq_true rfl, Nat.le_of_ble_eq_true rfl⟩) ⟨fun a U g mk q => by obtain ⟨q0, q1, qP, qK, qD⟩ := q; exact ⟨q0, q1, qP, va_K.moved (u := U) (U := U.calling g mk a) (Vm.Alike.refl U.vm) qK, qD⟩, va_recv hKc hPc (ci := 0) (q0 := 0) rfl rfl, fun U hU hW => ⟨rfl, by rw [hU], by rw [hU]; exact hPc, va_K.moved hW.alike hKc, hDc.weaken (fun _ _ _ _ => trivial)⟩⟩ rfl rfl hl.1 rfl (lv_room (Nat.le_of_ble_eq_true rfl)) dX2_lookAhead_11 ⟨Nat.zero_le _, Nat.zero_le _⟩) hS (fun q _ h => hFc q h) hFc (fun r_2 zz t H1 locs ht hvm hw hB hz1 hk1 hS => ?_)
  replace h := hw
  obtain ⟨hP1, hD1⟩ := hB
  rw [ht] at hP1
  obtain ⟨hP, hD⟩ := va_join (wr := [0, 1, 2, 3, 4, 5, 6].filterMap (fun i => (wd_X2 a ca u ++ (wd_X0 a1 ca1 u1))[i]?)) (w1 := (wd_X0 a1 ca1 u1)) hP hD [7, 8, 9] [0, 1, 2, 3, 4, 5, 6] rfl rfl (by decide) (by decide) hk1 hFc hP1 hD1
  replace hP : va_P (dC, dI) vwCl (wd_X2 a ca u ++ (wd_X0 a1 ca1 u1)) H1 := (hP.sub [0, 1, 2, 3, 4, 5, 6, 7, 8, 9] rfl)
  replace hD : va_D A (wd_X2 a ca u ++ (wd_X0 a1 ca1 u1)) := (hD.sub [0, 1, 2, 3, 4, 5, 6, 7, 8, 9] (by decide) rfl)
  generalize H1 = H at hP hS ⊢
  refine lv_istore (lv' := [(5, .int r_2), (4, .int r_1), (0, .ref (a 0)), (1, .ref (a1 0)), (2, .int x2), (3, .int x3)]) hx hb dX2_lookAhead_14 hl (by decide) rfl (fun ls hl => ?_)
  refine lv_iload hx hb dX2_lookAhead_16 (lv_at hl 0 rfl) ?_
  refine jn1_ind (GG := (fun (w_4 : Int32) => ∀ (H : Heap) (locs : List Loc) (ls : Array Slot), va_P (dC, dI) vwCl (wd_X2 a ca u ++ (wd_X0 a1 ca1 u1)) H → va_D A (wd_X2 a ca u ++ (wd_X0 a1 ca1 u1)) → va_S A s.heap H locs → lv_has ls 8 [(5, .int r_2), (4, .int r_1), (0, .ref (a 0)), (1, .ref (a1 0)), (2, .int x2), (3, .int x3)] → W p l e (headSpec wsX2_lookAhead rm_X2_lookAhead).room s m args below meth c H locs 0 0 Q (F0 m 41 ls [.int w_4]))) h (fun w_4 h H locs ls hP hD hS hl => ?_) (fun JJ_3 ih_JJ_3 h => ?_)
  · refine lv_istore (lv' := [(6, .int w_4), (5, .int r_2), (4, .int r_1), (0, .ref (a 0)), (1, .ref (a1 0)), (2, .int x2), (3, .int x3)]) hx hb dX2_lookAhead_41 hl (by decide) rfl (fun ls hl => ?_)
    refine lv_iload hx hb dX2_lookAhead_43 (lv_at hl 1 rfl) ?_
    refine lv_iconst (v := 1) hx hb dX2_lookAhead_45 (by decide) ?_
    refine jn1_ind (GG := (fun (w_6 : Int32) => ∀ (H : Heap) (locs : List Loc) (ls : Array Slot), va_P (dC, dI) vwCl (wd_X2 a ca u ++ (wd_X0 a1 ca1 u1)) H → va_D A (wd_X2 a ca u ++ (wd_X0 a1 ca1 u1)) → va_S A s.heap H locs → lv_has ls 8 [(6, .int w_4), (4, .int r_1), (0, .ref (a 0)), (2, .int x2), (3, .int x3)] → W p l e (headSpec wsX2_lookAhead rm_X2_lookAhead).room s m args below meth c H locs 0 0 Q (F0 m 69 ls [.int w_6]))) h (fun w_6 h H locs ls hP hD hS hl => ?_) (fun JJ_5 ih_JJ_5 h => ?_)
    · refine lv_istore (lv' := [(7, .int w_6), (6, .int w_4), (4, .int r_1), (0, .ref (a 0)), (2, .int x2), (3, .int x3)]) hx hb dX2_lookAhead_69 hl (by decide) rfl (fun ls hl => ?_)
      refine lv_aload_n hx hb dX2_lookAhead_71 rfl (lv_at hl 3 rfl) ?_
      refine lv_iload hx hb dX2_lookAhead_72 (lv_at hl 2 rfl) ?_
      refine lv_iload hx hb dX2_lookAhead_74 (lv_at hl 1 rfl) ?_
      refine lv_iload hx hb dX2_lookAhead_76 (lv_at hl 0 rfl) ?_
      have hPc := hP.sub (ws' := (wd_X2 a ca u)) [0, 1, 2, 3, 4, 5, 6] rfl
      have hDc := hD.sub (ws' := (wd_X2 a ca u)) [0, 1, 2, 3, 4, 5, 6] (by decide) rfl
      have hKc := hK.sub (tys' := (ty_X2 ca)) [0, 1, 2, 3, 4, 5] rfl
      have hFc := va_free (wc := (wd_X2 a ca u)) hD hS hA [0, 1, 2, 3, 4, 5, 6] rfl
      refine va_calli (va_runV (As := [.int r_1, .int w_4, .int w_6]) (rest := []) ⟨hx, hb, hml, hown, hts⟩ (c_X2_firstBelow l dC dI a ca H.size u r_1 w_4 w_6 _ h) (cwV 3 hts gX2_lookAhead_X2_firstBelow rfl rfl rfl (by decide +kernel) ⟨Nat.le_of_ble_eq_true rfl, Nat.le_of_ble_eq_true rfl⟩) ⟨fun a U g mk q => by obtain ⟨q0, q1, qP, qK, qD⟩ := q; exact ⟨q0, q1, qP, va_K.moved (u := U) (U := U.calling g mk a) (Vm.Alike.refl U.vm) qK, qD⟩, va_recv hKc hPc (ci := 2) (q0 := 0) rfl rfl, fun U hU hW => ⟨rfl, by rw [hU], by rw [hU]; exact hPc, va_K.moved hW.alike hKc, hDc.weaken (fun _ _ _ _ => trivial)⟩⟩ rfl rfl hl.1 rfl (lv_room (Nat.le_of_ble_eq_true rfl)) dX2_lookAhead_78 ⟨Nat.zero_le _, Nat.zero_le _⟩) hS (fun q _ h => hFc q h) hFc (fun r_7 zz t H1 locs ht hvm hw hB hz1 hk1 hS => ?_)
      replace h := hw
      obtain ⟨hP1, hD1⟩ := hB
      rw [ht] at hP1
      obtain ⟨hP, hD⟩ := va_join (wr := [7, 8, 9].filterMap (fun i => (wd_X2 a ca u ++ (wd_X0 a1 ca1 u1))[i]?)) (w1 := (wd_X2 a ca u)) hP hD [0, 1, 2, 3, 4, 5, 6] [7, 8, 9] rfl rfl (by decide) (by decide) hk1 hFc hP1 hD1
      replace hP : va_P (dC, dI) vwCl (wd_X2 a ca u ++ (wd_X0 a1 ca1 u1)) H1 := (hP.sub [3, 4, 5, 6, 7, 8, 9, 0, 1, 2] rfl)
      replace hD : va_D A (wd_X2 a ca u ++ (wd_X0 a1 ca1 u1)) := (hD.sub [3, 4, 5, 6, 7, 8, 9, 0, 1, 2] (by decide) rfl)
      generalize H1 = H at hP hS ⊢
      refine lv_if_lt (tgt := 85) hx hb dX2_lookAhead_81 (by decide) (fun hc_8 => ?_) (fun hc_8 => ?_)
      · replace h := h.1 hc_8
        refine lv_aload_n hx hb dX2_lookAhead_85 rfl (lv_at hl 3 rfl) ?_
        refine va_get (D := (dC, dI)) (ci := 2) (v := .int (u.1 0)) (C := RX2) (T := TX2) (N := 8) hx hb hts hin_X2 hown hK hP 0 rfl rfl 0 (by decide) lk_0 (fun _ h9 => h9) rfl dX2_lookAhead_86 ?_
        refine lv_bipush (v := 80) hx hb dX2_lookAhead_89 (by decide) ?_
        refine jn0_ind (GG := (∀ (H : Heap) (locs : List Loc) (ls : Array Slot), va_P (dC, dI) vwCl (wd_X2 a ca u ++ (wd_X0 a1 ca1 u1)) H → va_D A (wd_X2 a ca u ++ (wd_X0 a1 ca1 u1)) → va_S A s.heap H locs → lv_has ls 8 [(0, .ref (a 0))] → W p l e (headSpec wsX2_lookAhead rm_X2_lookAhead).room s m args below meth c H locs 0 0 Q (F0 m 114 ls []))) h (fun  h H locs ls hP hD hS hl => ?_) (fun JJ_9 ih_JJ_9 h => ?_)
        · refine lv_aload_n hx hb dX2_lookAhead_114 rfl (lv_at hl 0 rfl) ?_
          refine lv_iconst (v := 1) hx hb dX2_lookAhead_115 (by decide) ?_
          refine va_put (D := (dC, dI)) (ci := 2) (v := .int 1) (ty := .boolean) (C := RX2) (T := TX2) (N := 8) hx hb hts hin_X2 tyX2 tyX2_ok nmX2 hown hK hP hD hS 0 rfl rfl 1 (by decide) lk_1 (fun _ h9 => h9) rfl (by decide +kernel) rfl rfl (Nat.le_of_ble_eq_true rfl) dX2_lookAhead_116 (fun H locs hP hD hS => ?_)
          obtain ⟨u_10, eu_10⟩ : ∃ z : Ob, z = fs_i u 1 1 := ⟨_, rfl⟩
          replace h := h u_10 eu_10
          replace hP : va_P (dC, dI) vwCl (wd_X2 a ca u_10 ++ (wd_X0 a1 ca1 u1)) H := by rw [eu_10]; exact hP
          replace hD : va_D A (wd_X2 a ca u_10 ++ (wd_X0 a1 ca1 u1)) := by rw [eu_10]; exact hD
          subst hQ
          exact W.vret hx hb hr (fun t ht hW => ⟨⟨u_10, rfl, h, by rw [ht]; exact hP, hD⟩, hS.F ht⟩) hS.2.2 dX2_lookAhead_119
        · refine lv_icmp_ge (tgt := 114) hx hb dX2_lookAhead_91 (by decide) (fun hc_11 => ?_) (fun hc_11 => ?_)
          · replace h := h.1 hc_11
            exact ih_JJ_9 h _ _ _ hP hD hS (lv_sub hl [3] rfl)
          · replace h := h.2 hc_11
            refine lv_iload hx hb dX2_lookAhead_94 (lv_at hl 1 rfl) ?_
            refine lv_bipush (v := 10) hx hb dX2_lookAhead_96 (by decide) ?_
            have hFc := fl_freeN hS hA
            refine va_calli (va_runS (As := [.int w_4, .int 10]) (rest := []) ⟨hx, hb, hml, hown, hts⟩ (c_X6_isLonger l H.size w_4 10 _ h) (va_cwS 2 hts gX2_lookAhead_X6_isLonger rfl rfl rfl (by decide +kernel) ⟨Nat.le_of_ble_eq_true rfl, Nat.le_of_ble_eq_true rfl⟩) ⟨fun a U g mk q => by obtain ⟨q0, q1⟩ := q; exact ⟨q0, q1⟩, fun U hU hW => ⟨rfl, congrArg Array.size hU⟩⟩ rfl rfl hl.1 rfl (lv_room (Nat.le_of_ble_eq_true rfl)) dX2_lookAhead_98 ⟨Nat.zero_le _, Nat.zero_le _⟩) hS (fun q _ h => hFc q h) hFc (fun r_12 zz t H1 locs ht hvm hw hB hz1 hk1 hS => ?_)
            replace hP := fl_keep hP hk1
            replace h := hw
            generalize H1 = H at hP hS ⊢
            refine lv_if_ne (tgt := 114) hx hb dX2_lookAhead_101 (by decide) (fun hc_13 => ?_) (fun hc_13 => ?_)
            · replace h := h.1 hc_13
              exact ih_JJ_9 h _ _ _ hP hD hS (lv_sub hl [3] rfl)
            · replace h := h.2 hc_13
              refine lv_iload hx hb dX2_lookAhead_104 (lv_at hl 0 rfl) ?_
              refine lv_bipush (v := 10) hx hb dX2_lookAhead_106 (by decide) ?_
              have hFc := fl_freeN hS hA
              refine va_calli (va_runS (As := [.int w_6, .int 10]) (rest := []) ⟨hx, hb, hml, hown, hts⟩ (c_X6_isLonger l H.size w_6 10 _ h) (va_cwS 2 hts gX2_lookAhead_X6_isLonger rfl rfl rfl (by decide +kernel) ⟨Nat.le_of_ble_eq_true rfl, Nat.le_of_ble_eq_true rfl⟩) ⟨fun a U g mk q => by obtain ⟨q0, q1⟩ := q; exact ⟨q0, q1⟩, fun U hU hW => ⟨rfl, congrArg Array.size hU⟩⟩ rfl rfl hl.1 rfl (lv_room (Nat.le_of_ble_eq_true rfl)) dX2_lookAhead_108 ⟨Nat.zero_le _, Nat.zero_le _⟩) hS (fun q _ h => hFc q h) hFc (fun r_14 zz t H1 locs ht hvm hw hB hz1 hk1 hS => ?_)
              replace hP := fl_keep hP hk1
              replace h := hw
              generalize H1 = H at hP hS ⊢
              refine lv_if_eq (tgt := 120) hx hb dX2_lookAhead_111 (by decide) (fun hc_15 => ?_) (fun hc_15 => ?_)
              · replace h := h.1 hc_15
                refine lv_aload_n hx hb dX2_lookAhead_120 rfl (lv_at hl 3 rfl) ?_
                refine lv_iload hx hb dX2_lookAhead_121 (lv_at hl 2 rfl) ?_
                refine lv_iload hx hb dX2_lookAhead_123 (lv_at hl 1 rfl) ?_
                refine lv_iload hx hb dX2_lookAhead_125 (lv_at hl 0 rfl) ?_
                refine lv_iload_n hx hb dX2_lookAhead_127 rfl (lv_at hl 4 rfl) ?_
                refine lv_iload_n hx hb dX2_lookAhead_128 rfl (lv_at hl 5 rfl) ?_
                have hPc := hP.sub (ws' := (wd_X2 a ca u)) [0, 1, 2, 3, 4, 5, 6] rfl
                have hDc := hD.sub (ws' := (wd_X2 a ca u)) [0, 1, 2, 3, 4, 5, 6] (by decide) rfl
                have hKc := hK.sub (tys' := (ty_X2 ca)) [0, 1, 2, 3, 4, 5] rfl
                have hFc := va_free (wc := (wd_X2 a ca u)) hD hS hA [0, 1, 2, 3, 4, 5, 6] rfl
                refine va_callv (va_runV (As := [.int r_1, .int w_4, .int w_6, .int x2, .int x3]) (rest := []) ⟨hx, hb, hml, hown, hts⟩ (c_X2_add l dC dI a ca H.size u r_1 w_4 w_6 x2 x3 _ h) (cwV 5 hts gX2_lookAhead_X2_add rfl rfl rfl (by decide +kernel) ⟨Nat.le_of_ble_eq_true rfl, Nat.le_of_ble_eq_true rfl⟩) ⟨fun a U g mk q => by obtain ⟨q0, q1, qP, qK, qD⟩ := q; exact ⟨q0, q1, qP, va_K.moved (u := U) (U := U.calling g mk a) (Vm.Alike.refl U.vm) qK, qD⟩, va_recv hKc hPc (ci := 2) (q0 := 0) rfl rfl, fun U hU hW => ⟨rfl, by rw [hU], by rw [hU]; exact hPc, va_K.moved hW.alike hKc, hDc.weaken (fun _ _ _ _ => trivial)⟩⟩ rfl rfl hl.1 rfl (lv_room (Nat.le_of_ble_eq_true rfl)) dX2_lookAhead_129 ⟨Nat.zero_le _, Nat.zero_le _⟩) hS (fun q _ h => hFc q h) hFc (fun zz t H1 locs ht hvm hw hB hz1 hk1 hS => ?_)
                obtain ⟨u_16, rfl⟩ : ∃ z, z = zz := ⟨_, rfl⟩
                replace h := hw
                obtain ⟨hP1, hD1⟩ := hB
                rw [ht] at hP1
                obtain ⟨hP, hD⟩ := va_join (wr := [7, 8, 9].filterMap (fun i => (wd_X2 a ca u ++ (wd_X0 a1 ca1 u1))[i]?)) (w1 := (wd_X2 a ca u_16)) hP hD [0, 1, 2, 3, 4, 5, 6] [7, 8, 9] rfl rfl (by decide) (by decide) hk1 hFc hP1 hD1
                replace hP : va_P (dC, dI) vwCl (wd_X2 a ca u_16 ++ (wd_X0 a1 ca1 u1)) H1 := (hP.sub [3, 4, 5, 6, 7, 8, 9, 0, 1, 2] rfl)
                replace hD : va_D A (wd_X2 a ca u_16 ++ (wd_X0 a1 ca1 u1)) := (hD.sub [3, 4, 5, 6, 7, 8, 9, 0, 1, 2] (by decide) rfl)
                generalize H1 = H at hP hS ⊢
                subst hQ
                exact W.vret hx hb hr (fun t ht hW => ⟨⟨u_16, rfl, h, by rw [ht]; exact hP, hD⟩, hS.F ht⟩) hS.2.2 dX2_lookAhead_132
              · replace h := h.2 hc_15
                exact ih_JJ_9 h _ _ _ hP hD hS (lv_sub hl [3] rfl)
      · replace h := h.2 hc_8
        subst hQ
        exact W.vret hx hb hr (fun t ht hW => ⟨⟨u, rfl, h, by rw [ht]; exact hP, hD⟩, hS.F ht⟩) hS.2.2 dX2_lookAhead_84
    · refine lv_icmp_ne (tgt := 63) hx hb dX2_lookAhead_46 (by decide) (fun hc_17 => ?_) (fun hc_17 => ?_)
      · replace h := h.1 hc_17
        refine lv_aload_n hx hb dX2_lookAhead_63 rfl (lv_at hl 3 rfl) ?_
        refine va_get (D := (dC, dI)) (ci := 2) (v := .ref (a 6)) (C := RX2) (T := TX2) (N := 8) hx hb hts hin_X2 hown hK hP 0 rfl rfl 5 (by decide) lk_2 (fun _ h9 => h9) rfl dX2_lookAhead_64 ?_
        refine lv_iload_n hx hb dX2_lookAhead_67 rfl (lv_at hl 6 rfl) ?_
        obtain ⟨hi_18, h⟩ := h
        refine va_iald (D := (dC, dI)) (cl := vwCl) (i := x3) hx hb hK hP 4 3 rfl rfl hi_18 dX2_lookAhead_68 ?_
        exact ih_JJ_5 _ h _ _ _ hP hD hS (lv_sub hl [0, 2, 3, 5, 6] rfl)
      · replace h := h.2 hc_17
        refine lv_aload_n hx hb dX2_lookAhead_49 rfl (lv_at hl 4 rfl) ?_
        refine lv_iload_n hx hb dX2_lookAhead_50 rfl (lv_at hl 5 rfl) ?_
        refine lv_aload_n hx hb dX2_lookAhead_51 rfl (lv_at hl 3 rfl) ?_
        refine va_get (D := (dC, dI)) (ci := 2) (v := .ref (a 6)) (C := RX2) (T := TX2) (N := 8) hx hb hts hin_X2 hown hK hP 0 rfl rfl 5 (by decide) lk_2 (fun _ h9 => h9) rfl dX2_lookAhead_52 ?_
        refine lv_iload_n hx hb dX2_lookAhead_55 rfl (lv_at hl 6 rfl) ?_
        obtain ⟨hi_19, h⟩ := h
        refine va_iald (D := (dC, dI)) (cl := vwCl) (i := x3) hx hb hK hP 4 3 rfl rfl hi_19 dX2_lookAhead_56 ?_
        have hPc := hP.sub (ws' := (wd_X0 a1 ca1 u1)) [7, 8, 9] rfl
        have hDc := hD.sub (ws' := (wd_X0 a1 ca1 u1)) [7, 8, 9] (by decide) rfl
        have hKc := hK.sub (tys' := (ty_X0 ca1)) [6, 7] rfl
        have hFc := va_free (wc := (wd_X0 a1 ca1 u1)) hD hS hA [7, 8, 9] rfl
        refine va_calli (va_runV (As := [.int x2, .int (u.2.1 5 x3.toNatClampNeg)]) (rest := []) ⟨hx, hb, hml, hown, hts⟩ (c_X0_wordAhead l dC dI a1 ca1 H.size u1 x2 (u.2.1 5 x3.toNatClampNeg) _ h) (cwV 2 hts gX2_lookAhead_X0_wordAhead rfl rfl rfl (by decide +kernel) ⟨Nat.le_of_ble_eq_true rfl, Nat.le_of_ble_eq_true rfl⟩) ⟨fun a U g mk q => by obtain ⟨q0, q1, qP, qK, qD⟩ := q; exact ⟨q0, q1, qP, va_K.moved (u := U) (U := U.calling g mk a) (Vm.Alike.refl U.vm) qK, qD⟩, va_recv hKc hPc (ci := 0) (q0 := 0) rfl rfl, fun U hU hW => ⟨rfl, by rw [hU], by rw [hU]; exact hPc, va_K.moved hW.alike hKc, hDc.weaken (fun _ _ _ _ => trivial)⟩⟩ rfl rfl hl.1 rfl (lv_room (Nat.le_of_ble_eq_true rfl)) dX2_lookAhead_57 ⟨Nat.zero_le _, Nat.zero_le _⟩) hS (fun q _ h => hFc q h) hFc (fun r_20 zz t H1 locs ht hvm hw hB hz1 hk1 hS => ?_)
        replace h := hw
        obtain ⟨hP1, hD1⟩ := hB
        rw [ht] at hP1
        obtain ⟨hP, hD⟩ := va_join (wr := [0, 1, 2, 3, 4, 5, 6].filterMap (fun i => (wd_X2 a ca u ++ (wd_X0 a1 ca1 u1))[i]?)) (w1 := (wd_X0 a1 ca1 u1)) hP hD [7, 8, 9] [0, 1, 2, 3, 4, 5, 6] rfl rfl (by decide) (by decide) hk1 hFc hP1 hD1
        replace hP : va_P (dC, dI) vwCl (wd_X2 a ca u ++ (wd_X0 a1 ca1 u1)) H1 := (hP.sub [0, 1, 2, 3, 4, 5, 6, 7, 8, 9] rfl)
        replace hD : va_D A (wd_X2 a ca u ++ (wd_X0 a1 ca1 u1)) := (hD.sub [0, 1, 2, 3, 4, 5, 6, 7, 8, 9] (by decide) rfl)
        generalize H1 = H at hP hS ⊢
        refine lv_goto (tgt := 69) hx hb dX2_lookAhead_60 (by decide) ?_
        exact ih_JJ_5 _ h _ _ _ hP hD hS (lv_sub hl [0, 2, 3, 5, 6] rfl)
  · refine lv_if_ne (tgt := 35) hx hb dX2_lookAhead_18 (by decide) (fun hc_21 => ?_) (fun hc_21 => ?_)
    · replace h := h.1 hc_21
      refine lv_aload_n hx hb dX2_lookAhead_35 rfl (lv_at hl 2 rfl) ?_
      refine va_get (D := (dC, dI)) (ci := 2) (v := .ref (a 5)) (C := RX2) (T := TX2) (N := 8) hx hb hts hin_X2 hown hK hP 0 rfl rfl 4 (by decide) lk_3 (fun _ h9 => h9) rfl dX2_lookAhead_36 ?_
      refine lv_iload_n hx hb dX2_lookAhead_39 rfl (lv_at hl 5 rfl) ?_
      obtain ⟨hi_22, h⟩ := h
      refine va_iald (D := (dC, dI)) (cl := vwCl) (i := x3) hx hb hK hP 3 2 rfl rfl hi_22 dX2_lookAhead_40 ?_
      exact ih_JJ_3 _ h _ _ _ hP hD hS (lv_sub hl [0, 1, 2, 3, 4, 5] rfl)
    · replace h := h.2 hc_21
      refine lv_aload_n hx hb dX2_lookAhead_21 rfl (lv_at hl 3 rfl) ?_
      refine lv_iload_n hx hb dX2_lookAhead_22 rfl (lv_at hl 4 rfl) ?_
      refine lv_aload_n hx hb dX2_lookAhead_23 rfl (lv_at hl 2 rfl) ?_
      refine va_get (D := (dC, dI)) (ci := 2) (v := .ref (a 5)) (C := RX2) (T := TX2) (N := 8) hx hb hts hin_X2 hown hK hP 0 rfl rfl 4 (by decide) lk_3 (fun _ h9 => h9) rfl dX2_lookAhead_24 ?_
      refine lv_iload_n hx hb dX2_lookAhead_27 rfl (lv_at hl 5 rfl) ?_
      obtain ⟨hi_23, h⟩ := h
      refine va_iald (D := (dC, dI)) (cl := vwCl) (i := x3) hx hb hK hP 3 2 rfl rfl hi_23 dX2_lookAhead_28 ?_
      have hPc := hP.sub (ws' := (wd_X0 a1 ca1 u1)) [7, 8, 9] rfl
      have hDc := hD.sub (ws' := (wd_X0 a1 ca1 u1)) [7, 8, 9] (by decide) rfl
      have hKc := hK.sub (tys' := (ty_X0 ca1)) [6, 7] rfl
      have hFc := va_free (wc := (wd_X0 a1 ca1 u1)) hD hS hA [7, 8, 9] rfl
      refine va_calli (va_runV (As := [.int x2, .int (u.2.1 4 x3.toNatClampNeg)]) (rest := []) ⟨hx, hb, hml, hown, hts⟩ (c_X0_wordAhead l dC dI a1 ca1 H.size u1 x2 (u.2.1 4 x3.toNatClampNeg) _ h) (cwV 2 hts gX2_lookAhead_X0_wordAhead rfl rfl rfl (by decide +kernel) ⟨Nat.le_of_ble_eq_true rfl, Nat.le_of_ble_eq_true rfl⟩) ⟨fun a U g mk q => by obtain ⟨q0, q1, qP, qK, qD⟩ := q; exact ⟨q0, q1, qP, va_K.moved (u := U) (U := U.calling g mk a) (Vm.Alike.refl U.vm) qK, qD⟩, va_recv hKc hPc (ci := 0) (q0 := 0) rfl rfl, fun U hU hW => ⟨rfl, by rw [hU], by rw [hU]; exact hPc, va_K.moved hW.alike hKc, hDc.weaken (fun _ _ _ _ => trivial)⟩⟩ rfl rfl hl.1 rfl (lv_room (Nat.le_of_ble_eq_true rfl)) dX2_lookAhead_29 ⟨Nat.zero_le _, Nat.zero_le _⟩) hS (fun q _ h => hFc q h) hFc (fun r_24 zz t H1 locs ht hvm hw hB hz1 hk1 hS => ?_)
      replace h := hw
      obtain ⟨hP1, hD1⟩ := hB
      rw [ht] at hP1
      obtain ⟨hP, hD⟩ := va_join (wr := [0, 1, 2, 3, 4, 5, 6].filterMap (fun i => (wd_X2 a ca u ++ (wd_X0 a1 ca1 u1))[i]?)) (w1 := (wd_X0 a1 ca1 u1)) hP hD [7, 8, 9] [0, 1, 2, 3, 4, 5, 6] rfl rfl (by decide) (by decide) hk1 hFc hP1 hD1
      replace hP : va_P (dC, dI) vwCl (wd_X2 a ca u ++ (wd_X0 a1 ca1 u1)) H1 := (hP.sub [0, 1, 2, 3, 4, 5, 6, 7, 8, 9] rfl)
      replace hD : va_D A (wd_X2 a ca u ++ (wd_X0 a1 ca1 u1)) := (hD.sub [0, 1, 2, 3, 4, 5, 6, 7, 8, 9] (by decide) rfl)
      generalize H1 = H at hP hS ⊢
      refine lv_goto (tgt := 41) hx hb dX2_lookAhead_32 (by decide) ?_
      exact ih_JJ_3 _ h _ _ _ hP hD hS (lv_sub hl [0, 1, 2, 3, 4, 5] rfl)
abbrev rm_X2_run : Room := { frames := 4, cells := 0, slots := 0, locals := 100 }
set_option maxHeartbeats 4000000 in
set_option maxRecDepth 100000 in
theorem c_X2_run (l : Launch) (dC : Nat → ClassId) (dI : Nat → Nat → Nat) (a : Nat → Nat) (ca : Nat → ClassId) (a1 : Nat → Nat) (ca1 : Nat → ClassId) (a2 : Nat → Nat) (ca2 : Nat → ClassId) (sz : Nat) (u : Ob) (u1 : Ob) (u2 : Ob) (post : Ob → Prop) (h : wp_X2_run u u1 u2 post) : Met l yX2_run wsX2_run rm_X2_run (va_Pc [.ref (a 0), .ref (a1 0), .ref (a2 0)] (fun U => U.heap.size = sz ∧ va_P (dC, dI) vwCl (wd_X2 a ca u ++ (wd_X0 a1 ca1 u1 ++ (wd_X1 a2 ca2 u2))) U.heap ∧ va_K (dC, dI) vwCl (ty_X2 ca ++ (ty_X0 ca1 ++ (ty_X1 ca2))) U ∧ va_D (fun _ => True) (wd_X2 a ca u ++ (wd_X0 a1 ca1 u1 ++ (wd_X1 a2 ca2 u2))))) (va_Qv post (fun (zz : Ob) (t : State) => va_P (dC, dI) vwCl (wd_X2 a ca zz ++ (wd_X0 a1 ca1 u1 ++ (wd_X1 a2 ca2 u2))) t.heap ∧ va_D (va_A (wd_X2 a ca u ++ (wd_X0 a1 ca1 u1 ++ (wd_X1 a2 ca2 u2))) sz) (wd_X2 a ca zz ++ (wd_X0 a1 ca1 u1 ++ (wd_X1 a2 ca2 u2)))) (va_A (wd_X2 a ca u ++ (wd_X0 a1 ca1 u1 ++ (wd_X1 a2 ca2 u2))) sz)) 0 0 (va_A (wd_X2 a ca u ++ (wd_X0 a1 ca1 u1 ++ (wd_X1 a2 ca2 u2))) sz) := by
  refine fl_ofW (cc := cX2_run) (maxL := 5) (ret := none) (by decide) rfl ?_
  intro p e s m args below meth c s₁ Q B hml hv hQ
  obtain ⟨hargs, hsz, hP, hK, hD0⟩ := hv
  have hx := B.exec
  have hb := B.bytes
  have hr := B.returns
  have hts := atoms_spec (ws := wsX2_run) B.pre
  have hown : s.vm.findClass RX2 = some m.cls := findClass_of_methodNamed B.named
  subst hsz
  have hD := hD0.self (sz := s.heap.size)
  generalize hAe : va_A (wd_X2 a ca u ++ (wd_X0 a1 ca1 u1 ++ (wd_X1 a2 ca2 u2))) s.heap.size = A at hD hQ
  have hA : ∀ q : Nat, s.heap.size ≤ q → A q := fun q h => by rw [← hAe]; exact Or.inr h
  have hS : va_S A s.heap s.heap [] := va_S.rf
  have hl := lv_entry ([.ref (a 0), .ref (a1 0), .ref (a2 0)]) (n := 5) (Nat.le_of_ble_eq_true rfl)
  refine W.eq (g2 := F0 m 0 ((lg_sl ([.ref (a 0), .ref (a1 0), .ref (a2 0)]) ++ List.replicate (5 - (lg_sl ([.ref (a 0), .ref (a1 0), .ref (a2 0)])).length) Slot.unset).toArray) []) (by rw [hargs]; exact lg_entry_eq m _ 5) ?_
  generalize (lg_sl ([.ref (a 0), .ref (a1 0), .ref (a2 0)]) ++ List.replicate (5 - (lg_sl ([.ref (a 0), .ref (a1 0), .ref (a2 0)])).length) Slot.unset).toArray = ls at hl ⊢
  have hl : lv_has ls 5 [(0, .ref (a 0)), (1, .ref (a1 0)), (2, .ref (a2 0))] := hl
  suffices hstart : ∀ (H : Heap) (locs : List Loc) (ls : Array Slot), va_P (dC, dI) vwCl (wd_X2 a ca u ++ (wd_X0 a1 ca1 u1 ++ (wd_X1 a2 ca2 u2))) H → va_D A (wd_X2 a ca u ++ (wd_X0 a1 ca1 u1 ++ (wd_X1 a2 ca2 u2))) → va_S A s.heap H locs → lv_has ls 5 [(0, .ref (a 0)), (1, .ref (a1 0)), (2, .ref (a2 0))] → W p l e (headSpec wsX2_run rm_X2_run).room s m args below meth c H locs 0 0 Q (F0 m 0 ls []) from hstart _ _ _ hP hD hS hl
  clear hS hP hD hD0
  intro H locs ls hP hD hS hl
  have hin_X0 : ∀ w ∈ wsX00, w ∈ wsX2_run := by decide +kernel
  have hin_X1 : ∀ w ∈ wsX10, w ∈ wsX2_run := by decide +kernel
  have hin_X2 : ∀ w ∈ wsX20, w ∈ wsX2_run := by decide +kernel
  have lk_0 := hts (.fieldLink RX2 30 "ForgettingLines$Search" "count" "I") (by decide +kernel)
  have lk_1 := hts (.fieldLink RX2 34 "ForgettingLines$Search" "spent" "Z") (by decide +kernel)
  have lk_2 := hts (.fieldLink RX2 38 "ForgettingLines$Place" "state" "I") (by decide +kernel)
  have lk_3 := hts (.fieldLink RX2 43 "ForgettingLines$Place" "words" "[I") (by decide +kernel)
  have lk_4 := hts (.fieldLink RX2 50 "ForgettingLines$Machine" "count" "I") (by decide +kernel)
  have lk_5 := hts (.fieldLink RX2 15 "ForgettingLines$Search" "states" "[I") (by decide +kernel)
  unfold wp_X2_run at h
  refine lv_aload_n hx hb dX2_run_0 rfl (lv_at hl 0 rfl) ?_
  refine lv_iconst (v := 0) hx hb dX2_run_1 (by decide) ?_
  refine va_put (D := (dC, dI)) (ci := 2) (v := .int 0) (ty := .int) (C := RX2) (T := TX2) (N := 8) hx hb hts hin_X2 tyX2 tyX2_ok nmX2 hown hK hP hD hS 0 rfl rfl 0 (by decide) lk_0 (fun _ h9 => h9) rfl (by decide +kernel) rfl rfl (Nat.le_of_ble_eq_true rfl) dX2_run_2 (fun H locs hP hD hS => ?_)
  obtain ⟨u_1, eu_1⟩ : ∃ z : Ob, z = fs_i u 0 0 := ⟨_, rfl⟩
  replace h := h u_1 eu_1
  replace hP : va_P (dC, dI) vwCl (wd_X2 a ca u_1 ++ (wd_X0 a1 ca1 u1 ++ (wd_X1 a2 ca2 u2))) H := by rw [eu_1]; exact hP
  replace hD : va_D A (wd_X2 a ca u_1 ++ (wd_X0 a1 ca1 u1 ++ (wd_X1 a2 ca2 u2))) := by rw [eu_1]; exact hD
  refine lv_aload_n hx hb dX2_run_5 rfl (lv_at hl 0 rfl) ?_
  refine lv_iconst (v := 0) hx hb dX2_run_6 (by decide) ?_
  refine va_put (D := (dC, dI)) (ci := 2) (v := .int 0) (ty := .boolean) (C := RX2) (T := TX2) (N := 8) hx hb hts hin_X2 tyX2 tyX2_ok nmX2 hown hK hP hD hS 0 rfl rfl 1 (by decide) lk_1 (fun _ h9 => h9) rfl (by decide +kernel) rfl rfl (Nat.le_of_ble_eq_true rfl) dX2_run_7 (fun H locs hP hD hS => ?_)
  obtain ⟨u_2, eu_2⟩ : ∃ z : Ob, z = fs_i u_1 1 0 := ⟨_, rfl⟩
  replace h := h u_2 eu_2
  replace hP : va_P (dC, dI) vwCl (wd_X2 a ca u_2 ++ (wd_X0 a1 ca1 u1 ++ (wd_X1 a2 ca2 u2))) H := by rw [eu_2]; exact hP
  replace hD : va_D A (wd_X2 a ca u_2 ++ (wd_X0 a1 ca1 u1 ++ (wd_X1 a2 ca2 u2))) := by rw [eu_2]; exact hD
  refine lv_aload_n hx hb dX2_run_10 rfl (lv_at hl 0 rfl) ?_
  refine lv_aload_n hx hb dX2_run_11 rfl (lv_at hl 2 rfl) ?_
  refine va_get (D := (dC, dI)) (ci := 1) (v := .int (u2.1 0)) (C := RX1) (T := TX1) (N := 2) hx hb hts hin_X1 hown hK hP 10 rfl rfl 0 (by decide) lk_2 (fun _ h9 => h9) rfl dX2_run_12 ?_
  refine lv_aload_n hx hb dX2_run_15 rfl (lv_at hl 2 rfl) ?_
  refine va_get (D := (dC, dI)) (ci := 1) (v := .ref (a2 2)) (C := RX1) (T := TX1) (N := 2) hx hb hts hin_X1 hown hK hP 10 rfl rfl 1 (by decide) lk_3 (fun _ h9 => h9) rfl dX2_run_16 ?_
  refine lv_iconst (v := 0) hx hb dX2_run_19 (by decide) ?_
  obtain ⟨hi_3, h⟩ := h
  refine va_iald (D := (dC, dI)) (cl := vwCl) (i := 0) hx hb hK hP 11 8 rfl rfl hi_3 dX2_run_20 ?_
  refine lv_aload_n hx hb dX2_run_21 rfl (lv_at hl 2 rfl) ?_
  refine va_get (D := (dC, dI)) (ci := 1) (v := .ref (a2 2)) (C := RX1) (T := TX1) (N := 2) hx hb hts hin_X1 hown hK hP 10 rfl rfl 1 (by decide) lk_3 (fun _ h9 => h9) rfl dX2_run_22 ?_
  refine lv_iconst (v := 1) hx hb dX2_run_25 (by decide) ?_
  obtain ⟨hi_4, h⟩ := h
  refine va_iald (D := (dC, dI)) (cl := vwCl) (i := 1) hx hb hK hP 11 8 rfl rfl hi_4 dX2_run_26 ?_
  refine lv_bipush (v := (-2)) hx hb dX2_run_27 (by decide) ?_
  refine lv_bipush (v := (-2)) hx hb dX2_run_29 (by decide) ?_
  have hPc := hP.sub (ws' := (wd_X2 a ca u_2)) [0, 1, 2, 3, 4, 5, 6] rfl
  have hDc := hD.sub (ws' := (wd_X2 a ca u_2)) [0, 1, 2, 3, 4, 5, 6] (by decide) rfl
  have hKc := hK.sub (tys' := (ty_X2 ca)) [0, 1, 2, 3, 4, 5] rfl
  have hFc := va_free (wc := (wd_X2 a ca u_2)) hD hS hA [0, 1, 2, 3, 4, 5, 6] rfl
  refine va_callv (va_runV (As := [.int (u2.1 0), .int (u2.2.1 1 (0 : Int32).toNatClampNeg), .int (u2.2.1 1 (1 : Int32).toNatClampNeg), .int (-2), .int (-2)]) (rest := []) ⟨hx, hb, hml, hown, hts⟩ (c_X2_add l dC dI a ca H.size u_2 (u2.1 0) (u2.2.1 1 (0 : Int32).toNatClampNeg) (u2.2.1 1 (1 : Int32).toNatClampNeg) (-2) (-2) _ h) (cwV 5 hts gX2_run_X2_add rfl rfl rfl (by decide +kernel) ⟨Nat.le_of_ble_eq_true rfl, Nat.le_of_ble_eq_true rfl⟩) ⟨fun a U g mk q => by obtain ⟨q0, q1, qP, qK, qD⟩ := q; exact ⟨q0, q1, qP, va_K.moved (u := U) (U := U.calling g mk a) (Vm.Alike.refl U.vm) qK, qD⟩, va_recv hKc hPc (ci := 2) (q0 := 0) rfl rfl, fun U hU hW => ⟨rfl, by rw [hU], by rw [hU]; exact hPc, va_K.moved hW.alike hKc, hDc.weaken (fun _ _ _ _ => trivial)⟩⟩ rfl rfl hl.1 rfl (lv_room (Nat.le_of_ble_eq_true rfl)) dX2_run_31 ⟨Nat.zero_le _, Nat.zero_le _⟩) hS (fun q _ h => hFc q h) hFc (fun zz t H1 locs ht hvm hw hB hz1 hk1 hS => ?_)
  obtain ⟨u_5, rfl⟩ : ∃ z, z = zz := ⟨_, rfl⟩
  replace h := hw
  obtain ⟨hP1, hD1⟩ := hB
  rw [ht] at hP1
  obtain ⟨hP, hD⟩ := va_join (wr := [7, 8, 9, 10, 11].filterMap (fun i => (wd_X2 a ca u_2 ++ (wd_X0 a1 ca1 u1 ++ (wd_X1 a2 ca2 u2)))[i]?)) (w1 := (wd_X2 a ca u_5)) hP hD [0, 1, 2, 3, 4, 5, 6] [7, 8, 9, 10, 11] rfl rfl (by decide) (by decide) hk1 hFc hP1 hD1
  replace hP : va_P (dC, dI) vwCl (wd_X2 a ca u_5 ++ (wd_X0 a1 ca1 u1 ++ (wd_X1 a2 ca2 u2))) H1 := (hP.sub [5, 6, 7, 8, 9, 10, 11, 0, 1, 2, 3, 4] rfl)
  replace hD : va_D A (wd_X2 a ca u_5 ++ (wd_X0 a1 ca1 u1 ++ (wd_X1 a2 ca2 u2))) := (hD.sub [5, 6, 7, 8, 9, 10, 11, 0, 1, 2, 3, 4] (by decide) rfl)
  generalize H1 = H at hP hS ⊢
  refine lv_iconst (v := 0) hx hb dX2_run_34 (by decide) ?_
  refine lv_istore_n (lv' := [(3, .int 0), (0, .ref (a 0)), (1, .ref (a1 0)), (2, .ref (a2 0))]) hx hb dX2_run_35 rfl hl (by decide) rfl (fun ls hl => ?_)
  obtain ⟨n_22, h⟩ := h
  refine lq2_ind (GG := (fun (v3_7 : Int32) (u_8 : Ob) => ∀ (H : Heap) (locs : List Loc) (ls : Array Slot), va_P (dC, dI) vwCl (wd_X2 a ca u_8 ++ (wd_X0 a1 ca1 u1 ++ (wd_X1 a2 ca2 u2))) H → va_D A (wd_X2 a ca u_8 ++ (wd_X0 a1 ca1 u1 ++ (wd_X1 a2 ca2 u2))) → va_S A s.heap H locs → lv_has ls 5 [(3, .int v3_7), (0, .ref (a 0)), (1, .ref (a1 0))] → W p l e (headSpec wsX2_run rm_X2_run).room s m args below meth c H locs 0 0 Q (F0 m 36 ls []))) (fun LL_6 ih_LL_6 v3_7 u_8 h H locs ls hP hD hS hl => ?_) n_22 _ _ h _ _ _ hP hD hS (lv_sub hl [0, 1, 2] rfl)
  refine lv_iload_n hx hb dX2_run_36 rfl (lv_at hl 0 rfl) ?_
  refine lv_bipush (v := 80) hx hb dX2_run_37 (by decide) ?_
  refine lv_icmp_ge (tgt := 112) hx hb dX2_run_39 (by decide) (fun hc_9 => ?_) (fun hc_9 => ?_)
  · replace h := h.1 hc_9
    subst hQ
    exact W.vret hx hb hr (fun t ht hW => ⟨⟨u_8, rfl, h, by rw [ht]; exact hP, hD⟩, hS.F ht⟩) hS.2.2 dX2_run_112
  · replace h := h.2 hc_9
    refine lv_iload_n hx hb dX2_run_42 rfl (lv_at hl 0 rfl) ?_
    refine lv_aload_n hx hb dX2_run_43 rfl (lv_at hl 1 rfl) ?_
    refine va_get (D := (dC, dI)) (ci := 2) (v := .int (u_8.1 0)) (C := RX2) (T := TX2) (N := 8) hx hb hts hin_X2 hown hK hP 0 rfl rfl 0 (by decide) lk_0 (fun _ h9 => h9) rfl dX2_run_44 ?_
    refine lv_icmp_ge (tgt := 112) hx hb dX2_run_47 (by decide) (fun hc_10 => ?_) (fun hc_10 => ?_)
    · replace h := h.1 hc_10
      subst hQ
      exact W.vret hx hb hr (fun t ht hW => ⟨⟨u_8, rfl, h, by rw [ht]; exact hP, hD⟩, hS.F ht⟩) hS.2.2 dX2_run_112
    · replace h := h.2 hc_10
      refine lv_aload_n hx hb dX2_run_50 rfl (lv_at hl 1 rfl) ?_
      refine va_get (D := (dC, dI)) (ci := 2) (v := .int (u_8.1 1)) (C := RX2) (T := TX2) (N := 8) hx hb hts hin_X2 hown hK hP 0 rfl rfl 1 (by decide) lk_1 (fun _ h9 => h9) rfl dX2_run_51 ?_
      refine lv_if_ne (tgt := 112) hx hb dX2_run_54 (by decide) (fun hc_11 => ?_) (fun hc_11 => ?_)
      · replace h := h.1 hc_11
        subst hQ
        exact W.vret hx hb hr (fun t ht hW => ⟨⟨u_8, rfl, h, by rw [ht]; exact hP, hD⟩, hS.F ht⟩) hS.2.2 dX2_run_112
      · replace h := h.2 hc_11
        refine lv_iconst (v := 0) hx hb dX2_run_57 (by decide) ?_
        refine lv_istore (lv' := [(4, .int 0), (3, .int v3_7), (0, .ref (a 0)), (1, .ref (a1 0))]) hx hb dX2_run_58 hl (by decide) rfl (fun ls hl => ?_)
        obtain ⟨n_21, h⟩ := h
        refine lq2_ind (GG := (fun (v4_13 : Int32) (u_14 : Ob) => ∀ (H : Heap) (locs : List Loc) (ls : Array Slot), va_P (dC, dI) vwCl (wd_X2 a ca u_14 ++ (wd_X0 a1 ca1 u1 ++ (wd_X1 a2 ca2 u2))) H → va_D A (wd_X2 a ca u_14 ++ (wd_X0 a1 ca1 u1 ++ (wd_X1 a2 ca2 u2))) → va_S A s.heap H locs → lv_has ls 5 [(4, .int v4_13), (3, .int v3_7), (0, .ref (a 0)), (1, .ref (a1 0))] → W p l e (headSpec wsX2_run rm_X2_run).room s m args below meth c H locs 0 0 Q (F0 m 60 ls []))) (fun LL_12 ih_LL_12 v4_13 u_14 h H locs ls hP hD hS hl => ?_) n_21 _ _ h _ _ _ hP hD hS (lv_sub hl [0, 1, 2, 3] rfl)
        refine lv_iload hx hb dX2_run_60 (lv_at hl 0 rfl) ?_
        refine lv_aload_n hx hb dX2_run_62 rfl (lv_at hl 3 rfl) ?_
        refine va_get (D := (dC, dI)) (ci := 0) (v := .int (u1.1 1)) (C := RX0) (T := TX0) (N := 4) hx hb hts hin_X0 hown hK hP 7 rfl rfl 1 (by decide) lk_4 (fun _ h9 => h9) rfl dX2_run_63 ?_
        refine lv_icmp_ge (tgt := 106) hx hb dX2_run_66 (by decide) (fun hc_15 => ?_) (fun hc_15 => ?_)
        · replace h := h.1 hc_15
          refine lv_iinc (v := (v3_7 + 1)) (lv' := [(3, .int (v3_7 + 1)), (4, .int v4_13), (0, .ref (a 0)), (1, .ref (a1 0))]) hx hb dX2_run_106 hl (k := 1) rfl rfl (by decide) rfl (fun ls hl => ?_)
          refine lv_goto (tgt := 36) hx hb dX2_run_109 (by decide) ?_
          exact ih_LL_6 _ _ h _ _ _ hP hD hS (lv_sub hl [0, 2, 3] rfl)
        · replace h := h.2 hc_15
          refine lv_aload_n hx hb dX2_run_69 rfl (lv_at hl 2 rfl) ?_
          refine va_get (D := (dC, dI)) (ci := 2) (v := .int (u_14.1 1)) (C := RX2) (T := TX2) (N := 8) hx hb hts hin_X2 hown hK hP 0 rfl rfl 1 (by decide) lk_1 (fun _ h9 => h9) rfl dX2_run_70 ?_
          refine lv_if_ne (tgt := 106) hx hb dX2_run_73 (by decide) (fun hc_16 => ?_) (fun hc_16 => ?_)
          · replace h := h.1 hc_16
            refine lv_iinc (v := (v3_7 + 1)) (lv' := [(3, .int (v3_7 + 1)), (4, .int v4_13), (0, .ref (a 0)), (1, .ref (a1 0))]) hx hb dX2_run_106 hl (k := 1) rfl rfl (by decide) rfl (fun ls hl => ?_)
            refine lv_goto (tgt := 36) hx hb dX2_run_109 (by decide) ?_
            exact ih_LL_6 _ _ h _ _ _ hP hD hS (lv_sub hl [0, 2, 3] rfl)
          · replace h := h.2 hc_16
            refine lv_aload_n hx hb dX2_run_76 rfl (lv_at hl 3 rfl) ?_
            refine lv_iload hx hb dX2_run_77 (lv_at hl 0 rfl) ?_
            refine lv_iconst (v := 4) hx hb dX2_run_79 (by decide) ?_
            have hPc := hP.sub (ws' := (wd_X0 a1 ca1 u1)) [7, 8, 9] rfl
            have hDc := hD.sub (ws' := (wd_X0 a1 ca1 u1)) [7, 8, 9] (by decide) rfl
            have hKc := hK.sub (tys' := (ty_X0 ca1)) [6, 7] rfl
            have hFc := va_free (wc := (wd_X0 a1 ca1 u1)) hD hS hA [7, 8, 9] rfl
            refine va_calli (va_runV (As := [.int v4_13, .int 4]) (rest := []) ⟨hx, hb, hml, hown, hts⟩ (c_X0_part l dC dI a1 ca1 H.size u1 v4_13 4 _ h) (cwV 2 hts gX2_run_X0_part rfl rfl rfl (by decide +kernel) ⟨Nat.le_of_ble_eq_true rfl, Nat.le_of_ble_eq_true rfl⟩) ⟨fun a U g mk q => by obtain ⟨q0, q1, qP, qK, qD⟩ := q; exact ⟨q0, q1, qP, va_K.moved (u := U) (U := U.calling g mk a) (Vm.Alike.refl U.vm) qK, qD⟩, va_recv hKc hPc (ci := 0) (q0 := 0) rfl rfl, fun U hU hW => ⟨rfl, by rw [hU], by rw [hU]; exact hPc, va_K.moved hW.alike hKc, hDc.weaken (fun _ _ _ _ => trivial)⟩⟩ rfl rfl hl.1 rfl (lv_room (Nat.le_of_ble_eq_true rfl)) dX2_run_80 ⟨Nat.zero_le _, Nat.zero_le _⟩) hS (fun q _ h => hFc q h) hFc (fun r_17 zz t H1 locs ht hvm hw hB hz1 hk1 hS => ?_)
            replace h := hw
            obtain ⟨hP1, hD1⟩ := hB
            rw [ht] at hP1
            obtain ⟨hP, hD⟩ := va_join (wr := [0, 1, 2, 3, 4, 5, 6, 10, 11].filterMap (fun i => (wd_X2 a ca u_14 ++ (wd_X0 a1 ca1 u1 ++ (wd_X1 a2 ca2 u2)))[i]?)) (w1 := (wd_X0 a1 ca1 u1)) hP hD [7, 8, 9] [0, 1, 2, 3, 4, 5, 6, 10, 11] rfl rfl (by decide) (by decide) hk1 hFc hP1 hD1
            replace hP : va_P (dC, dI) vwCl (wd_X2 a ca u_14 ++ (wd_X0 a1 ca1 u1 ++ (wd_X1 a2 ca2 u2))) H1 := (hP.sub [0, 1, 2, 3, 4, 5, 6, 9, 10, 11, 7, 8] rfl)
            replace hD : va_D A (wd_X2 a ca u_14 ++ (wd_X0 a1 ca1 u1 ++ (wd_X1 a2 ca2 u2))) := (hD.sub [0, 1, 2, 3, 4, 5, 6, 9, 10, 11, 7, 8] (by decide) rfl)
            generalize H1 = H at hP hS ⊢
            refine lv_aload_n hx hb dX2_run_83 rfl (lv_at hl 2 rfl) ?_
            refine va_get (D := (dC, dI)) (ci := 2) (v := .ref (a 4)) (C := RX2) (T := TX2) (N := 8) hx hb hts hin_X2 hown hK hP 0 rfl rfl 3 (by decide) lk_5 (fun _ h9 => h9) rfl dX2_run_84 ?_
            refine lv_iload_n hx hb dX2_run_87 rfl (lv_at hl 1 rfl) ?_
            obtain ⟨hi_18, h⟩ := h
            refine va_iald (D := (dC, dI)) (cl := vwCl) (i := v3_7) hx hb hK hP 2 1 rfl rfl hi_18 dX2_run_88 ?_
            refine lv_icmp_ne (tgt := 100) hx hb dX2_run_89 (by decide) (fun hc_19 => ?_) (fun hc_19 => ?_)
            · replace h := h.1 hc_19
              refine lv_iinc (v := (v4_13 + 1)) (lv' := [(4, .int (v4_13 + 1)), (3, .int v3_7), (0, .ref (a 0)), (1, .ref (a1 0))]) hx hb dX2_run_100 hl (k := 0) rfl rfl (by decide) rfl (fun ls hl => ?_)
              refine lv_goto (tgt := 60) hx hb dX2_run_103 (by decide) ?_
              exact ih_LL_12 _ _ h _ _ _ hP hD hS (lv_sub hl [0, 1, 2, 3] rfl)
            · replace h := h.2 hc_19
              refine lv_aload_n hx hb dX2_run_92 rfl (lv_at hl 2 rfl) ?_
              refine lv_aload_n hx hb dX2_run_93 rfl (lv_at hl 3 rfl) ?_
              refine lv_iload hx hb dX2_run_94 (lv_at hl 0 rfl) ?_
              refine lv_iload_n hx hb dX2_run_96 rfl (lv_at hl 1 rfl) ?_
              have hPc := hP.sub (ws' := (wd_X2 a ca u_14 ++ (wd_X0 a1 ca1 u1))) [0, 1, 2, 3, 4, 5, 6, 7, 8, 9] rfl
              have hDc := hD.sub (ws' := (wd_X2 a ca u_14 ++ (wd_X0 a1 ca1 u1))) [0, 1, 2, 3, 4, 5, 6, 7, 8, 9] (by decide) rfl
              have hKc := hK.sub (tys' := (ty_X2 ca ++ (ty_X0 ca1))) [0, 1, 2, 3, 4, 5, 6, 7] rfl
              have hFc := va_free (wc := (wd_X2 a ca u_14 ++ (wd_X0 a1 ca1 u1))) hD hS hA [0, 1, 2, 3, 4, 5, 6, 7, 8, 9] rfl
              refine va_callv (va_runV (As := [.ref (a1 0), .int v4_13, .int v3_7]) (rest := []) ⟨hx, hb, hml, hown, hts⟩ (c_X2_lookAhead l dC dI a ca a1 ca1 H.size u_14 u1 v4_13 v3_7 _ h) (cwV 3 hts gX2_run_X2_lookAhead rfl rfl rfl (by decide +kernel) ⟨Nat.le_of_ble_eq_true rfl, Nat.le_of_ble_eq_true rfl⟩) ⟨fun a U g mk q => by obtain ⟨q0, q1, qP, qK, qD⟩ := q; exact ⟨q0, q1, qP, va_K.moved (u := U) (U := U.calling g mk a) (Vm.Alike.refl U.vm) qK, qD⟩, va_recv hKc hPc (ci := 2) (q0 := 0) rfl rfl, fun U hU hW => ⟨rfl, by rw [hU], by rw [hU]; exact hPc, va_K.moved hW.alike hKc, hDc.weaken (fun _ _ _ _ => trivial)⟩⟩ rfl rfl hl.1 rfl (lv_room (Nat.le_of_ble_eq_true rfl)) dX2_run_97 ⟨Nat.zero_le _, Nat.zero_le _⟩) hS (fun q _ h => hFc q h) hFc (fun zz t H1 locs ht hvm hw hB hz1 hk1 hS => ?_)
              obtain ⟨u_20, rfl⟩ : ∃ z, z = zz := ⟨_, rfl⟩
              replace h := hw
              obtain ⟨hP1, hD1⟩ := hB
              rw [ht] at hP1
              obtain ⟨hP, hD⟩ := va_join (wr := [10, 11].filterMap (fun i => (wd_X2 a ca u_14 ++ (wd_X0 a1 ca1 u1 ++ (wd_X1 a2 ca2 u2)))[i]?)) (w1 := (wd_X2 a ca u_20 ++ (wd_X0 a1 ca1 u1))) hP hD [0, 1, 2, 3, 4, 5, 6, 7, 8, 9] [10, 11] rfl rfl (by decide) (by decide) hk1 hFc hP1 hD1
              replace hP : va_P (dC, dI) vwCl (wd_X2 a ca u_20 ++ (wd_X0 a1 ca1 u1 ++ (wd_X1 a2 ca2 u2))) H1 := (hP.sub [2, 3, 4, 5, 6, 7, 8, 9, 10, 11, 0, 1] rfl)
              replace hD : va_D A (wd_X2 a ca u_20 ++ (wd_X0 a1 ca1 u1 ++ (wd_X1 a2 ca2 u2))) := (hD.sub [2, 3, 4, 5, 6, 7, 8, 9, 10, 11, 0, 1] (by decide) rfl)
              generalize H1 = H at hP hS ⊢
              refine lv_iinc (v := (v4_13 + 1)) (lv' := [(4, .int (v4_13 + 1)), (3, .int v3_7), (0, .ref (a 0)), (1, .ref (a1 0))]) hx hb dX2_run_100 hl (k := 0) rfl rfl (by decide) rfl (fun ls hl => ?_)
              refine lv_goto (tgt := 60) hx hb dX2_run_103 (by decide) ?_
              exact ih_LL_12 _ _ h _ _ _ hP hD hS (lv_sub hl [0, 1, 2, 3] rfl)
abbrev rm_X2_isLeast : Room := { frames := 2, cells := 0, slots := 0, locals := 48 }
set_option maxHeartbeats 4000000 in
set_option maxRecDepth 100000 in
theorem c_X2_isLeast (l : Launch) (dC : Nat → ClassId) (dI : Nat → Nat → Nat) (a : Nat → Nat) (ca : Nat → ClassId) (sz : Nat) (u : Ob) (x1 : Int32) (post : Int32 → Prop) (h : wp_X2_isLeast u x1 post) : Met l yX2_isLeast wsX2_isLeast rm_X2_isLeast (va_Pc [.ref (a 0), .int x1] (fun U => U.heap.size = sz ∧ va_P (dC, dI) vwCl (wd_X2 a ca u) U.heap ∧ va_K (dC, dI) vwCl (ty_X2 ca) U ∧ va_D (fun _ => True) (wd_X2 a ca u))) (va_Qi (fun (rr : Int32) (_ : Unit) => post rr) (fun (zz : Unit) (t : State) => va_P (dC, dI) vwCl (wd_X2 a ca u) t.heap ∧ va_D (va_A (wd_X2 a ca u) sz) (wd_X2 a ca u)) (va_A (wd_X2 a ca u) sz)) 0 0 (va_A (wd_X2 a ca u) sz) := by
  refine fl_ofW (cc := cX2_isLeast) (maxL := 3) (ret := (some .boolean)) (by decide) rfl ?_
  intro p e s m args below meth c s₁ Q B hml hv hQ
  obtain ⟨hargs, hsz, hP, hK, hD0⟩ := hv
  have hx := B.exec
  have hb := B.bytes
  have hr := B.returns
  have hts := atoms_spec (ws := wsX2_isLeast) B.pre
  have hown : s.vm.findClass RX2 = some m.cls := findClass_of_methodNamed B.named
  subst hsz
  have hD := hD0.self (sz := s.heap.size)
  generalize hAe : va_A (wd_X2 a ca u) s.heap.size = A at hD hQ
  have hA : ∀ q : Nat, s.heap.size ≤ q → A q := fun q h => by rw [← hAe]; exact Or.inr h
  have hS : va_S A s.heap s.heap [] := va_S.rf
  have hl := lv_entry ([.ref (a 0), .int x1]) (n := 3) (Nat.le_of_ble_eq_true rfl)
  refine W.eq (g2 := F0 m 0 ((lg_sl ([.ref (a 0), .int x1]) ++ List.replicate (3 - (lg_sl ([.ref (a 0), .int x1])).length) Slot.unset).toArray) []) (by rw [hargs]; exact lg_entry_eq m _ 3) ?_
  generalize (lg_sl ([.ref (a 0), .int x1]) ++ List.replicate (3 - (lg_sl ([.ref (a 0), .int x1])).length) Slot.unset).toArray = ls at hl ⊢
  have hl : lv_has ls 3 [(0, .ref (a 0)), (1, .int x1)] := hl
  suffices hstart : ∀ (H : Heap) (locs : List Loc) (ls : Array Slot), va_P (dC, dI) vwCl (wd_X2 a ca u) H → va_D A (wd_X2 a ca u) → va_S A s.heap H locs → lv_has ls 3 [(0, .ref (a 0)), (1, .int x1)] → W p l e (headSpec wsX2_isLeast rm_X2_isLeast).room s m args below meth c H locs 0 0 Q (F0 m 0 ls []) from hstart _ _ _ hP hD hS hl
  clear hS hP hD hD0
  intro H locs ls hP hD hS hl
  have hin_X2 : ∀ w ∈ wsX20, w ∈ wsX2_isLeast := by decide +kernel
  have lk_0 := hts (.fieldLink RX2 30 "ForgettingLines$Search" "count" "I") (by decide +kernel)
  have lk_1 := hts (.fieldLink RX2 15 "ForgettingLines$Search" "states" "[I") (by decide +kernel)
  have lk_2 := hts (.fieldLink RX2 18 "ForgettingLines$Search" "words0" "[I") (by decide +kernel)
  have lk_3 := hts (.fieldLink RX2 21 "ForgettingLines$Search" "words1" "[I") (by decide +kernel)
  unfold wp_X2_isLeast at h
  refine lv_iconst (v := 0) hx hb dX2_isLeast_0 (by decide) ?_
  refine lv_istore_n (lv' := [(2, .int 0), (0, .ref (a 0)), (1, .int x1)]) hx hb dX2_isLeast_1 rfl hl (by decide) rfl (fun ls hl => ?_)
  obtain ⟨n_10, h⟩ := h
  refine lq1_ind (GG := (fun (v2_2 : Int32) => ∀ (H : Heap) (locs : List Loc) (ls : Array Slot), va_P (dC, dI) vwCl (wd_X2 a ca u) H → va_D A (wd_X2 a ca u) → va_S A s.heap H locs → lv_has ls 3 [(2, .int v2_2), (0, .ref (a 0)), (1, .int x1)] → W p l e (headSpec wsX2_isLeast rm_X2_isLeast).room s m args below meth c H locs 0 0 Q (F0 m 2 ls []))) (fun LL_1 ih_LL_1 v2_2 h H locs ls hP hD hS hl => ?_) n_10 _ h _ _ _ hP hD hS (lv_sub hl [0, 1, 2] rfl)
  refine lv_iload_n hx hb dX2_isLeast_2 rfl (lv_at hl 0 rfl) ?_
  refine lv_aload_n hx hb dX2_isLeast_3 rfl (lv_at hl 1 rfl) ?_
  refine va_get (D := (dC, dI)) (ci := 2) (v := .int (u.1 0)) (C := RX2) (T := TX2) (N := 8) hx hb hts hin_X2 hown hK hP 0 rfl rfl 0 (by decide) lk_0 (fun _ h9 => h9) rfl dX2_isLeast_4 ?_
  refine lv_icmp_ge (tgt := 49) hx hb dX2_isLeast_7 (by decide) (fun hc_3 => ?_) (fun hc_3 => ?_)
  · replace h := h.1 hc_3
    refine lv_iconst (v := 1) hx hb dX2_isLeast_49 (by decide) ?_
    subst hQ
    exact W.zret (v := 1) hx hb hr (by rfl) (fun t ht hW => ⟨⟨_, (), rfl, h, by rw [ht]; exact hP, hD⟩, hS.F ht⟩) hS.2.2 dX2_isLeast_50
  · replace h := h.2 hc_3
    refine lv_iload_n hx hb dX2_isLeast_10 rfl (lv_at hl 0 rfl) ?_
    refine lv_iload_n hx hb dX2_isLeast_11 rfl (lv_at hl 2 rfl) ?_
    refine lv_icmp_eq (tgt := 43) hx hb dX2_isLeast_12 (by decide) (fun hc_4 => ?_) (fun hc_4 => ?_)
    · replace h := h.1 hc_4
      refine lv_iinc (v := (v2_2 + 1)) (lv' := [(2, .int (v2_2 + 1)), (0, .ref (a 0)), (1, .int x1)]) hx hb dX2_isLeast_43 hl (k := 0) rfl rfl (by decide) rfl (fun ls hl => ?_)
      refine lv_goto (tgt := 2) hx hb dX2_isLeast_46 (by decide) ?_
      exact ih_LL_1 _ h _ _ _ hP hD hS (lv_sub hl [0, 1, 2] rfl)
    · replace h := h.2 hc_4
      refine lv_aload_n hx hb dX2_isLeast_15 rfl (lv_at hl 1 rfl) ?_
      refine lv_iload_n hx hb dX2_isLeast_16 rfl (lv_at hl 0 rfl) ?_
      refine lv_aload_n hx hb dX2_isLeast_17 rfl (lv_at hl 1 rfl) ?_
      refine va_get (D := (dC, dI)) (ci := 2) (v := .ref (a 4)) (C := RX2) (T := TX2) (N := 8) hx hb hts hin_X2 hown hK hP 0 rfl rfl 3 (by decide) lk_1 (fun _ h9 => h9) rfl dX2_isLeast_18 ?_
      refine lv_iload_n hx hb dX2_isLeast_21 rfl (lv_at hl 2 rfl) ?_
      obtain ⟨hi_5, h⟩ := h
      refine va_iald (D := (dC, dI)) (cl := vwCl) (i := x1) hx hb hK hP 2 1 rfl rfl hi_5 dX2_isLeast_22 ?_
      refine lv_aload_n hx hb dX2_isLeast_23 rfl (lv_at hl 1 rfl) ?_
      refine va_get (D := (dC, dI)) (ci := 2) (v := .ref (a 5)) (C := RX2) (T := TX2) (N := 8) hx hb hts hin_X2 hown hK hP 0 rfl rfl 4 (by decide) lk_2 (fun _ h9 => h9) rfl dX2_isLeast_24 ?_
      refine lv_iload_n hx hb dX2_isLeast_27 rfl (lv_at hl 2 rfl) ?_
      obtain ⟨hi_6, h⟩ := h
      refine va_iald (D := (dC, dI)) (cl := vwCl) (i := x1) hx hb hK hP 3 2 rfl rfl hi_6 dX2_isLeast_28 ?_
      refine lv_aload_n hx hb dX2_isLeast_29 rfl (lv_at hl 1 rfl) ?_
      refine va_get (D := (dC, dI)) (ci := 2) (v := .ref (a 6)) (C := RX2) (T := TX2) (N := 8) hx hb hts hin_X2 hown hK hP 0 rfl rfl 5 (by decide) lk_3 (fun _ h9 => h9) rfl dX2_isLeast_30 ?_
      refine lv_iload_n hx hb dX2_isLeast_33 rfl (lv_at hl 2 rfl) ?_
      obtain ⟨hi_7, h⟩ := h
      refine va_iald (D := (dC, dI)) (cl := vwCl) (i := x1) hx hb hK hP 4 3 rfl rfl hi_7 dX2_isLeast_34 ?_
      have hPc := hP
      have hDc := hD
      have hKc := hK
      have hFc := va_free (wc := (wd_X2 a ca u)) hD hS hA [0, 1, 2, 3, 4, 5, 6] rfl
      refine va_calli (va_runV (As := [.int v2_2, .int (u.2.1 3 x1.toNatClampNeg), .int (u.2.1 4 x1.toNatClampNeg), .int (u.2.1 5 x1.toNatClampNeg)]) (rest := []) ⟨hx, hb, hml, hown, hts⟩ (c_X2_isBelowPlace l dC dI a ca H.size u v2_2 (u.2.1 3 x1.toNatClampNeg) (u.2.1 4 x1.toNatClampNeg) (u.2.1 5 x1.toNatClampNeg) _ h) (cwV 4 hts gX2_isLeast_X2_isBelowPlace rfl rfl rfl (by decide +kernel) ⟨Nat.le_of_ble_eq_true rfl, Nat.le_of_ble_eq_true rfl⟩) ⟨fun a U g mk q => by obtain ⟨q0, q1, qP, qK, qD⟩ := q; exact ⟨q0, q1, qP, va_K.moved (u := U) (U := U.calling g mk a) (Vm.Alike.refl U.vm) qK, qD⟩, va_recv hKc hPc (ci := 2) (q0 := 0) rfl rfl, fun U hU hW => ⟨rfl, by rw [hU], by rw [hU]; exact hPc, va_K.moved hW.alike hKc, hDc.weaken (fun _ _ _ _ => trivial)⟩⟩ rfl rfl hl.1 rfl (lv_room (Nat.le_of_ble_eq_true rfl)) dX2_isLeast_35 ⟨Nat.zero_le _, Nat.zero_le _⟩) hS (fun q _ h => hFc q h) hFc (fun r_8 zz t H1 locs ht hvm hw hB hz1 hk1 hS => ?_)
      replace h := hw
      obtain ⟨hP1, hD1⟩ := hB
      rw [ht] at hP1
      replace hD : va_D A (wd_X2 a ca u) := hD1.weaken (fun _ _ _ h9 => hFc _ h9)
      replace hP : va_P (dC, dI) vwCl (wd_X2 a ca u) H1 := hP1
      generalize H1 = H at hP hS ⊢
      refine lv_if_eq (tgt := 43) hx hb dX2_isLeast_38 (by decide) (fun hc_9 => ?_) (fun hc_9 => ?_)
      · replace h := h.1 hc_9
        refine lv_iinc (v := (v2_2 + 1)) (lv' := [(2, .int (v2_2 + 1)), (0, .ref (a 0)), (1, .int x1)]) hx hb dX2_isLeast_43 hl (k := 0) rfl rfl (by decide) rfl (fun ls hl => ?_)
        refine lv_goto (tgt := 2) hx hb dX2_isLeast_46 (by decide) ?_
        exact ih_LL_1 _ h _ _ _ hP hD hS (lv_sub hl [0, 1, 2] rfl)
      · replace h := h.2 hc_9
        refine lv_iconst (v := 0) hx hb dX2_isLeast_41 (by decide) ?_
        subst hQ
        exact W.zret (v := 0) hx hb hr (by rfl) (fun t ht hW => ⟨⟨_, (), rfl, h, by rw [ht]; exact hP, hD⟩, hS.F ht⟩) hS.2.2 dX2_isLeast_42
abbrev rm_X2_countLeast : Room := { frames := 3, cells := 0, slots := 0, locals := 70 }
set_option maxHeartbeats 4000000 in
set_option maxRecDepth 100000 in
theorem c_X2_countLeast (l : Launch) (dC : Nat → ClassId) (dI : Nat → Nat → Nat) (a : Nat → Nat) (ca : Nat → ClassId) (sz : Nat) (u : Ob) (post : Int32 → Prop) (h : wp_X2_countLeast u post) : Met l yX2_countLeast wsX2_countLeast rm_X2_countLeast (va_Pc [.ref (a 0)] (fun U => U.heap.size = sz ∧ va_P (dC, dI) vwCl (wd_X2 a ca u) U.heap ∧ va_K (dC, dI) vwCl (ty_X2 ca) U ∧ va_D (fun _ => True) (wd_X2 a ca u))) (va_Qi (fun (rr : Int32) (_ : Unit) => post rr) (fun (zz : Unit) (t : State) => va_P (dC, dI) vwCl (wd_X2 a ca u) t.heap ∧ va_D (va_A (wd_X2 a ca u) sz) (wd_X2 a ca u)) (va_A (wd_X2 a ca u) sz)) 0 0 (va_A (wd_X2 a ca u) sz) := by
  refine fl_ofW (cc := cX2_countLeast) (maxL := 3) (ret := (some .int)) (by decide) rfl ?_
  intro p e s m args below meth c s₁ Q B hml hv hQ
  obtain ⟨hargs, hsz, hP, hK, hD0⟩ := hv
  have hx := B.exec
  have hb := B.bytes
  have hr := B.returns
  have hts := atoms_spec (ws := wsX2_countLeast) B.pre
  have hown : s.vm.findClass RX2 = some m.cls := findClass_of_methodNamed B.named
  subst hsz
  have hD := hD0.self (sz := s.heap.size)
  generalize hAe : va_A (wd_X2 a ca u) s.heap.size = A at hD hQ
  have hA : ∀ q : Nat, s.heap.size ≤ q → A q := fun q h => by rw [← hAe]; exact Or.inr h
  have hS : va_S A s.heap s.heap [] := va_S.rf
  have hl := lv_entry ([.ref (a 0)]) (n := 3) (Nat.le_of_ble_eq_true rfl)
  refine W.eq (g2 := F0 m 0 ((lg_sl ([.ref (a 0)]) ++ List.replicate (3 - (lg_sl ([.ref (a 0)])).length) Slot.unset).toArray) []) (by rw [hargs]; exact lg_entry_eq m _ 3) ?_
  generalize (lg_sl ([.ref (a 0)]) ++ List.replicate (3 - (lg_sl ([.ref (a 0)])).length) Slot.unset).toArray = ls at hl ⊢
  have hl : lv_has ls 3 [(0, .ref (a 0))] := hl
  suffices hstart : ∀ (H : Heap) (locs : List Loc) (ls : Array Slot), va_P (dC, dI) vwCl (wd_X2 a ca u) H → va_D A (wd_X2 a ca u) → va_S A s.heap H locs → lv_has ls 3 [(0, .ref (a 0))] → W p l e (headSpec wsX2_countLeast rm_X2_countLeast).room s m args below meth c H locs 0 0 Q (F0 m 0 ls []) from hstart _ _ _ hP hD hS hl
  clear hS hP hD hD0
  intro H locs ls hP hD hS hl
  have hin_X2 : ∀ w ∈ wsX20, w ∈ wsX2_countLeast := by decide +kernel
  have lk_0 := hts (.fieldLink RX2 30 "ForgettingLines$Search" "count" "I") (by decide +kernel)
  unfold wp_X2_countLeast at h
  refine lv_iconst (v := 0) hx hb dX2_countLeast_0 (by decide) ?_
  refine lv_istore_n (lv' := [(1, .int 0), (0, .ref (a 0))]) hx hb dX2_countLeast_1 rfl hl (by decide) rfl (fun ls hl => ?_)
  refine lv_iconst (v := 0) hx hb dX2_countLeast_2 (by decide) ?_
  refine lv_istore_n (lv' := [(2, .int 0), (1, .int 0), (0, .ref (a 0))]) hx hb dX2_countLeast_3 rfl hl (by decide) rfl (fun ls hl => ?_)
  obtain ⟨n_7, h⟩ := h
  refine lq2_ind (GG := (fun (v2_2 : Int32) (v1_3 : Int32) => ∀ (H : Heap) (locs : List Loc) (ls : Array Slot), va_P (dC, dI) vwCl (wd_X2 a ca u) H → va_D A (wd_X2 a ca u) → va_S A s.heap H locs → lv_has ls 3 [(2, .int v2_2), (1, .int v1_3), (0, .ref (a 0))] → W p l e (headSpec wsX2_countLeast rm_X2_countLeast).room s m args below meth c H locs 0 0 Q (F0 m 4 ls []))) (fun LL_1 ih_LL_1 v2_2 v1_3 h H locs ls hP hD hS hl => ?_) n_7 _ _ h _ _ _ hP hD hS (lv_sub hl [0, 1, 2] rfl)
  refine lv_iload_n hx hb dX2_countLeast_4 rfl (lv_at hl 0 rfl) ?_
  refine lv_aload_n hx hb dX2_countLeast_5 rfl (lv_at hl 2 rfl) ?_
  refine va_get (D := (dC, dI)) (ci := 2) (v := .int (u.1 0)) (C := RX2) (T := TX2) (N := 8) hx hb hts hin_X2 hown hK hP 0 rfl rfl 0 (by decide) lk_0 (fun _ h9 => h9) rfl dX2_countLeast_6 ?_
  refine lv_icmp_ge (tgt := 29) hx hb dX2_countLeast_9 (by decide) (fun hc_4 => ?_) (fun hc_4 => ?_)
  · replace h := h.1 hc_4
    refine lv_iload_n hx hb dX2_countLeast_29 rfl (lv_at hl 1 rfl) ?_
    subst hQ
    exact W.iret (v := v1_3) hx hb hr (fun t ht hW => ⟨⟨_, (), rfl, h, by rw [ht]; exact hP, hD⟩, hS.F ht⟩) hS.2.2 dX2_countLeast_30
  · replace h := h.2 hc_4
    refine lv_aload_n hx hb dX2_countLeast_12 rfl (lv_at hl 2 rfl) ?_
    refine lv_iload_n hx hb dX2_countLeast_13 rfl (lv_at hl 0 rfl) ?_
    have hPc := hP
    have hDc := hD
    have hKc := hK
    have hFc := va_free (wc := (wd_X2 a ca u)) hD hS hA [0, 1, 2, 3, 4, 5, 6] rfl
    refine va_calli (va_runV (As := [.int v2_2]) (rest := []) ⟨hx, hb, hml, hown, hts⟩ (c_X2_isLeast l dC dI a ca H.size u v2_2 _ h) (cwV 1 hts gX2_countLeast_X2_isLeast rfl rfl rfl (by decide +kernel) ⟨Nat.le_of_ble_eq_true rfl, Nat.le_of_ble_eq_true rfl⟩) ⟨fun a U g mk q => by obtain ⟨q0, q1, qP, qK, qD⟩ := q; exact ⟨q0, q1, qP, va_K.moved (u := U) (U := U.calling g mk a) (Vm.Alike.refl U.vm) qK, qD⟩, va_recv hKc hPc (ci := 2) (q0 := 0) rfl rfl, fun U hU hW => ⟨rfl, by rw [hU], by rw [hU]; exact hPc, va_K.moved hW.alike hKc, hDc.weaken (fun _ _ _ _ => trivial)⟩⟩ rfl rfl hl.1 rfl (lv_room (Nat.le_of_ble_eq_true rfl)) dX2_countLeast_14 ⟨Nat.zero_le _, Nat.zero_le _⟩) hS (fun q _ h => hFc q h) hFc (fun r_5 zz t H1 locs ht hvm hw hB hz1 hk1 hS => ?_)
    replace h := hw
    obtain ⟨hP1, hD1⟩ := hB
    rw [ht] at hP1
    replace hD : va_D A (wd_X2 a ca u) := hD1.weaken (fun _ _ _ h9 => hFc _ h9)
    replace hP : va_P (dC, dI) vwCl (wd_X2 a ca u) H1 := hP1
    generalize H1 = H at hP hS ⊢
    refine lv_if_eq (tgt := 23) hx hb dX2_countLeast_17 (by decide) (fun hc_6 => ?_) (fun hc_6 => ?_)
    · replace h := h.1 hc_6
      refine lv_iinc (v := (v2_2 + 1)) (lv' := [(2, .int (v2_2 + 1)), (1, .int v1_3), (0, .ref (a 0))]) hx hb dX2_countLeast_23 hl (k := 0) rfl rfl (by decide) rfl (fun ls hl => ?_)
      refine lv_goto (tgt := 4) hx hb dX2_countLeast_26 (by decide) ?_
      exact ih_LL_1 _ _ h _ _ _ hP hD hS (lv_sub hl [0, 1, 2] rfl)
    · replace h := h.2 hc_6
      refine lv_iinc (v := (v1_3 + 1)) (lv' := [(1, .int (v1_3 + 1)), (2, .int v2_2), (0, .ref (a 0))]) hx hb dX2_countLeast_20 hl (k := 1) rfl rfl (by decide) rfl (fun ls hl => ?_)
      refine lv_iinc (v := (v2_2 + 1)) (lv' := [(2, .int (v2_2 + 1)), (1, .int (v1_3 + 1)), (0, .ref (a 0))]) hx hb dX2_countLeast_23 hl (k := 1) rfl rfl (by decide) rfl (fun ls hl => ?_)
      refine lv_goto (tgt := 4) hx hb dX2_countLeast_26 (by decide) ?_
      exact ih_LL_1 _ _ h _ _ _ hP hD hS (lv_sub hl [0, 1, 2] rfl)
abbrev rm_X2_wordOf : Room := { frames := 0, cells := 0, slots := 0, locals := 0 }
set_option maxHeartbeats 4000000 in
set_option maxRecDepth 100000 in
theorem c_X2_wordOf (l : Launch) (dC : Nat → ClassId) (dI : Nat → Nat → Nat) (a : Nat → Nat) (ca : Nat → ClassId) (sz : Nat) (u : Ob) (x1 : Int32) (x2 : Int32) (post : Int32 → Prop) (h : wp_X2_wordOf u x1 x2 post) : Met l yX2_wordOf wsX2_wordOf rm_X2_wordOf (va_Pc [.ref (a 0), .int x1, .int x2] (fun U => U.heap.size = sz ∧ va_P (dC, dI) vwCl (wd_X2 a ca u) U.heap ∧ va_K (dC, dI) vwCl (ty_X2 ca) U ∧ va_D (fun _ => True) (wd_X2 a ca u))) (va_Qi (fun (rr : Int32) (_ : Unit) => post rr) (fun (zz : Unit) (t : State) => va_P (dC, dI) vwCl (wd_X2 a ca u) t.heap ∧ va_D (va_A (wd_X2 a ca u) sz) (wd_X2 a ca u)) (va_A (wd_X2 a ca u) sz)) 0 0 (va_A (wd_X2 a ca u) sz) := by
  refine fl_ofW (cc := cX2_wordOf) (maxL := 3) (ret := (some .int)) (by decide) rfl ?_
  intro p e s m args below meth c s₁ Q B hml hv hQ
  obtain ⟨hargs, hsz, hP, hK, hD0⟩ := hv
  have hx := B.exec
  have hb := B.bytes
  have hr := B.returns
  have hts := atoms_spec (ws := wsX2_wordOf) B.pre
  have hown : s.vm.findClass RX2 = some m.cls := findClass_of_methodNamed B.named
  subst hsz
  have hD := hD0.self (sz := s.heap.size)
  generalize hAe : va_A (wd_X2 a ca u) s.heap.size = A at hD hQ
  have hA : ∀ q : Nat, s.heap.size ≤ q → A q := fun q h => by rw [← hAe]; exact Or.inr h
  have hS : va_S A s.heap s.heap [] := va_S.rf
  have hl := lv_entry ([.ref (a 0), .int x1, .int x2]) (n := 3) (Nat.le_of_ble_eq_true rfl)
  refine W.eq (g2 := F0 m 0 ((lg_sl ([.ref (a 0), .int x1, .int x2]) ++ List.replicate (3 - (lg_sl ([.ref (a 0), .int x1, .int x2])).length) Slot.unset).toArray) []) (by rw [hargs]; exact lg_entry_eq m _ 3) ?_
  generalize (lg_sl ([.ref (a 0), .int x1, .int x2]) ++ List.replicate (3 - (lg_sl ([.ref (a 0), .int x1, .int x2])).length) Slot.unset).toArray = ls at hl ⊢
  have hl : lv_has ls 3 [(0, .ref (a 0)), (1, .int x1), (2, .int x2)] := hl
  suffices hstart : ∀ (H : Heap) (locs : List Loc) (ls : Array Slot), va_P (dC, dI) vwCl (wd_X2 a ca u) H → va_D A (wd_X2 a ca u) → va_S A s.heap H locs → lv_has ls 3 [(0, .ref (a 0)), (1, .int x1), (2, .int x2)] → W p l e (headSpec wsX2_wordOf rm_X2_wordOf).room s m args below meth c H locs 0 0 Q (F0 m 0 ls []) from hstart _ _ _ hP hD hS hl
  clear hS hP hD hD0
  intro H locs ls hP hD hS hl
  have hin_X2 : ∀ w ∈ wsX20, w ∈ wsX2_wordOf := by decide +kernel
  have lk_0 := hts (.fieldLink RX2 21 "ForgettingLines$Search" "words1" "[I") (by decide +kernel)
  have lk_1 := hts (.fieldLink RX2 18 "ForgettingLines$Search" "words0" "[I") (by decide +kernel)
  unfold wp_X2_wordOf at h
  refine lv_iload_n hx hb dX2_wordOf_0 rfl (lv_at hl 2 rfl) ?_
  refine lv_if_ne (tgt := 13) hx hb dX2_wordOf_1 (by decide) (fun hc_1 => ?_) (fun hc_1 => ?_)
  · replace h := h.1 hc_1
    refine lv_aload_n hx hb dX2_wordOf_13 rfl (lv_at hl 0 rfl) ?_
    refine va_get (D := (dC, dI)) (ci := 2) (v := .ref (a 6)) (C := RX2) (T := TX2) (N := 8) hx hb hts hin_X2 hown hK hP 0 rfl rfl 5 (by decide) lk_0 (fun _ h9 => h9) rfl dX2_wordOf_14 ?_
    refine lv_iload_n hx hb dX2_wordOf_17 rfl (lv_at hl 1 rfl) ?_
    obtain ⟨hi_2, h⟩ := h
    refine va_iald (D := (dC, dI)) (cl := vwCl) (i := x1) hx hb hK hP 4 3 rfl rfl hi_2 dX2_wordOf_18 ?_
    subst hQ
    exact W.iret (v := (u.2.1 5 x1.toNatClampNeg)) hx hb hr (fun t ht hW => ⟨⟨_, (), rfl, h, by rw [ht]; exact hP, hD⟩, hS.F ht⟩) hS.2.2 dX2_wordOf_19
  · replace h := h.2 hc_1
    refine lv_aload_n hx hb dX2_wordOf_4 rfl (lv_at hl 0 rfl) ?_
    refine va_get (D := (dC, dI)) (ci := 2) (v := .ref (a 5)) (C := RX2) (T := TX2) (N := 8) hx hb hts hin_X2 hown hK hP 0 rfl rfl 4 (by decide) lk_1 (fun _ h9 => h9) rfl dX2_wordOf_5 ?_
    refine lv_iload_n hx hb dX2_wordOf_8 rfl (lv_at hl 1 rfl) ?_
    obtain ⟨hi_3, h⟩ := h
    refine va_iald (D := (dC, dI)) (cl := vwCl) (i := x1) hx hb hK hP 3 2 rfl rfl hi_3 dX2_wordOf_9 ?_
    refine lv_goto (tgt := 19) hx hb dX2_wordOf_10 (by decide) ?_
    subst hQ
    exact W.iret (v := (u.2.1 4 x1.toNatClampNeg)) hx hb hr (fun t ht hW => ⟨⟨_, (), rfl, h, by rw [ht]; exact hP, hD⟩, hS.F ht⟩) hS.2.2 dX2_wordOf_19
abbrev rm_X2_fact : Room := { frames := 3, cells := 0, slots := 0, locals := 70 }
set_option maxHeartbeats 4000000 in
set_option maxRecDepth 100000 in
theorem c_X2_fact (l : Launch) (dC : Nat → ClassId) (dI : Nat → Nat → Nat) (a : Nat → Nat) (ca : Nat → ClassId) (sz : Nat) (u : Ob) (x1 : Int32) (x2 : Int32) (post : Int32 → Prop) (h : wp_X2_fact u x1 x2 post) : Met l yX2_fact wsX2_fact rm_X2_fact (va_Pc [.ref (a 0), .int x1, .int x2] (fun U => U.heap.size = sz ∧ va_P (dC, dI) vwCl (wd_X2 a ca u) U.heap ∧ va_K (dC, dI) vwCl (ty_X2 ca) U ∧ va_D (fun _ => True) (wd_X2 a ca u))) (va_Qi (fun (rr : Int32) (_ : Unit) => post rr) (fun (zz : Unit) (t : State) => va_P (dC, dI) vwCl (wd_X2 a ca u) t.heap ∧ va_D (va_A (wd_X2 a ca u) sz) (wd_X2 a ca u)) (va_A (wd_X2 a ca u) sz)) 0 0 (va_A (wd_X2 a ca u) sz) := by
  refine fl_ofW (cc := cX2_fact) (maxL := 3) (ret := (some .int)) (by decide) rfl ?_
  intro p e s m args below meth c s₁ Q B hml hv hQ
  obtain ⟨hargs, hsz, hP, hK, hD0⟩ := hv
  have hx := B.exec
  have hb := B.bytes
  have hr := B.returns
  have hts := atoms_spec (ws := wsX2_fact) B.pre
  have hown : s.vm.findClass RX2 = some m.cls := findClass_of_methodNamed B.named
  subst hsz
  have hD := hD0.self (sz := s.heap.size)
  generalize hAe : va_A (wd_X2 a ca u) s.heap.size = A at hD hQ
  have hA : ∀ q : Nat, s.heap.size ≤ q → A q := fun q h => by rw [← hAe]; exact Or.inr h
  have hS : va_S A s.heap s.heap [] := va_S.rf
  have hl := lv_entry ([.ref (a 0), .int x1, .int x2]) (n := 3) (Nat.le_of_ble_eq_true rfl)
  refine W.eq (g2 := F0 m 0 ((lg_sl ([.ref (a 0), .int x1, .int x2]) ++ List.replicate (3 - (lg_sl ([.ref (a 0), .int x1, .int x2])).length) Slot.unset).toArray) []) (by rw [hargs]; exact lg_entry_eq m _ 3) ?_
  generalize (lg_sl ([.ref (a 0), .int x1, .int x2]) ++ List.replicate (3 - (lg_sl ([.ref (a 0), .int x1, .int x2])).length) Slot.unset).toArray = ls at hl ⊢
  have hl : lv_has ls 3 [(0, .ref (a 0)), (1, .int x1), (2, .int x2)] := hl
  suffices hstart : ∀ (H : Heap) (locs : List Loc) (ls : Array Slot), va_P (dC, dI) vwCl (wd_X2 a ca u) H → va_D A (wd_X2 a ca u) → va_S A s.heap H locs → lv_has ls 3 [(0, .ref (a 0)), (1, .int x1), (2, .int x2)] → W p l e (headSpec wsX2_fact rm_X2_fact).room s m args below meth c H locs 0 0 Q (F0 m 0 ls []) from hstart _ _ _ hP hD hS hl
  clear hS hP hD hD0
  intro H locs ls hP hD hS hl
  have hin_X2 : ∀ w ∈ wsX20, w ∈ wsX2_fact := by decide +kernel
  have lk_0 := hts (.fieldLink RX2 15 "ForgettingLines$Search" "states" "[I") (by decide +kernel)
  have lk_1 := hts (.fieldLink RX2 9 "ForgettingLines$Search" "rounds" "[I") (by decide +kernel)
  have lk_2 := hts (.fieldLink RX2 18 "ForgettingLines$Search" "words0" "[I") (by decide +kernel)
  have lk_3 := hts (.fieldLink RX2 21 "ForgettingLines$Search" "words1" "[I") (by decide +kernel)
  have lk_4 := hts (.fieldLink RX2 24 "ForgettingLines$Search" "arcs" "[I") (by decide +kernel)
  have lk_5 := hts (.fieldLink RX2 27 "ForgettingLines$Search" "origins" "[I") (by decide +kernel)
  unfold wp_X2_fact at h
  refine lv_iload_n hx hb dX2_fact_0 rfl (lv_at hl 2 rfl) ?_
  by_cases hs_1 : x2 = 0
  · replace h := h.1 hs_1
    refine lv_tableIn (tgt := 40) hx hb dX2_fact_1 (by rw [hs_1]; decide) (by rw [hs_1]; decide) (by rw [hs_1]; rfl) (by decide) ?_
    refine lv_aload_n hx hb dX2_fact_40 rfl (lv_at hl 0 rfl) ?_
    refine va_get (D := (dC, dI)) (ci := 2) (v := .ref (a 4)) (C := RX2) (T := TX2) (N := 8) hx hb hts hin_X2 hown hK hP 0 rfl rfl 3 (by decide) lk_0 (fun _ h9 => h9) rfl dX2_fact_41 ?_
    refine lv_iload_n hx hb dX2_fact_44 rfl (lv_at hl 1 rfl) ?_
    obtain ⟨hi_2, h⟩ := h
    refine va_iald (D := (dC, dI)) (cl := vwCl) (i := x1) hx hb hK hP 2 1 rfl rfl hi_2 dX2_fact_45 ?_
    subst hQ
    exact W.iret (v := (u.2.1 3 x1.toNatClampNeg)) hx hb hr (fun t ht hW => ⟨⟨_, (), rfl, h, by rw [ht]; exact hP, hD⟩, hS.F ht⟩) hS.2.2 dX2_fact_46
  · replace h := h.2 hs_1
    by_cases hs_3 : x2 = 1
    · replace h := h.1 hs_3
      refine lv_tableIn (tgt := 47) hx hb dX2_fact_1 (by rw [hs_3]; decide) (by rw [hs_3]; decide) (by rw [hs_3]; rfl) (by decide) ?_
      refine lv_aload_n hx hb dX2_fact_47 rfl (lv_at hl 0 rfl) ?_
      refine va_get (D := (dC, dI)) (ci := 2) (v := .ref (a 3)) (C := RX2) (T := TX2) (N := 8) hx hb hts hin_X2 hown hK hP 0 rfl rfl 2 (by decide) lk_1 (fun _ h9 => h9) rfl dX2_fact_48 ?_
      refine lv_iload_n hx hb dX2_fact_51 rfl (lv_at hl 1 rfl) ?_
      obtain ⟨hi_4, h⟩ := h
      refine va_iald (D := (dC, dI)) (cl := vwCl) (i := x1) hx hb hK hP 1 0 rfl rfl hi_4 dX2_fact_52 ?_
      subst hQ
      exact W.iret (v := (u.2.1 2 x1.toNatClampNeg)) hx hb hr (fun t ht hW => ⟨⟨_, (), rfl, h, by rw [ht]; exact hP, hD⟩, hS.F ht⟩) hS.2.2 dX2_fact_53
    · replace h := h.2 hs_3
      by_cases hs_5 : x2 = 2
      · replace h := h.1 hs_5
        refine lv_tableIn (tgt := 54) hx hb dX2_fact_1 (by rw [hs_5]; decide) (by rw [hs_5]; decide) (by rw [hs_5]; rfl) (by decide) ?_
        refine lv_aload_n hx hb dX2_fact_54 rfl (lv_at hl 0 rfl) ?_
        refine va_get (D := (dC, dI)) (ci := 2) (v := .ref (a 5)) (C := RX2) (T := TX2) (N := 8) hx hb hts hin_X2 hown hK hP 0 rfl rfl 4 (by decide) lk_2 (fun _ h9 => h9) rfl dX2_fact_55 ?_
        refine lv_iload_n hx hb dX2_fact_58 rfl (lv_at hl 1 rfl) ?_
        obtain ⟨hi_6, h⟩ := h
        refine va_iald (D := (dC, dI)) (cl := vwCl) (i := x1) hx hb hK hP 3 2 rfl rfl hi_6 dX2_fact_59 ?_
        have hFc := fl_freeN hS hA
        refine va_calli (va_runS (As := [.int (u.2.1 4 x1.toNatClampNeg)]) (rest := []) ⟨hx, hb, hml, hown, hts⟩ (c_X6_size l H.size (u.2.1 4 x1.toNatClampNeg) _ h) (va_cwS 1 hts gX2_fact_X6_size rfl rfl rfl (by decide +kernel) ⟨Nat.le_of_ble_eq_true rfl, Nat.le_of_ble_eq_true rfl⟩) ⟨fun a U g mk q => by obtain ⟨q0, q1⟩ := q; exact ⟨q0, q1⟩, fun U hU hW => ⟨rfl, congrArg Array.size hU⟩⟩ rfl rfl hl.1 rfl (lv_room (Nat.le_of_ble_eq_true rfl)) dX2_fact_60 ⟨Nat.zero_le _, Nat.zero_le _⟩) hS (fun q _ h => hFc q h) hFc (fun r_7 zz t H1 locs ht hvm hw hB hz1 hk1 hS => ?_)
        replace hP := fl_keep hP hk1
        replace h := hw
        generalize H1 = H at hP hS ⊢
        subst hQ
        exact W.iret (v := r_7) hx hb hr (fun t ht hW => ⟨⟨_, (), rfl, h, by rw [ht]; exact hP, hD⟩, hS.F ht⟩) hS.2.2 dX2_fact_63
      · replace h := h.2 hs_5
        by_cases hs_8 : x2 = 3
        · replace h := h.1 hs_8
          refine lv_tableIn (tgt := 64) hx hb dX2_fact_1 (by rw [hs_8]; decide) (by rw [hs_8]; decide) (by rw [hs_8]; rfl) (by decide) ?_
          refine lv_aload_n hx hb dX2_fact_64 rfl (lv_at hl 0 rfl) ?_
          refine va_get (D := (dC, dI)) (ci := 2) (v := .ref (a 6)) (C := RX2) (T := TX2) (N := 8) hx hb hts hin_X2 hown hK hP 0 rfl rfl 5 (by decide) lk_3 (fun _ h9 => h9) rfl dX2_fact_65 ?_
          refine lv_iload_n hx hb dX2_fact_68 rfl (lv_at hl 1 rfl) ?_
          obtain ⟨hi_9, h⟩ := h
          refine va_iald (D := (dC, dI)) (cl := vwCl) (i := x1) hx hb hK hP 4 3 rfl rfl hi_9 dX2_fact_69 ?_
          have hFc := fl_freeN hS hA
          refine va_calli (va_runS (As := [.int (u.2.1 5 x1.toNatClampNeg)]) (rest := []) ⟨hx, hb, hml, hown, hts⟩ (c_X6_size l H.size (u.2.1 5 x1.toNatClampNeg) _ h) (va_cwS 1 hts gX2_fact_X6_size rfl rfl rfl (by decide +kernel) ⟨Nat.le_of_ble_eq_true rfl, Nat.le_of_ble_eq_true rfl⟩) ⟨fun a U g mk q => by obtain ⟨q0, q1⟩ := q; exact ⟨q0, q1⟩, fun U hU hW => ⟨rfl, congrArg Array.size hU⟩⟩ rfl rfl hl.1 rfl (lv_room (Nat.le_of_ble_eq_true rfl)) dX2_fact_70 ⟨Nat.zero_le _, Nat.zero_le _⟩) hS (fun q _ h => hFc q h) hFc (fun r_10 zz t H1 locs ht hvm hw hB hz1 hk1 hS => ?_)
          replace hP := fl_keep hP hk1
          replace h := hw
          generalize H1 = H at hP hS ⊢
          subst hQ
          exact W.iret (v := r_10) hx hb hr (fun t ht hW => ⟨⟨_, (), rfl, h, by rw [ht]; exact hP, hD⟩, hS.F ht⟩) hS.2.2 dX2_fact_73
        · replace h := h.2 hs_8
          by_cases hs_11 : x2 = 4
          · replace h := h.1 hs_11
            refine lv_tableIn (tgt := 74) hx hb dX2_fact_1 (by rw [hs_11]; decide) (by rw [hs_11]; decide) (by rw [hs_11]; rfl) (by decide) ?_
            refine lv_aload_n hx hb dX2_fact_74 rfl (lv_at hl 0 rfl) ?_
            refine va_get (D := (dC, dI)) (ci := 2) (v := .ref (a 7)) (C := RX2) (T := TX2) (N := 8) hx hb hts hin_X2 hown hK hP 0 rfl rfl 6 (by decide) lk_4 (fun _ h9 => h9) rfl dX2_fact_75 ?_
            refine lv_iload_n hx hb dX2_fact_78 rfl (lv_at hl 1 rfl) ?_
            obtain ⟨hi_12, h⟩ := h
            refine va_iald (D := (dC, dI)) (cl := vwCl) (i := x1) hx hb hK hP 5 4 rfl rfl hi_12 dX2_fact_79 ?_
            subst hQ
            exact W.iret (v := (u.2.1 6 x1.toNatClampNeg)) hx hb hr (fun t ht hW => ⟨⟨_, (), rfl, h, by rw [ht]; exact hP, hD⟩, hS.F ht⟩) hS.2.2 dX2_fact_80
          · replace h := h.2 hs_11
            by_cases hs_13 : x2 = 5
            · replace h := h.1 hs_13
              refine lv_tableIn (tgt := 81) hx hb dX2_fact_1 (by rw [hs_13]; decide) (by rw [hs_13]; decide) (by rw [hs_13]; rfl) (by decide) ?_
              refine lv_aload_n hx hb dX2_fact_81 rfl (lv_at hl 0 rfl) ?_
              refine va_get (D := (dC, dI)) (ci := 2) (v := .ref (a 8)) (C := RX2) (T := TX2) (N := 8) hx hb hts hin_X2 hown hK hP 0 rfl rfl 7 (by decide) lk_5 (fun _ h9 => h9) rfl dX2_fact_82 ?_
              refine lv_iload_n hx hb dX2_fact_85 rfl (lv_at hl 1 rfl) ?_
              obtain ⟨hi_14, h⟩ := h
              refine va_iald (D := (dC, dI)) (cl := vwCl) (i := x1) hx hb hK hP 6 5 rfl rfl hi_14 dX2_fact_86 ?_
              subst hQ
              exact W.iret (v := (u.2.1 7 x1.toNatClampNeg)) hx hb hr (fun t ht hW => ⟨⟨_, (), rfl, h, by rw [ht]; exact hP, hD⟩, hS.F ht⟩) hS.2.2 dX2_fact_87
            · replace h := h.2 hs_13
              have ths_1 := lv_neT (a := 0) hs_1 rfl
              have ths_3 := lv_neT (a := 1) hs_3 rfl
              have ths_5 := lv_neT (a := 2) hs_5 rfl
              have ths_8 := lv_neT (a := 3) hs_8 rfl
              have ths_11 := lv_neT (a := 4) hs_11 rfl
              have ths_13 := lv_neT (a := 5) hs_13 rfl
              refine lv_tableOut (tgt := 88) hx hb dX2_fact_1 (by omega) (by decide) ?_
              refine lv_aload_n hx hb dX2_fact_88 rfl (lv_at hl 0 rfl) ?_
              refine lv_iload_n hx hb dX2_fact_89 rfl (lv_at hl 1 rfl) ?_
              have hPc := hP
              have hDc := hD
              have hKc := hK
              have hFc := va_free (wc := (wd_X2 a ca u)) hD hS hA [0, 1, 2, 3, 4, 5, 6] rfl
              refine va_calli (va_runV (As := [.int x1]) (rest := []) ⟨hx, hb, hml, hown, hts⟩ (c_X2_isLeast l dC dI a ca H.size u x1 _ h) (cwV 1 hts gX2_fact_X2_isLeast rfl rfl rfl (by decide +kernel) ⟨Nat.le_of_ble_eq_true rfl, Nat.le_of_ble_eq_true rfl⟩) ⟨fun a U g mk q => by obtain ⟨q0, q1, qP, qK, qD⟩ := q; exact ⟨q0, q1, qP, va_K.moved (u := U) (U := U.calling g mk a) (Vm.Alike.refl U.vm) qK, qD⟩, va_recv hKc hPc (ci := 2) (q0 := 0) rfl rfl, fun U hU hW => ⟨rfl, by rw [hU], by rw [hU]; exact hPc, va_K.moved hW.alike hKc, hDc.weaken (fun _ _ _ _ => trivial)⟩⟩ rfl rfl hl.1 rfl (lv_room (Nat.le_of_ble_eq_true rfl)) dX2_fact_90 ⟨Nat.zero_le _, Nat.zero_le _⟩) hS (fun q _ h => hFc q h) hFc (fun r_15 zz t H1 locs ht hvm hw hB hz1 hk1 hS => ?_)
              replace h := hw
              obtain ⟨hP1, hD1⟩ := hB
              rw [ht] at hP1
              replace hD : va_D A (wd_X2 a ca u) := hD1.weaken (fun _ _ _ h9 => hFc _ h9)
              replace hP : va_P (dC, dI) vwCl (wd_X2 a ca u) H1 := hP1
              generalize H1 = H at hP hS ⊢
              refine lv_if_eq (tgt := 100) hx hb dX2_fact_93 (by decide) (fun hc_16 => ?_) (fun hc_16 => ?_)
              · replace h := h.1 hc_16
                refine lv_iconst (v := 0) hx hb dX2_fact_100 (by decide) ?_
                subst hQ
                exact W.iret (v := 0) hx hb hr (fun t ht hW => ⟨⟨_, (), rfl, h, by rw [ht]; exact hP, hD⟩, hS.F ht⟩) hS.2.2 dX2_fact_101
              · replace h := h.2 hc_16
                refine lv_iconst (v := 1) hx hb dX2_fact_96 (by decide) ?_
                refine lv_goto (tgt := 101) hx hb dX2_fact_97 (by decide) ?_
                subst hQ
                exact W.iret (v := 1) hx hb hr (fun t ht hW => ⟨⟨_, (), rfl, h, by rw [ht]; exact hP, hD⟩, hS.F ht⟩) hS.2.2 dX2_fact_101
