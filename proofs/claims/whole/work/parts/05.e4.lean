abbrev rm_X8_least : Room := { frames := 4, cells := 0, slots := 0, locals := 95 }
set_option maxHeartbeats 4000000 in
set_option maxRecDepth 100000 in
theorem c_X8_least (l : Launch) (dC : Nat → ClassId) (dI : Nat → Nat → Nat) (a : Nat → Nat) (ca : Nat → ClassId) (sz : Nat) (u : Ob) (post : Int32 → Ob → Prop) (h : wp_X8_least u post) : Met l yX8_least wsX8_least rm_X8_least (va_Pc [.ref (a 0)] (fun U => U.heap.size = sz ∧ va_P (dC, dI) vwCl (wd_X8 a ca u) U.heap ∧ va_K (dC, dI) vwCl (ty_X8 ca) U ∧ va_D (fun _ => True) (wd_X8 a ca u))) (va_Qi post (fun (zz : Ob) (t : State) => va_P (dC, dI) vwCl (wd_X8 a ca zz) t.heap ∧ va_D (va_A (wd_X8 a ca u) sz) (wd_X8 a ca zz)) (va_A (wd_X8 a ca u) sz)) 0 0 (va_A (wd_X8 a ca u) sz) := by
  refine fl_ofW (cc := cX8_least) (maxL := 3) (ret := (some .int)) (by decide) rfl ?_
  intro p e s m args below meth c s₁ Q B hml hv hQ
  obtain ⟨hargs, hsz, hP, hK, hD0⟩ := hv
  have hx := B.exec
  have hb := B.bytes
  have hr := B.returns
  have hts := atoms_spec (ws := wsX8_least) B.pre
  have hown : s.vm.findClass RX8 = some m.cls := findClass_of_methodNamed B.named
  subst hsz
  have hD := hD0.self (sz := s.heap.size)
  generalize hAe : va_A (wd_X8 a ca u) s.heap.size = A at hD hQ
  have hA : ∀ q : Nat, s.heap.size ≤ q → A q := fun q h => by rw [← hAe]; exact Or.inr h
  have hS : va_S A s.heap s.heap [] := va_S.rf
  have hl := lv_entry ([.ref (a 0)]) (n := 3) (Nat.le_of_ble_eq_true rfl)
  refine W.eq (g2 := F0 m 0 ((lg_sl ([.ref (a 0)]) ++ List.replicate (3 - (lg_sl ([.ref (a 0)])).length) Slot.unset).toArray) []) (by rw [hargs]; exact lg_entry_eq m _ 3) ?_
  generalize (lg_sl ([.ref (a 0)]) ++ List.replicate (3 - (lg_sl ([.ref (a 0)])).length) Slot.unset).toArray = ls at hl ⊢
  have hl : lv_has ls 3 [(0, .ref (a 0))] := hl
  suffices hstart : ∀ (H : Heap) (locs : List Loc) (ls : Array Slot), va_P (dC, dI) vwCl (wd_X8 a ca u) H → va_D A (wd_X8 a ca u) → va_S A s.heap H locs → lv_has ls 3 [(0, .ref (a 0))] → W p l e (headSpec wsX8_least rm_X8_least).room s m args below meth c H locs 0 0 Q (F0 m 0 ls []) from hstart _ _ _ hP hD hS hl
  clear hS hP hD hD0
  intro H locs ls hP hD hS hl
  have hin_X8 : ∀ w ∈ wsX80, w ∈ wsX8_least := by decide +kernel
  have lk_0 := hts (.fieldLink RX8 143 "ForgettingLinesModel" "many" "I") (by decide +kernel)
  unfold wp_X8_least at h
  refine lv_aload_n hx hb dX8_least_0 rfl (lv_at hl 0 rfl) ?_
  have hPc := hP
  have hDc := hD
  have hKc := hK
  have hFc := va_free (wc := (wd_X8 a ca u)) hD hS hA [0, 1, 2, 3, 4, 5, 6, 7, 8, 9, 10, 11, 12, 13, 14, 15, 16, 17, 18, 19] rfl
  refine va_calli (va_runV (As := []) (rest := []) ⟨hx, hb, hml, hown, hts⟩ (c_X8_search l dC dI a ca H.size u _ h) (cwV 0 hts gX8_least_X8_search rfl rfl rfl (by decide +kernel) ⟨Nat.le_of_ble_eq_true rfl, Nat.le_of_ble_eq_true rfl⟩) ⟨fun a U g mk q => by obtain ⟨q0, q1, qP, qK, qD⟩ := q; exact ⟨q0, q1, qP, va_K.moved (u := U) (U := U.calling g mk a) (Vm.Alike.refl U.vm) qK, qD⟩, va_recv hKc hPc (ci := 7) (q0 := 0) rfl rfl, fun U hU hW => ⟨rfl, by rw [hU], by rw [hU]; exact hPc, va_K.moved hW.alike hKc, hDc.weaken (fun _ _ _ _ => trivial)⟩⟩ rfl rfl hl.1 rfl (lv_room (Nat.le_of_ble_eq_true rfl)) dX8_least_1 ⟨Nat.zero_le _, Nat.zero_le _⟩) hS (fun q _ h => hFc q h) hFc (fun r_1 zz t H1 locs ht hvm hw hB hz1 hk1 hS => ?_)
  obtain ⟨u_2, rfl⟩ : ∃ z, z = zz := ⟨_, rfl⟩
  replace h := hw
  obtain ⟨hP1, hD1⟩ := hB
  rw [ht] at hP1
  replace hD : va_D A (wd_X8 a ca u_2) := hD1.weaken (fun _ _ _ h9 => hFc _ h9)
  replace hP : va_P (dC, dI) vwCl (wd_X8 a ca u_2) H1 := hP1
  generalize H1 = H at hP hS ⊢
  refine lv_if_ne (tgt := 10) hx hb dX8_least_4 (by decide) (fun hc_3 => ?_) (fun hc_3 => ?_)
  · replace h := h.1 hc_3
    refine lv_iconst (v := 0) hx hb dX8_least_10 (by decide) ?_
    refine lv_istore_n (lv' := [(1, .int 0), (0, .ref (a 0))]) hx hb dX8_least_11 rfl hl (by decide) rfl (fun ls hl => ?_)
    refine lv_iconst (v := 0) hx hb dX8_least_12 (by decide) ?_
    refine lv_istore_n (lv' := [(2, .int 0), (1, .int 0), (0, .ref (a 0))]) hx hb dX8_least_13 rfl hl (by decide) rfl (fun ls hl => ?_)
    obtain ⟨n_12, h⟩ := h
    refine lq2_ind (GG := (fun (v2_5 : Int32) (v1_6 : Int32) => ∀ (H : Heap) (locs : List Loc) (ls : Array Slot), va_P (dC, dI) vwCl (wd_X8 a ca u_2) H → va_D A (wd_X8 a ca u_2) → va_S A s.heap H locs → lv_has ls 3 [(2, .int v2_5), (1, .int v1_6), (0, .ref (a 0))] → W p l e (headSpec wsX8_least rm_X8_least).room s m args below meth c H locs 0 0 Q (F0 m 14 ls []))) (fun LL_4 ih_LL_4 v2_5 v1_6 h H locs ls hP hD hS hl => ?_) n_12 _ _ h _ _ _ hP hD hS (lv_sub hl [0, 1, 2] rfl)
    refine lv_iload_n hx hb dX8_least_14 rfl (lv_at hl 0 rfl) ?_
    refine lv_aload_n hx hb dX8_least_15 rfl (lv_at hl 2 rfl) ?_
    refine va_get (D := (dC, dI)) (ci := 7) (v := .int (u_2.1 16)) (C := RX8) (T := TX8) (N := 25) hx hb hts hin_X8 hown hK hP 0 rfl rfl 16 (by decide) lk_0 (fun _ h9 => h9) rfl dX8_least_16 ?_
    refine lv_icmp_ge (tgt := 44) hx hb dX8_least_19 (by decide) (fun hc_7 => ?_) (fun hc_7 => ?_)
    · replace h := h.1 hc_7
      refine lv_iload_n hx hb dX8_least_44 rfl (lv_at hl 1 rfl) ?_
      subst hQ
      exact W.iret (v := v1_6) hx hb hr (fun t ht hW => ⟨⟨_, u_2, rfl, h, by rw [ht]; exact hP, hD⟩, hS.F ht⟩) hS.2.2 dX8_least_45
    · replace h := h.2 hc_7
      refine lv_iload_n hx hb dX8_least_22 rfl (lv_at hl 1 rfl) ?_
      refine lv_aload_n hx hb dX8_least_23 rfl (lv_at hl 2 rfl) ?_
      refine lv_iload_n hx hb dX8_least_24 rfl (lv_at hl 0 rfl) ?_
      have hPc := hP
      have hDc := hD
      have hKc := hK
      have hFc := va_free (wc := (wd_X8 a ca u_2)) hD hS hA [0, 1, 2, 3, 4, 5, 6, 7, 8, 9, 10, 11, 12, 13, 14, 15, 16, 17, 18, 19] rfl
      refine va_calli (va_runV (As := [.int v2_5]) (rest := [.int v1_6]) ⟨hx, hb, hml, hown, hts⟩ (c_X8_isLeast l dC dI a ca H.size u_2 v2_5 _ h) (cwV 1 hts gX8_least_X8_isLeast rfl rfl rfl (by decide +kernel) ⟨Nat.le_of_ble_eq_true rfl, Nat.le_of_ble_eq_true rfl⟩) ⟨fun a U g mk q => by obtain ⟨q0, q1, qP, qK, qD⟩ := q; exact ⟨q0, q1, qP, va_K.moved (u := U) (U := U.calling g mk a) (Vm.Alike.refl U.vm) qK, qD⟩, va_recv hKc hPc (ci := 7) (q0 := 0) rfl rfl, fun U hU hW => ⟨rfl, by rw [hU], by rw [hU]; exact hPc, va_K.moved hW.alike hKc, hDc.weaken (fun _ _ _ _ => trivial)⟩⟩ rfl rfl hl.1 rfl (lv_room (Nat.le_of_ble_eq_true rfl)) dX8_least_25 ⟨Nat.zero_le _, Nat.zero_le _⟩) hS (fun q _ h => hFc q h) hFc (fun r_8 zz t H1 locs ht hvm hw hB hz1 hk1 hS => ?_)
      replace h := hw
      obtain ⟨hP1, hD1⟩ := hB
      rw [ht] at hP1
      replace hD : va_D A (wd_X8 a ca u_2) := hD1.weaken (fun _ _ _ h9 => hFc _ h9)
      replace hP : va_P (dC, dI) vwCl (wd_X8 a ca u_2) H1 := hP1
      generalize H1 = H at hP hS ⊢
      refine jn1_ind (GG := (fun (w_10 : Int32) => ∀ (H : Heap) (locs : List Loc) (ls : Array Slot), va_P (dC, dI) vwCl (wd_X8 a ca u_2) H → va_D A (wd_X8 a ca u_2) → va_S A s.heap H locs → lv_has ls 3 [(2, .int v2_5), (0, .ref (a 0))] → W p l e (headSpec wsX8_least rm_X8_least).room s m args below meth c H locs 0 0 Q (F0 m 36 ls [.int w_10, .int v1_6]))) h (fun w_10 h H locs ls hP hD hS hl => ?_) (fun JJ_9 ih_JJ_9 h => ?_)
      · refine lv_iadd hx hb dX8_least_36 ?_
        refine lv_istore_n (lv' := [(1, .int (v1_6 + w_10)), (2, .int v2_5), (0, .ref (a 0))]) hx hb dX8_least_37 rfl hl (by decide) rfl (fun ls hl => ?_)
        refine lv_iinc (v := (v2_5 + 1)) (lv' := [(2, .int (v2_5 + 1)), (1, .int (v1_6 + w_10)), (0, .ref (a 0))]) hx hb dX8_least_38 hl (k := 1) rfl rfl (by decide) rfl (fun ls hl => ?_)
        refine lv_goto (tgt := 14) hx hb dX8_least_41 (by decide) ?_
        exact ih_LL_4 _ _ h _ _ _ hP hD hS (lv_sub hl [0, 1, 2] rfl)
      · refine lv_if_eq (tgt := 35) hx hb dX8_least_28 (by decide) (fun hc_11 => ?_) (fun hc_11 => ?_)
        · replace h := h.1 hc_11
          refine lv_iconst (v := 0) hx hb dX8_least_35 (by decide) ?_
          exact ih_JJ_9 _ h _ _ _ hP hD hS (lv_sub hl [0, 2] rfl)
        · replace h := h.2 hc_11
          refine lv_iconst (v := 1) hx hb dX8_least_31 (by decide) ?_
          refine lv_goto (tgt := 36) hx hb dX8_least_32 (by decide) ?_
          exact ih_JJ_9 _ h _ _ _ hP hD hS (lv_sub hl [0, 2] rfl)
  · replace h := h.2 hc_3
    refine lv_bipush (v := (-3)) hx hb dX8_least_7 (by decide) ?_
    subst hQ
    exact W.iret (v := (-3)) hx hb hr (fun t ht hW => ⟨⟨_, u_2, rfl, h, by rw [ht]; exact hP, hD⟩, hS.F ht⟩) hS.2.2 dX8_least_9
abbrev rm_X8_nearest : Room := { frames := 2, cells := 0, slots := 0, locals := 48 }
set_option maxHeartbeats 4000000 in
set_option maxRecDepth 100000 in
theorem c_X8_nearest (l : Launch) (dC : Nat → ClassId) (dI : Nat → Nat → Nat) (a : Nat → Nat) (ca : Nat → ClassId) (sz : Nat) (u : Ob) (post : Int32 → Prop) (h : wp_X8_nearest u post) : Met l yX8_nearest wsX8_nearest rm_X8_nearest (va_Pc [.ref (a 0)] (fun U => U.heap.size = sz ∧ va_P (dC, dI) vwCl (wd_X8 a ca u) U.heap ∧ va_K (dC, dI) vwCl (ty_X8 ca) U ∧ va_D (fun _ => True) (wd_X8 a ca u))) (va_Qi (fun (rr : Int32) (_ : Unit) => post rr) (fun (zz : Unit) (t : State) => va_P (dC, dI) vwCl (wd_X8 a ca u) t.heap ∧ va_D (va_A (wd_X8 a ca u) sz) (wd_X8 a ca u)) (va_A (wd_X8 a ca u) sz)) 0 0 (va_A (wd_X8 a ca u) sz) := by
  refine fl_ofW (cc := cX8_nearest) (maxL := 2) (ret := (some .int)) (by decide) rfl ?_
  intro p e s m args below meth c s₁ Q B hml hv hQ
  obtain ⟨hargs, hsz, hP, hK, hD0⟩ := hv
  have hx := B.exec
  have hb := B.bytes
  have hr := B.returns
  have hts := atoms_spec (ws := wsX8_nearest) B.pre
  have hown : s.vm.findClass RX8 = some m.cls := findClass_of_methodNamed B.named
  subst hsz
  have hD := hD0.self (sz := s.heap.size)
  generalize hAe : va_A (wd_X8 a ca u) s.heap.size = A at hD hQ
  have hA : ∀ q : Nat, s.heap.size ≤ q → A q := fun q h => by rw [← hAe]; exact Or.inr h
  have hS : va_S A s.heap s.heap [] := va_S.rf
  have hl := lv_entry ([.ref (a 0)]) (n := 2) (Nat.le_of_ble_eq_true rfl)
  refine W.eq (g2 := F0 m 0 ((lg_sl ([.ref (a 0)]) ++ List.replicate (2 - (lg_sl ([.ref (a 0)])).length) Slot.unset).toArray) []) (by rw [hargs]; exact lg_entry_eq m _ 2) ?_
  generalize (lg_sl ([.ref (a 0)]) ++ List.replicate (2 - (lg_sl ([.ref (a 0)])).length) Slot.unset).toArray = ls at hl ⊢
  have hl : lv_has ls 2 [(0, .ref (a 0))] := hl
  suffices hstart : ∀ (H : Heap) (locs : List Loc) (ls : Array Slot), va_P (dC, dI) vwCl (wd_X8 a ca u) H → va_D A (wd_X8 a ca u) → va_S A s.heap H locs → lv_has ls 2 [(0, .ref (a 0))] → W p l e (headSpec wsX8_nearest rm_X8_nearest).room s m args below meth c H locs 0 0 Q (F0 m 0 ls []) from hstart _ _ _ hP hD hS hl
  clear hS hP hD hD0
  intro H locs ls hP hD hS hl
  have hin_X8 : ∀ w ∈ wsX80, w ∈ wsX8_nearest := by decide +kernel
  have lk_0 := hts (.fieldLink RX8 143 "ForgettingLinesModel" "many" "I") (by decide +kernel)
  unfold wp_X8_nearest at h
  refine lv_iconst (v := 0) hx hb dX8_nearest_0 (by decide) ?_
  refine lv_istore_n (lv' := [(1, .int 0), (0, .ref (a 0))]) hx hb dX8_nearest_1 rfl hl (by decide) rfl (fun ls hl => ?_)
  obtain ⟨n_6, h⟩ := h
  refine lq1_ind (GG := (fun (v1_2 : Int32) => ∀ (H : Heap) (locs : List Loc) (ls : Array Slot), va_P (dC, dI) vwCl (wd_X8 a ca u) H → va_D A (wd_X8 a ca u) → va_S A s.heap H locs → lv_has ls 2 [(1, .int v1_2), (0, .ref (a 0))] → W p l e (headSpec wsX8_nearest rm_X8_nearest).room s m args below meth c H locs 0 0 Q (F0 m 2 ls []))) (fun LL_1 ih_LL_1 v1_2 h H locs ls hP hD hS hl => ?_) n_6 _ h _ _ _ hP hD hS (lv_sub hl [0, 1] rfl)
  refine lv_iload_n hx hb dX8_nearest_2 rfl (lv_at hl 0 rfl) ?_
  refine lv_aload_n hx hb dX8_nearest_3 rfl (lv_at hl 1 rfl) ?_
  refine va_get (D := (dC, dI)) (ci := 7) (v := .int (u.1 16)) (C := RX8) (T := TX8) (N := 25) hx hb hts hin_X8 hown hK hP 0 rfl rfl 16 (by decide) lk_0 (fun _ h9 => h9) rfl dX8_nearest_4 ?_
  refine lv_icmp_ge (tgt := 28) hx hb dX8_nearest_7 (by decide) (fun hc_3 => ?_) (fun hc_3 => ?_)
  · replace h := h.1 hc_3
    refine lv_iconst (v := (-1)) hx hb dX8_nearest_28 (by decide) ?_
    subst hQ
    exact W.iret (v := (-1)) hx hb hr (fun t ht hW => ⟨⟨_, (), rfl, h, by rw [ht]; exact hP, hD⟩, hS.F ht⟩) hS.2.2 dX8_nearest_29
  · replace h := h.2 hc_3
    refine lv_aload_n hx hb dX8_nearest_10 rfl (lv_at hl 1 rfl) ?_
    refine lv_iload_n hx hb dX8_nearest_11 rfl (lv_at hl 0 rfl) ?_
    refine lv_bipush (v := 82) hx hb dX8_nearest_12 (by decide) ?_
    have hPc := hP
    have hDc := hD
    have hKc := hK
    have hFc := va_free (wc := (wd_X8 a ca u)) hD hS hA [0, 1, 2, 3, 4, 5, 6, 7, 8, 9, 10, 11, 12, 13, 14, 15, 16, 17, 18, 19] rfl
    refine va_calli (va_runV (As := [.int v1_2, .int 82]) (rest := []) ⟨hx, hb, hml, hown, hts⟩ (c_X8_isBelow l dC dI a ca H.size u v1_2 82 _ h) (cwV 2 hts gX8_nearest_X8_isBelow rfl rfl rfl (by decide +kernel) ⟨Nat.le_of_ble_eq_true rfl, Nat.le_of_ble_eq_true rfl⟩) ⟨fun a U g mk q => by obtain ⟨q0, q1, qP, qK, qD⟩ := q; exact ⟨q0, q1, qP, va_K.moved (u := U) (U := U.calling g mk a) (Vm.Alike.refl U.vm) qK, qD⟩, va_recv hKc hPc (ci := 7) (q0 := 0) rfl rfl, fun U hU hW => ⟨rfl, by rw [hU], by rw [hU]; exact hPc, va_K.moved hW.alike hKc, hDc.weaken (fun _ _ _ _ => trivial)⟩⟩ rfl rfl hl.1 rfl (lv_room (Nat.le_of_ble_eq_true rfl)) dX8_nearest_14 ⟨Nat.zero_le _, Nat.zero_le _⟩) hS (fun q _ h => hFc q h) hFc (fun r_4 zz t H1 locs ht hvm hw hB hz1 hk1 hS => ?_)
    replace h := hw
    obtain ⟨hP1, hD1⟩ := hB
    rw [ht] at hP1
    replace hD : va_D A (wd_X8 a ca u) := hD1.weaken (fun _ _ _ h9 => hFc _ h9)
    replace hP : va_P (dC, dI) vwCl (wd_X8 a ca u) H1 := hP1
    generalize H1 = H at hP hS ⊢
    refine lv_if_eq (tgt := 22) hx hb dX8_nearest_17 (by decide) (fun hc_5 => ?_) (fun hc_5 => ?_)
    · replace h := h.1 hc_5
      refine lv_iinc (v := (v1_2 + 1)) (lv' := [(1, .int (v1_2 + 1)), (0, .ref (a 0))]) hx hb dX8_nearest_22 hl (k := 0) rfl rfl (by decide) rfl (fun ls hl => ?_)
      refine lv_goto (tgt := 2) hx hb dX8_nearest_25 (by decide) ?_
      exact ih_LL_1 _ h _ _ _ hP hD hS (lv_sub hl [0, 1] rfl)
    · replace h := h.2 hc_5
      refine lv_iload_n hx hb dX8_nearest_20 rfl (lv_at hl 0 rfl) ?_
      subst hQ
      exact W.iret (v := v1_2) hx hb hr (fun t ht hW => ⟨⟨_, (), rfl, h, by rw [ht]; exact hP, hD⟩, hS.F ht⟩) hS.2.2 dX8_nearest_21
abbrev rm_X8_far : Room := { frames := 4, cells := 0, slots := 0, locals := 95 }
set_option maxHeartbeats 4000000 in
set_option maxRecDepth 100000 in
theorem c_X8_far (l : Launch) (dC : Nat → ClassId) (dI : Nat → Nat → Nat) (a : Nat → Nat) (ca : Nat → ClassId) (sz : Nat) (u : Ob) (post : Int32 → Ob → Prop) (h : wp_X8_far u post) : Met l yX8_far wsX8_far rm_X8_far (va_Pc [.ref (a 0)] (fun U => U.heap.size = sz ∧ va_P (dC, dI) vwCl (wd_X8 a ca u) U.heap ∧ va_K (dC, dI) vwCl (ty_X8 ca) U ∧ va_D (fun _ => True) (wd_X8 a ca u))) (va_Qi post (fun (zz : Ob) (t : State) => va_P (dC, dI) vwCl (wd_X8 a ca zz) t.heap ∧ va_D (va_A (wd_X8 a ca u) sz) (wd_X8 a ca zz)) (va_A (wd_X8 a ca u) sz)) 0 0 (va_A (wd_X8 a ca u) sz) := by
  refine fl_ofW (cc := cX8_far) (maxL := 2) (ret := (some .int)) (by decide) rfl ?_
  intro p e s m args below meth c s₁ Q B hml hv hQ
  obtain ⟨hargs, hsz, hP, hK, hD0⟩ := hv
  have hx := B.exec
  have hb := B.bytes
  have hr := B.returns
  have hts := atoms_spec (ws := wsX8_far) B.pre
  have hown : s.vm.findClass RX8 = some m.cls := findClass_of_methodNamed B.named
  subst hsz
  have hD := hD0.self (sz := s.heap.size)
  generalize hAe : va_A (wd_X8 a ca u) s.heap.size = A at hD hQ
  have hA : ∀ q : Nat, s.heap.size ≤ q → A q := fun q h => by rw [← hAe]; exact Or.inr h
  have hS : va_S A s.heap s.heap [] := va_S.rf
  have hl := lv_entry ([.ref (a 0)]) (n := 2) (Nat.le_of_ble_eq_true rfl)
  refine W.eq (g2 := F0 m 0 ((lg_sl ([.ref (a 0)]) ++ List.replicate (2 - (lg_sl ([.ref (a 0)])).length) Slot.unset).toArray) []) (by rw [hargs]; exact lg_entry_eq m _ 2) ?_
  generalize (lg_sl ([.ref (a 0)]) ++ List.replicate (2 - (lg_sl ([.ref (a 0)])).length) Slot.unset).toArray = ls at hl ⊢
  have hl : lv_has ls 2 [(0, .ref (a 0))] := hl
  suffices hstart : ∀ (H : Heap) (locs : List Loc) (ls : Array Slot), va_P (dC, dI) vwCl (wd_X8 a ca u) H → va_D A (wd_X8 a ca u) → va_S A s.heap H locs → lv_has ls 2 [(0, .ref (a 0))] → W p l e (headSpec wsX8_far rm_X8_far).room s m args below meth c H locs 0 0 Q (F0 m 0 ls []) from hstart _ _ _ hP hD hS hl
  clear hS hP hD hD0
  intro H locs ls hP hD hS hl
  have hin_X8 : ∀ w ∈ wsX80, w ∈ wsX8_far := by decide +kernel
  have lk_0 := hts (.fieldLink RX8 48 "ForgettingLinesModel" "rounds" "[I") (by decide +kernel)
  unfold wp_X8_far at h
  refine lv_aload_n hx hb dX8_far_0 rfl (lv_at hl 0 rfl) ?_
  have hPc := hP
  have hDc := hD
  have hKc := hK
  have hFc := va_free (wc := (wd_X8 a ca u)) hD hS hA [0, 1, 2, 3, 4, 5, 6, 7, 8, 9, 10, 11, 12, 13, 14, 15, 16, 17, 18, 19] rfl
  refine va_calli (va_runV (As := []) (rest := []) ⟨hx, hb, hml, hown, hts⟩ (c_X8_search l dC dI a ca H.size u _ h) (cwV 0 hts gX8_far_X8_search rfl rfl rfl (by decide +kernel) ⟨Nat.le_of_ble_eq_true rfl, Nat.le_of_ble_eq_true rfl⟩) ⟨fun a U g mk q => by obtain ⟨q0, q1, qP, qK, qD⟩ := q; exact ⟨q0, q1, qP, va_K.moved (u := U) (U := U.calling g mk a) (Vm.Alike.refl U.vm) qK, qD⟩, va_recv hKc hPc (ci := 7) (q0 := 0) rfl rfl, fun U hU hW => ⟨rfl, by rw [hU], by rw [hU]; exact hPc, va_K.moved hW.alike hKc, hDc.weaken (fun _ _ _ _ => trivial)⟩⟩ rfl rfl hl.1 rfl (lv_room (Nat.le_of_ble_eq_true rfl)) dX8_far_1 ⟨Nat.zero_le _, Nat.zero_le _⟩) hS (fun q _ h => hFc q h) hFc (fun r_1 zz t H1 locs ht hvm hw hB hz1 hk1 hS => ?_)
  obtain ⟨u_2, rfl⟩ : ∃ z, z = zz := ⟨_, rfl⟩
  replace h := hw
  obtain ⟨hP1, hD1⟩ := hB
  rw [ht] at hP1
  replace hD : va_D A (wd_X8 a ca u_2) := hD1.weaken (fun _ _ _ h9 => hFc _ h9)
  replace hP : va_P (dC, dI) vwCl (wd_X8 a ca u_2) H1 := hP1
  generalize H1 = H at hP hS ⊢
  refine lv_if_ne (tgt := 10) hx hb dX8_far_4 (by decide) (fun hc_3 => ?_) (fun hc_3 => ?_)
  · replace h := h.1 hc_3
    refine lv_aload_n hx hb dX8_far_10 rfl (lv_at hl 0 rfl) ?_
    have hPc := hP
    have hDc := hD
    have hKc := hK
    have hFc := va_free (wc := (wd_X8 a ca u_2)) hD hS hA [0, 1, 2, 3, 4, 5, 6, 7, 8, 9, 10, 11, 12, 13, 14, 15, 16, 17, 18, 19] rfl
    refine va_calli (va_runV (As := []) (rest := []) ⟨hx, hb, hml, hown, hts⟩ (c_X8_nearest l dC dI a ca H.size u_2 _ h) (cwV 0 hts gX8_far_X8_nearest rfl rfl rfl (by decide +kernel) ⟨Nat.le_of_ble_eq_true rfl, Nat.le_of_ble_eq_true rfl⟩) ⟨fun a U g mk q => by obtain ⟨q0, q1, qP, qK, qD⟩ := q; exact ⟨q0, q1, qP, va_K.moved (u := U) (U := U.calling g mk a) (Vm.Alike.refl U.vm) qK, qD⟩, va_recv hKc hPc (ci := 7) (q0 := 0) rfl rfl, fun U hU hW => ⟨rfl, by rw [hU], by rw [hU]; exact hPc, va_K.moved hW.alike hKc, hDc.weaken (fun _ _ _ _ => trivial)⟩⟩ rfl rfl hl.1 rfl (lv_room (Nat.le_of_ble_eq_true rfl)) dX8_far_11 ⟨Nat.zero_le _, Nat.zero_le _⟩) hS (fun q _ h => hFc q h) hFc (fun r_4 zz t H1 locs ht hvm hw hB hz1 hk1 hS => ?_)
    replace h := hw
    obtain ⟨hP1, hD1⟩ := hB
    rw [ht] at hP1
    replace hD : va_D A (wd_X8 a ca u_2) := hD1.weaken (fun _ _ _ h9 => hFc _ h9)
    replace hP : va_P (dC, dI) vwCl (wd_X8 a ca u_2) H1 := hP1
    generalize H1 = H at hP hS ⊢
    refine lv_istore_n (lv' := [(1, .int r_4), (0, .ref (a 0))]) hx hb dX8_far_14 rfl hl (by decide) rfl (fun ls hl => ?_)
    refine lv_iload_n hx hb dX8_far_15 rfl (lv_at hl 0 rfl) ?_
    refine lv_if_ge (tgt := 24) hx hb dX8_far_16 (by decide) (fun hc_5 => ?_) (fun hc_5 => ?_)
    · replace h := h.1 hc_5
      refine lv_aload_n hx hb dX8_far_24 rfl (lv_at hl 1 rfl) ?_
      refine va_get (D := (dC, dI)) (ci := 7) (v := .ref (a 18)) (C := RX8) (T := TX8) (N := 25) hx hb hts hin_X8 hown hK hP 0 rfl rfl 17 (by decide) lk_0 (fun _ h9 => h9) rfl dX8_far_25 ?_
      refine lv_iload_n hx hb dX8_far_28 rfl (lv_at hl 0 rfl) ?_
      obtain ⟨hi_6, h⟩ := h
      refine va_iald (D := (dC, dI)) (cl := vwCl) (i := r_4) hx hb hK hP 12 11 rfl rfl hi_6 dX8_far_29 ?_
      subst hQ
      exact W.iret (v := (u_2.2.1 17 r_4.toNatClampNeg)) hx hb hr (fun t ht hW => ⟨⟨_, u_2, rfl, h, by rw [ht]; exact hP, hD⟩, hS.F ht⟩) hS.2.2 dX8_far_30
    · replace h := h.2 hc_5
      refine lv_bipush (v := (-4)) hx hb dX8_far_19 (by decide) ?_
      refine lv_goto (tgt := 30) hx hb dX8_far_21 (by decide) ?_
      subst hQ
      exact W.iret (v := (-4)) hx hb hr (fun t ht hW => ⟨⟨_, u_2, rfl, h, by rw [ht]; exact hP, hD⟩, hS.F ht⟩) hS.2.2 dX8_far_30
  · replace h := h.2 hc_3
    refine lv_bipush (v := (-3)) hx hb dX8_far_7 (by decide) ?_
    subst hQ
    exact W.iret (v := (-3)) hx hb hr (fun t ht hW => ⟨⟨_, u_2, rfl, h, by rw [ht]; exact hP, hD⟩, hS.F ht⟩) hS.2.2 dX8_far_9
abbrev rm_X8_way : Room := { frames := 4, cells := 0, slots := 0, locals := 95 }
set_option maxHeartbeats 4000000 in
set_option maxRecDepth 100000 in
theorem c_X8_way (l : Launch) (dC : Nat → ClassId) (dI : Nat → Nat → Nat) (a : Nat → Nat) (ca : Nat → ClassId) (sz : Nat) (u : Ob) (x1 : Int32) (post : Int32 → Ob → Prop) (h : wp_X8_way u x1 post) : Met l yX8_way wsX8_way rm_X8_way (va_Pc [.ref (a 0), .int x1] (fun U => U.heap.size = sz ∧ va_P (dC, dI) vwCl (wd_X8 a ca u) U.heap ∧ va_K (dC, dI) vwCl (ty_X8 ca) U ∧ va_D (fun _ => True) (wd_X8 a ca u))) (va_Qi post (fun (zz : Ob) (t : State) => va_P (dC, dI) vwCl (wd_X8 a ca zz) t.heap ∧ va_D (va_A (wd_X8 a ca u) sz) (wd_X8 a ca zz)) (va_A (wd_X8 a ca u) sz)) 0 0 (va_A (wd_X8 a ca u) sz) := by
  refine fl_ofW (cc := cX8_way) (maxL := 4) (ret := (some .int)) (by decide) rfl ?_
  intro p e s m args below meth c s₁ Q B hml hv hQ
  obtain ⟨hargs, hsz, hP, hK, hD0⟩ := hv
  have hx := B.exec
  have hb := B.bytes
  have hr := B.returns
  have hts := atoms_spec (ws := wsX8_way) B.pre
  have hown : s.vm.findClass RX8 = some m.cls := findClass_of_methodNamed B.named
  subst hsz
  have hD := hD0.self (sz := s.heap.size)
  generalize hAe : va_A (wd_X8 a ca u) s.heap.size = A at hD hQ
  have hA : ∀ q : Nat, s.heap.size ≤ q → A q := fun q h => by rw [← hAe]; exact Or.inr h
  have hS : va_S A s.heap s.heap [] := va_S.rf
  have hl := lv_entry ([.ref (a 0), .int x1]) (n := 4) (Nat.le_of_ble_eq_true rfl)
  refine W.eq (g2 := F0 m 0 ((lg_sl ([.ref (a 0), .int x1]) ++ List.replicate (4 - (lg_sl ([.ref (a 0), .int x1])).length) Slot.unset).toArray) []) (by rw [hargs]; exact lg_entry_eq m _ 4) ?_
  generalize (lg_sl ([.ref (a 0), .int x1]) ++ List.replicate (4 - (lg_sl ([.ref (a 0), .int x1])).length) Slot.unset).toArray = ls at hl ⊢
  have hl : lv_has ls 4 [(0, .ref (a 0)), (1, .int x1)] := hl
  suffices hstart : ∀ (H : Heap) (locs : List Loc) (ls : Array Slot), va_P (dC, dI) vwCl (wd_X8 a ca u) H → va_D A (wd_X8 a ca u) → va_S A s.heap H locs → lv_has ls 4 [(0, .ref (a 0)), (1, .int x1)] → W p l e (headSpec wsX8_way rm_X8_way).room s m args below meth c H locs 0 0 Q (F0 m 0 ls []) from hstart _ _ _ hP hD hS hl
  clear hS hP hD hD0
  intro H locs ls hP hD hS hl
  have hin_X8 : ∀ w ∈ wsX80, w ∈ wsX8_way := by decide +kernel
  have lk_0 := hts (.fieldLink RX8 48 "ForgettingLinesModel" "rounds" "[I") (by decide +kernel)
  have lk_1 := hts (.fieldLink RX8 51 "ForgettingLinesModel" "byArc" "[I") (by decide +kernel)
  have lk_2 := hts (.fieldLink RX8 54 "ForgettingLinesModel" "aheadOf" "[I") (by decide +kernel)
  unfold wp_X8_way at h
  refine lv_iload_n hx hb dX8_way_0 rfl (lv_at hl 1 rfl) ?_
  refine lv_if_ge (tgt := 6) hx hb dX8_way_1 (by decide) (fun hc_1 => ?_) (fun hc_1 => ?_)
  · replace h := h.1 hc_1
    refine lv_aload_n hx hb dX8_way_6 rfl (lv_at hl 0 rfl) ?_
    have hPc := hP
    have hDc := hD
    have hKc := hK
    have hFc := va_free (wc := (wd_X8 a ca u)) hD hS hA [0, 1, 2, 3, 4, 5, 6, 7, 8, 9, 10, 11, 12, 13, 14, 15, 16, 17, 18, 19] rfl
    refine va_calli (va_runV (As := []) (rest := []) ⟨hx, hb, hml, hown, hts⟩ (c_X8_search l dC dI a ca H.size u _ h) (cwV 0 hts gX8_way_X8_search rfl rfl rfl (by decide +kernel) ⟨Nat.le_of_ble_eq_true rfl, Nat.le_of_ble_eq_true rfl⟩) ⟨fun a U g mk q => by obtain ⟨q0, q1, qP, qK, qD⟩ := q; exact ⟨q0, q1, qP, va_K.moved (u := U) (U := U.calling g mk a) (Vm.Alike.refl U.vm) qK, qD⟩, va_recv hKc hPc (ci := 7) (q0 := 0) rfl rfl, fun U hU hW => ⟨rfl, by rw [hU], by rw [hU]; exact hPc, va_K.moved hW.alike hKc, hDc.weaken (fun _ _ _ _ => trivial)⟩⟩ rfl rfl hl.1 rfl (lv_room (Nat.le_of_ble_eq_true rfl)) dX8_way_7 ⟨Nat.zero_le _, Nat.zero_le _⟩) hS (fun q _ h => hFc q h) hFc (fun r_2 zz t H1 locs ht hvm hw hB hz1 hk1 hS => ?_)
    obtain ⟨u_3, rfl⟩ : ∃ z, z = zz := ⟨_, rfl⟩
    replace h := hw
    obtain ⟨hP1, hD1⟩ := hB
    rw [ht] at hP1
    replace hD : va_D A (wd_X8 a ca u_3) := hD1.weaken (fun _ _ _ h9 => hFc _ h9)
    replace hP : va_P (dC, dI) vwCl (wd_X8 a ca u_3) H1 := hP1
    generalize H1 = H at hP hS ⊢
    refine lv_if_ne (tgt := 16) hx hb dX8_way_10 (by decide) (fun hc_4 => ?_) (fun hc_4 => ?_)
    · replace h := h.1 hc_4
      refine lv_aload_n hx hb dX8_way_16 rfl (lv_at hl 0 rfl) ?_
      have hPc := hP
      have hDc := hD
      have hKc := hK
      have hFc := va_free (wc := (wd_X8 a ca u_3)) hD hS hA [0, 1, 2, 3, 4, 5, 6, 7, 8, 9, 10, 11, 12, 13, 14, 15, 16, 17, 18, 19] rfl
      refine va_calli (va_runV (As := []) (rest := []) ⟨hx, hb, hml, hown, hts⟩ (c_X8_nearest l dC dI a ca H.size u_3 _ h) (cwV 0 hts gX8_way_X8_nearest rfl rfl rfl (by decide +kernel) ⟨Nat.le_of_ble_eq_true rfl, Nat.le_of_ble_eq_true rfl⟩) ⟨fun a U g mk q => by obtain ⟨q0, q1, qP, qK, qD⟩ := q; exact ⟨q0, q1, qP, va_K.moved (u := U) (U := U.calling g mk a) (Vm.Alike.refl U.vm) qK, qD⟩, va_recv hKc hPc (ci := 7) (q0 := 0) rfl rfl, fun U hU hW => ⟨rfl, by rw [hU], by rw [hU]; exact hPc, va_K.moved hW.alike hKc, hDc.weaken (fun _ _ _ _ => trivial)⟩⟩ rfl rfl hl.1 rfl (lv_room (Nat.le_of_ble_eq_true rfl)) dX8_way_17 ⟨Nat.zero_le _, Nat.zero_le _⟩) hS (fun q _ h => hFc q h) hFc (fun r_5 zz t H1 locs ht hvm hw hB hz1 hk1 hS => ?_)
      replace h := hw
      obtain ⟨hP1, hD1⟩ := hB
      rw [ht] at hP1
      replace hD : va_D A (wd_X8 a ca u_3) := hD1.weaken (fun _ _ _ h9 => hFc _ h9)
      replace hP : va_P (dC, dI) vwCl (wd_X8 a ca u_3) H1 := hP1
      generalize H1 = H at hP hS ⊢
      refine lv_istore_n (lv' := [(2, .int r_5), (0, .ref (a 0)), (1, .int x1)]) hx hb dX8_way_20 rfl hl (by decide) rfl (fun ls hl => ?_)
      refine lv_iload_n hx hb dX8_way_21 rfl (lv_at hl 0 rfl) ?_
      refine lv_if_ge (tgt := 28) hx hb dX8_way_22 (by decide) (fun hc_6 => ?_) (fun hc_6 => ?_)
      · replace h := h.1 hc_6
        refine lv_iload_n hx hb dX8_way_28 rfl (lv_at hl 2 rfl) ?_
        refine lv_aload_n hx hb dX8_way_29 rfl (lv_at hl 1 rfl) ?_
        refine va_get (D := (dC, dI)) (ci := 7) (v := .ref (a 18)) (C := RX8) (T := TX8) (N := 25) hx hb hts hin_X8 hown hK hP 0 rfl rfl 17 (by decide) lk_0 (fun _ h9 => h9) rfl dX8_way_30 ?_
        refine lv_iload_n hx hb dX8_way_33 rfl (lv_at hl 0 rfl) ?_
        obtain ⟨hi_7, h⟩ := h
        refine va_iald (D := (dC, dI)) (cl := vwCl) (i := r_5) hx hb hK hP 12 11 rfl rfl hi_7 dX8_way_34 ?_
        refine lv_icmp_lt (tgt := 40) hx hb dX8_way_35 (by decide) (fun hc_8 => ?_) (fun hc_8 => ?_)
        · replace h := h.1 hc_8
          refine lv_iconst (v := 0) hx hb dX8_way_40 (by decide) ?_
          refine lv_istore_n (lv' := [(3, .int 0), (2, .int r_5), (0, .ref (a 0)), (1, .int x1)]) hx hb dX8_way_41 rfl hl (by decide) rfl (fun ls hl => ?_)
          obtain ⟨n_15, h⟩ := h
          refine lq2_ind (GG := (fun (v3_10 : Int32) (v2_11 : Int32) => ∀ (H : Heap) (locs : List Loc) (ls : Array Slot), va_P (dC, dI) vwCl (wd_X8 a ca u_3) H → va_D A (wd_X8 a ca u_3) → va_S A s.heap H locs → lv_has ls 4 [(3, .int v3_10), (2, .int v2_11), (0, .ref (a 0)), (1, .int x1)] → W p l e (headSpec wsX8_way rm_X8_way).room s m args below meth c H locs 0 0 Q (F0 m 42 ls []))) (fun LL_9 ih_LL_9 v3_10 v2_11 h H locs ls hP hD hS hl => ?_) n_15 _ _ h _ _ _ hP hD hS (lv_sub hl [0, 1, 2, 3] rfl)
          refine lv_iload_n hx hb dX8_way_42 rfl (lv_at hl 0 rfl) ?_
          refine lv_iload_n hx hb dX8_way_43 rfl (lv_at hl 3 rfl) ?_
          refine lv_icmp_ge (tgt := 60) hx hb dX8_way_44 (by decide) (fun hc_12 => ?_) (fun hc_12 => ?_)
          · replace h := h.1 hc_12
            refine lv_aload_n hx hb dX8_way_60 rfl (lv_at hl 2 rfl) ?_
            refine va_get (D := (dC, dI)) (ci := 7) (v := .ref (a 19)) (C := RX8) (T := TX8) (N := 25) hx hb hts hin_X8 hown hK hP 0 rfl rfl 18 (by decide) lk_1 (fun _ h9 => h9) rfl dX8_way_61 ?_
            refine lv_iload_n hx hb dX8_way_64 rfl (lv_at hl 1 rfl) ?_
            obtain ⟨hi_13, h⟩ := h
            refine va_iald (D := (dC, dI)) (cl := vwCl) (i := v2_11) hx hb hK hP 13 12 rfl rfl hi_13 dX8_way_65 ?_
            subst hQ
            exact W.iret (v := (u_3.2.1 18 v2_11.toNatClampNeg)) hx hb hr (fun t ht hW => ⟨⟨_, u_3, rfl, h, by rw [ht]; exact hP, hD⟩, hS.F ht⟩) hS.2.2 dX8_way_66
          · replace h := h.2 hc_12
            refine lv_aload_n hx hb dX8_way_47 rfl (lv_at hl 2 rfl) ?_
            refine va_get (D := (dC, dI)) (ci := 7) (v := .ref (a 20)) (C := RX8) (T := TX8) (N := 25) hx hb hts hin_X8 hown hK hP 0 rfl rfl 19 (by decide) lk_2 (fun _ h9 => h9) rfl dX8_way_48 ?_
            refine lv_iload_n hx hb dX8_way_51 rfl (lv_at hl 1 rfl) ?_
            obtain ⟨hi_14, h⟩ := h
            refine va_iald (D := (dC, dI)) (cl := vwCl) (i := v2_11) hx hb hK hP 14 13 rfl rfl hi_14 dX8_way_52 ?_
            refine lv_istore_n (lv' := [(2, .int (u_3.2.1 19 v2_11.toNatClampNeg)), (3, .int v3_10), (0, .ref (a 0)), (1, .int x1)]) hx hb dX8_way_53 rfl hl (by decide) rfl (fun ls hl => ?_)
            refine lv_iinc (v := (v3_10 + 1)) (lv' := [(3, .int (v3_10 + 1)), (2, .int (u_3.2.1 19 v2_11.toNatClampNeg)), (0, .ref (a 0)), (1, .int x1)]) hx hb dX8_way_54 hl (k := 1) rfl rfl (by decide) rfl (fun ls hl => ?_)
            refine lv_goto (tgt := 42) hx hb dX8_way_57 (by decide) ?_
            exact ih_LL_9 _ _ h _ _ _ hP hD hS (lv_sub hl [0, 1, 2, 3] rfl)
        · replace h := h.2 hc_8
          refine lv_iconst (v := (-1)) hx hb dX8_way_38 (by decide) ?_
          subst hQ
          exact W.iret (v := (-1)) hx hb hr (fun t ht hW => ⟨⟨_, u_3, rfl, h, by rw [ht]; exact hP, hD⟩, hS.F ht⟩) hS.2.2 dX8_way_39
      · replace h := h.2 hc_6
        refine lv_bipush (v := (-4)) hx hb dX8_way_25 (by decide) ?_
        subst hQ
        exact W.iret (v := (-4)) hx hb hr (fun t ht hW => ⟨⟨_, u_3, rfl, h, by rw [ht]; exact hP, hD⟩, hS.F ht⟩) hS.2.2 dX8_way_27
    · replace h := h.2 hc_4
      refine lv_bipush (v := (-3)) hx hb dX8_way_13 (by decide) ?_
      subst hQ
      exact W.iret (v := (-3)) hx hb hr (fun t ht hW => ⟨⟨_, u_3, rfl, h, by rw [ht]; exact hP, hD⟩, hS.F ht⟩) hS.2.2 dX8_way_15
  · replace h := h.2 hc_1
    refine lv_iconst (v := (-1)) hx hb dX8_way_4 (by decide) ?_
    subst hQ
    exact W.iret (v := (-1)) hx hb hr (fun t ht hW => ⟨⟨_, u, rfl, h, by rw [ht]; exact hP, hD⟩, hS.F ht⟩) hS.2.2 dX8_way_5
abbrev rm_X8_codeOf : Room := { frames := 1, cells := 0, slots := 0, locals := 22 }
set_option maxHeartbeats 4000000 in
set_option maxRecDepth 100000 in
theorem c_X8_codeOf (l : Launch) (dC : Nat → ClassId) (dI : Nat → Nat → Nat) (a : Nat → Nat) (ca : Nat → ClassId) (sz : Nat) (u : Ob) (x1 : Int32) (x2 : Int32) (post : Int32 → Prop) (h : wp_X8_codeOf u x1 x2 post) : Met l yX8_codeOf wsX8_codeOf rm_X8_codeOf (va_Pc [.ref (a 0), .int x1, .int x2] (fun U => U.heap.size = sz ∧ va_P (dC, dI) vwCl (wd_X8 a ca u) U.heap ∧ va_K (dC, dI) vwCl (ty_X8 ca) U ∧ va_D (fun _ => True) (wd_X8 a ca u))) (va_Qi (fun (rr : Int32) (_ : Unit) => post rr) (fun (zz : Unit) (t : State) => va_P (dC, dI) vwCl (wd_X8 a ca u) t.heap ∧ va_D (va_A (wd_X8 a ca u) sz) (wd_X8 a ca u)) (va_A (wd_X8 a ca u) sz)) 0 0 (va_A (wd_X8 a ca u) sz) := by
  refine fl_ofW (cc := cX8_codeOf) (maxL := 5) (ret := (some .int)) (by decide) rfl ?_
  intro p e s m args below meth c s₁ Q B hml hv hQ
  obtain ⟨hargs, hsz, hP, hK, hD0⟩ := hv
  have hx := B.exec
  have hb := B.bytes
  have hr := B.returns
  have hts := atoms_spec (ws := wsX8_codeOf) B.pre
  have hown : s.vm.findClass RX8 = some m.cls := findClass_of_methodNamed B.named
  subst hsz
  have hD := hD0.self (sz := s.heap.size)
  generalize hAe : va_A (wd_X8 a ca u) s.heap.size = A at hD hQ
  have hA : ∀ q : Nat, s.heap.size ≤ q → A q := fun q h => by rw [← hAe]; exact Or.inr h
  have hS : va_S A s.heap s.heap [] := va_S.rf
  have hl := lv_entry ([.ref (a 0), .int x1, .int x2]) (n := 5) (Nat.le_of_ble_eq_true rfl)
  refine W.eq (g2 := F0 m 0 ((lg_sl ([.ref (a 0), .int x1, .int x2]) ++ List.replicate (5 - (lg_sl ([.ref (a 0), .int x1, .int x2])).length) Slot.unset).toArray) []) (by rw [hargs]; exact lg_entry_eq m _ 5) ?_
  generalize (lg_sl ([.ref (a 0), .int x1, .int x2]) ++ List.replicate (5 - (lg_sl ([.ref (a 0), .int x1, .int x2])).length) Slot.unset).toArray = ls at hl ⊢
  have hl : lv_has ls 5 [(0, .ref (a 0)), (1, .int x1), (2, .int x2)] := hl
  suffices hstart : ∀ (H : Heap) (locs : List Loc) (ls : Array Slot), va_P (dC, dI) vwCl (wd_X8 a ca u) H → va_D A (wd_X8 a ca u) → va_S A s.heap H locs → lv_has ls 5 [(0, .ref (a 0)), (1, .int x1), (2, .int x2)] → W p l e (headSpec wsX8_codeOf rm_X8_codeOf).room s m args below meth c H locs 0 0 Q (F0 m 0 ls []) from hstart _ _ _ hP hD hS hl
  clear hS hP hD hD0
  intro H locs ls hP hD hS hl
  have hin_X8 : ∀ w ∈ wsX80, w ∈ wsX8_codeOf := by decide +kernel
  have lk_0 := hts (.fieldLink RX8 42 "ForgettingLinesModel" "sizes" "[I") (by decide +kernel)
  have lk_1 := hts (.fieldLink RX8 45 "ForgettingLinesModel" "words" "[I") (by decide +kernel)
  unfold wp_X8_codeOf at h
  refine lv_iconst (v := 0) hx hb dX8_codeOf_0 (by decide) ?_
  refine lv_istore_n (lv' := [(3, .int 0), (0, .ref (a 0)), (1, .int x1), (2, .int x2)]) hx hb dX8_codeOf_1 rfl hl (by decide) rfl (fun ls hl => ?_)
  refine lv_aload_n hx hb dX8_codeOf_2 rfl (lv_at hl 1 rfl) ?_
  refine va_get (D := (dC, dI)) (ci := 7) (v := .ref (a 15)) (C := RX8) (T := TX8) (N := 25) hx hb hts hin_X8 hown hK hP 0 rfl rfl 14 (by decide) lk_0 (fun _ h9 => h9) rfl dX8_codeOf_3 ?_
  refine lv_iconst (v := 2) hx hb dX8_codeOf_6 (by decide) ?_
  refine lv_iload_n hx hb dX8_codeOf_7 rfl (lv_at hl 2 rfl) ?_
  refine lv_imul hx hb dX8_codeOf_8 ?_
  refine lv_iload_n hx hb dX8_codeOf_9 rfl (lv_at hl 3 rfl) ?_
  refine lv_iadd hx hb dX8_codeOf_10 ?_
  obtain ⟨hi_1, h⟩ := h
  refine va_iald (D := (dC, dI)) (cl := vwCl) (i := ((2 * x1) + x2)) hx hb hK hP 10 9 rfl rfl hi_1 dX8_codeOf_11 ?_
  refine lv_iconst (v := 1) hx hb dX8_codeOf_12 (by decide) ?_
  refine lv_isub hx hb dX8_codeOf_13 ?_
  refine lv_istore (lv' := [(4, .int ((u.2.1 14 ((2 * x1) + x2).toNatClampNeg) - 1)), (3, .int 0), (0, .ref (a 0)), (1, .int x1), (2, .int x2)]) hx hb dX8_codeOf_14 hl (by decide) rfl (fun ls hl => ?_)
  obtain ⟨n_8, h⟩ := h
  refine lq2_ind (GG := (fun (v4_3 : Int32) (v3_4 : Int32) => ∀ (H : Heap) (locs : List Loc) (ls : Array Slot), va_P (dC, dI) vwCl (wd_X8 a ca u) H → va_D A (wd_X8 a ca u) → va_S A s.heap H locs → lv_has ls 5 [(4, .int v4_3), (3, .int v3_4), (0, .ref (a 0)), (1, .int x1), (2, .int x2)] → W p l e (headSpec wsX8_codeOf rm_X8_codeOf).room s m args below meth c H locs 0 0 Q (F0 m 16 ls []))) (fun LL_2 ih_LL_2 v4_3 v3_4 h H locs ls hP hD hS hl => ?_) n_8 _ _ h _ _ _ hP hD hS (lv_sub hl [0, 1, 2, 3, 4] rfl)
  refine lv_iload hx hb dX8_codeOf_16 (lv_at hl 0 rfl) ?_
  refine lv_if_lt (tgt := 46) hx hb dX8_codeOf_18 (by decide) (fun hc_5 => ?_) (fun hc_5 => ?_)
  · replace h := h.1 hc_5
    refine lv_iload_n hx hb dX8_codeOf_46 rfl (lv_at hl 1 rfl) ?_
    subst hQ
    exact W.iret (v := v3_4) hx hb hr (fun t ht hW => ⟨⟨_, (), rfl, h, by rw [ht]; exact hP, hD⟩, hS.F ht⟩) hS.2.2 dX8_codeOf_47
  · replace h := h.2 hc_5
    refine lv_iconst (v := 4) hx hb dX8_codeOf_21 (by decide) ?_
    refine lv_iload_n hx hb dX8_codeOf_22 rfl (lv_at hl 1 rfl) ?_
    refine lv_imul hx hb dX8_codeOf_23 ?_
    refine lv_aload_n hx hb dX8_codeOf_24 rfl (lv_at hl 2 rfl) ?_
    refine va_get (D := (dC, dI)) (ci := 7) (v := .ref (a 16)) (C := RX8) (T := TX8) (N := 25) hx hb hts hin_X8 hown hK hP 0 rfl rfl 15 (by decide) lk_1 (fun _ h9 => h9) rfl dX8_codeOf_25 ?_
    refine lv_iload_n hx hb dX8_codeOf_28 rfl (lv_at hl 3 rfl) ?_
    refine lv_iload_n hx hb dX8_codeOf_29 rfl (lv_at hl 4 rfl) ?_
    refine lv_iload hx hb dX8_codeOf_30 (lv_at hl 0 rfl) ?_
    have hFc := fl_freeN hS hA
    refine va_calli (va_runS (As := [.int x1, .int x2, .int v4_3]) (rest := [.ref (a 16), .int (4 * v3_4)]) ⟨hx, hb, hml, hown, hts⟩ (c_X8_spot l H.size x1 x2 v4_3 _ h) (va_cwS 3 hts gX8_codeOf_X8_spot rfl rfl rfl (by decide +kernel) ⟨Nat.le_of_ble_eq_true rfl, Nat.le_of_ble_eq_true rfl⟩) ⟨fun a U g mk q => by obtain ⟨q0, q1⟩ := q; exact ⟨q0, q1⟩, fun U hU hW => ⟨rfl, congrArg Array.size hU⟩⟩ rfl rfl hl.1 rfl (lv_room (Nat.le_of_ble_eq_true rfl)) dX8_codeOf_32 ⟨Nat.zero_le _, Nat.zero_le _⟩) hS (fun q _ h => hFc q h) hFc (fun r_6 zz t H1 locs ht hvm hw hB hz1 hk1 hS => ?_)
    replace hP := fl_keep hP hk1
    replace h := hw
    generalize H1 = H at hP hS ⊢
    obtain ⟨hi_7, h⟩ := h
    refine va_iald (D := (dC, dI)) (cl := vwCl) (i := r_6) hx hb hK hP 11 10 rfl rfl hi_7 dX8_codeOf_35 ?_
    refine lv_iadd hx hb dX8_codeOf_36 ?_
    refine lv_iconst (v := 1) hx hb dX8_codeOf_37 (by decide) ?_
    refine lv_iadd hx hb dX8_codeOf_38 ?_
    refine lv_istore_n (lv' := [(3, .int (((4 * v3_4) + (u.2.1 15 r_6.toNatClampNeg)) + 1)), (4, .int v4_3), (0, .ref (a 0)), (1, .int x1), (2, .int x2)]) hx hb dX8_codeOf_39 rfl hl (by decide) rfl (fun ls hl => ?_)
    refine lv_iinc (v := (v4_3 + (-1))) (lv' := [(4, .int (v4_3 + (-1))), (3, .int (((4 * v3_4) + (u.2.1 15 r_6.toNatClampNeg)) + 1)), (0, .ref (a 0)), (1, .int x1), (2, .int x2)]) hx hb dX8_codeOf_40 hl (k := 1) rfl rfl (by decide) rfl (fun ls hl => ?_)
    refine lv_goto (tgt := 16) hx hb dX8_codeOf_43 (by decide) ?_
    exact ih_LL_2 _ _ h _ _ _ hP hD hS (lv_sub hl [0, 1, 2, 3, 4] rfl)
abbrev rm_X8_decode : Room := { frames := 1, cells := 0, slots := 0, locals := 22 }
set_option maxHeartbeats 4000000 in
set_option maxRecDepth 100000 in
theorem c_X8_decode (l : Launch) (dC : Nat → ClassId) (dI : Nat → Nat → Nat) (a : Nat → Nat) (ca : Nat → ClassId) (sz : Nat) (u : Ob) (x1 : Int32) (x2 : Int32) (x3 : Int32) (post : Ob → Prop) (h : wp_X8_decode u x1 x2 x3 post) : Met l yX8_decode wsX8_decode rm_X8_decode (va_Pc [.ref (a 0), .int x1, .int x2, .int x3] (fun U => U.heap.size = sz ∧ va_P (dC, dI) vwCl (wd_X8 a ca u) U.heap ∧ va_K (dC, dI) vwCl (ty_X8 ca) U ∧ va_D (fun _ => True) (wd_X8 a ca u))) (va_Qv post (fun (zz : Ob) (t : State) => va_P (dC, dI) vwCl (wd_X8 a ca zz) t.heap ∧ va_D (va_A (wd_X8 a ca u) sz) (wd_X8 a ca zz)) (va_A (wd_X8 a ca u) sz)) 0 0 (va_A (wd_X8 a ca u) sz) := by
  refine fl_ofW (cc := cX8_decode) (maxL := 5) (ret := none) (by decide) rfl ?_
  intro p e s m args below meth c s₁ Q B hml hv hQ
  obtain ⟨hargs, hsz, hP, hK, hD0⟩ := hv
  have hx := B.exec
  have hb := B.bytes
  have hr := B.returns
  have hts := atoms_spec (ws := wsX8_decode) B.pre
  have hown : s.vm.findClass RX8 = some m.cls := findClass_of_methodNamed B.named
  subst hsz
  have hD := hD0.self (sz := s.heap.size)
  generalize hAe : va_A (wd_X8 a ca u) s.heap.size = A at hD hQ
  have hA : ∀ q : Nat, s.heap.size ≤ q → A q := fun q h => by rw [← hAe]; exact Or.inr h
  have hS : va_S A s.heap s.heap [] := va_S.rf
  have hl := lv_entry ([.ref (a 0), .int x1, .int x2, .int x3]) (n := 5) (Nat.le_of_ble_eq_true rfl)
  refine W.eq (g2 := F0 m 0 ((lg_sl ([.ref (a 0), .int x1, .int x2, .int x3]) ++ List.replicate (5 - (lg_sl ([.ref (a 0), .int x1, .int x2, .int x3])).length) Slot.unset).toArray) []) (by rw [hargs]; exact lg_entry_eq m _ 5) ?_
  generalize (lg_sl ([.ref (a 0), .int x1, .int x2, .int x3]) ++ List.replicate (5 - (lg_sl ([.ref (a 0), .int x1, .int x2, .int x3])).length) Slot.unset).toArray = ls at hl ⊢
  have hl : lv_has ls 5 [(0, .ref (a 0)), (1, .int x1), (2, .int x2), (3, .int x3)] := hl
  suffices hstart : ∀ (H : Heap) (locs : List Loc) (ls : Array Slot), va_P (dC, dI) vwCl (wd_X8 a ca u) H → va_D A (wd_X8 a ca u) → va_S A s.heap H locs → lv_has ls 5 [(0, .ref (a 0)), (1, .int x1), (2, .int x2), (3, .int x3)] → W p l e (headSpec wsX8_decode rm_X8_decode).room s m args below meth c H locs 0 0 Q (F0 m 0 ls []) from hstart _ _ _ hP hD hS hl
  clear hS hP hD hD0
  intro H locs ls hP hD hS hl
  have hin_X8 : ∀ w ∈ wsX80, w ∈ wsX8_decode := by decide +kernel
  have lk_0 := hts (.fieldLink RX8 42 "ForgettingLinesModel" "sizes" "[I") (by decide +kernel)
  have lk_1 := hts (.fieldLink RX8 45 "ForgettingLinesModel" "words" "[I") (by decide +kernel)
  unfold wp_X8_decode at h
  refine lv_iload_n hx hb dX8_decode_0 rfl (lv_at hl 1 rfl) ?_
  refine lv_istore (lv' := [(4, .int x1), (0, .ref (a 0)), (1, .int x1), (2, .int x2), (3, .int x3)]) hx hb dX8_decode_1 hl (by decide) rfl (fun ls hl => ?_)
  refine lv_aload_n hx hb dX8_decode_3 rfl (lv_at hl 1 rfl) ?_
  refine va_get (D := (dC, dI)) (ci := 7) (v := .ref (a 15)) (C := RX8) (T := TX8) (N := 25) hx hb hts hin_X8 hown hK hP 0 rfl rfl 14 (by decide) lk_0 (fun _ h9 => h9) rfl dX8_decode_4 ?_
  refine lv_iconst (v := 2) hx hb dX8_decode_7 (by decide) ?_
  refine lv_iload_n hx hb dX8_decode_8 rfl (lv_at hl 3 rfl) ?_
  refine lv_imul hx hb dX8_decode_9 ?_
  refine lv_iload_n hx hb dX8_decode_10 rfl (lv_at hl 4 rfl) ?_
  refine lv_iadd hx hb dX8_decode_11 ?_
  refine lv_iconst (v := 0) hx hb dX8_decode_12 (by decide) ?_
  obtain ⟨hi_1, h⟩ := h
  refine va_iast (D := (dC, dI)) (cl := vwCl) (i := ((2 * x2) + x3)) hx hb hK hP hD hS 10 9 rfl rfl hi_1 dX8_decode_13 (fun H locs hP hD hS => ?_)
  obtain ⟨u_2, eu_2⟩ : ∃ z : Ob, z = fs_a u 14 (upd (u.2.1 14) ((2 * x2) + x3).toNatClampNeg 0) := ⟨_, rfl⟩
  replace h := h u_2 eu_2
  replace hP : va_P (dC, dI) vwCl (wd_X8 a ca u_2) H := by rw [eu_2]; exact hP
  replace hD : va_D A (wd_X8 a ca u_2) := by rw [eu_2]; exact hD
  obtain ⟨n_14, h⟩ := h
  refine lq2_ind (GG := (fun (v4_4 : Int32) (u_5 : Ob) => ∀ (H : Heap) (locs : List Loc) (ls : Array Slot), va_P (dC, dI) vwCl (wd_X8 a ca u_5) H → va_D A (wd_X8 a ca u_5) → va_S A s.heap H locs → lv_has ls 5 [(4, .int v4_4), (0, .ref (a 0)), (2, .int x2), (3, .int x3)] → W p l e (headSpec wsX8_decode rm_X8_decode).room s m args below meth c H locs 0 0 Q (F0 m 14 ls []))) (fun LL_3 ih_LL_3 v4_4 u_5 h H locs ls hP hD hS hl => ?_) n_14 _ _ h _ _ _ hP hD hS (lv_sub hl [0, 1, 3, 4] rfl)
  refine lv_iload hx hb dX8_decode_14 (lv_at hl 0 rfl) ?_
  refine lv_if_le (tgt := 68) hx hb dX8_decode_16 (by decide) (fun hc_6 => ?_) (fun hc_6 => ?_)
  · replace h := h.1 hc_6
    subst hQ
    exact W.vret hx hb hr (fun t ht hW => ⟨⟨u_5, rfl, h, by rw [ht]; exact hP, hD⟩, hS.F ht⟩) hS.2.2 dX8_decode_68
  · replace h := h.2 hc_6
    refine lv_aload_n hx hb dX8_decode_19 rfl (lv_at hl 1 rfl) ?_
    refine va_get (D := (dC, dI)) (ci := 7) (v := .ref (a 16)) (C := RX8) (T := TX8) (N := 25) hx hb hts hin_X8 hown hK hP 0 rfl rfl 15 (by decide) lk_1 (fun _ h9 => h9) rfl dX8_decode_20 ?_
    refine lv_iload_n hx hb dX8_decode_23 rfl (lv_at hl 2 rfl) ?_
    refine lv_iload_n hx hb dX8_decode_24 rfl (lv_at hl 3 rfl) ?_
    refine lv_aload_n hx hb dX8_decode_25 rfl (lv_at hl 1 rfl) ?_
    refine va_get (D := (dC, dI)) (ci := 7) (v := .ref (a 15)) (C := RX8) (T := TX8) (N := 25) hx hb hts hin_X8 hown hK hP 0 rfl rfl 14 (by decide) lk_0 (fun _ h9 => h9) rfl dX8_decode_26 ?_
    refine lv_iconst (v := 2) hx hb dX8_decode_29 (by decide) ?_
    refine lv_iload_n hx hb dX8_decode_30 rfl (lv_at hl 2 rfl) ?_
    refine lv_imul hx hb dX8_decode_31 ?_
    refine lv_iload_n hx hb dX8_decode_32 rfl (lv_at hl 3 rfl) ?_
    refine lv_iadd hx hb dX8_decode_33 ?_
    obtain ⟨hi_7, h⟩ := h
    refine va_iald (D := (dC, dI)) (cl := vwCl) (i := ((2 * x2) + x3)) hx hb hK hP 10 9 rfl rfl hi_7 dX8_decode_34 ?_
    have hFc := fl_freeN hS hA
    refine va_calli (va_runS (As := [.int x2, .int x3, .int (u_5.2.1 14 ((2 * x2) + x3).toNatClampNeg)]) (rest := [.ref (a 16)]) ⟨hx, hb, hml, hown, hts⟩ (c_X8_spot l H.size x2 x3 (u_5.2.1 14 ((2 * x2) + x3).toNatClampNeg) _ h) (va_cwS 3 hts gX8_decode_X8_spot rfl rfl rfl (by decide +kernel) ⟨Nat.le_of_ble_eq_true rfl, Nat.le_of_ble_eq_true rfl⟩) ⟨fun a U g mk q => by obtain ⟨q0, q1⟩ := q; exact ⟨q0, q1⟩, fun U hU hW => ⟨rfl, congrArg Array.size hU⟩⟩ rfl rfl hl.1 rfl (lv_room (Nat.le_of_ble_eq_true rfl)) dX8_decode_35 ⟨Nat.zero_le _, Nat.zero_le _⟩) hS (fun q _ h => hFc q h) hFc (fun r_8 zz t H1 locs ht hvm hw hB hz1 hk1 hS => ?_)
    replace hP := fl_keep hP hk1
    replace h := hw
    generalize H1 = H at hP hS ⊢
    refine lv_iload hx hb dX8_decode_38 (lv_at hl 0 rfl) ?_
    refine lv_iconst (v := 4) hx hb dX8_decode_40 (by decide) ?_
    refine lv_irem hx hb dX8_decode_41 (by decide) ?_
    refine W.eq (g2 := F0 m 42 ls [.int (j_rem v4_4 4), .int r_8, .ref (a 16)]) rfl ?_
    refine lv_iconst (v := 1) hx hb dX8_decode_42 (by decide) ?_
    refine lv_isub hx hb dX8_decode_43 ?_
    obtain ⟨hi_9, h⟩ := h
    refine va_iast (D := (dC, dI)) (cl := vwCl) (i := r_8) hx hb hK hP hD hS 11 10 rfl rfl hi_9 dX8_decode_44 (fun H locs hP hD hS => ?_)
    obtain ⟨u_10, eu_10⟩ : ∃ z : Ob, z = fs_a u_5 15 (upd (u_5.2.1 15) r_8.toNatClampNeg ((j_rem v4_4 4) - 1)) := ⟨_, rfl⟩
    replace h := h u_10 eu_10
    replace hP : va_P (dC, dI) vwCl (wd_X8 a ca u_10) H := by rw [eu_10]; exact hP
    replace hD : va_D A (wd_X8 a ca u_10) := by rw [eu_10]; exact hD
    refine lv_aload_n hx hb dX8_decode_45 rfl (lv_at hl 1 rfl) ?_
    refine va_get (D := (dC, dI)) (ci := 7) (v := .ref (a 15)) (C := RX8) (T := TX8) (N := 25) hx hb hts hin_X8 hown hK hP 0 rfl rfl 14 (by decide) lk_0 (fun _ h9 => h9) rfl dX8_decode_46 ?_
    refine lv_iconst (v := 2) hx hb dX8_decode_49 (by decide) ?_
    refine lv_iload_n hx hb dX8_decode_50 rfl (lv_at hl 2 rfl) ?_
    refine lv_imul hx hb dX8_decode_51 ?_
    refine lv_iload_n hx hb dX8_decode_52 rfl (lv_at hl 3 rfl) ?_
    refine lv_iadd hx hb dX8_decode_53 ?_
    refine lv_dup2_11 hx hb dX8_decode_54 rfl rfl ?_
    obtain ⟨hi_11, h⟩ := h
    refine va_iald (D := (dC, dI)) (cl := vwCl) (i := ((2 * x2) + x3)) hx hb hK hP 10 9 rfl rfl hi_11 dX8_decode_55 ?_
    refine lv_iconst (v := 1) hx hb dX8_decode_56 (by decide) ?_
    refine lv_iadd hx hb dX8_decode_57 ?_
    obtain ⟨hi_12, h⟩ := h
    refine va_iast (D := (dC, dI)) (cl := vwCl) (i := ((2 * x2) + x3)) hx hb hK hP hD hS 10 9 rfl rfl hi_12 dX8_decode_58 (fun H locs hP hD hS => ?_)
    obtain ⟨u_13, eu_13⟩ : ∃ z : Ob, z = fs_a u_10 14 (upd (u_10.2.1 14) ((2 * x2) + x3).toNatClampNeg ((u_10.2.1 14 ((2 * x2) + x3).toNatClampNeg) + 1)) := ⟨_, rfl⟩
    replace h := h u_13 eu_13
    replace hP : va_P (dC, dI) vwCl (wd_X8 a ca u_13) H := by rw [eu_13]; exact hP
    replace hD : va_D A (wd_X8 a ca u_13) := by rw [eu_13]; exact hD
    refine lv_iload hx hb dX8_decode_59 (lv_at hl 0 rfl) ?_
    refine lv_iconst (v := 4) hx hb dX8_decode_61 (by decide) ?_
    refine lv_idiv hx hb dX8_decode_62 (by decide) ?_
    refine lv_istore (lv' := [(4, .int (v4_4 / 4)), (0, .ref (a 0)), (2, .int x2), (3, .int x3)]) hx hb dX8_decode_63 hl (by decide) rfl (fun ls hl => ?_)
    refine lv_goto (tgt := 14) hx hb dX8_decode_65 (by decide) ?_
    exact ih_LL_3 _ _ h _ _ _ hP hD hS (lv_sub hl [0, 1, 2, 3] rfl)
abbrev rm_X8_wholeCode : Room := { frames := 2, cells := 0, slots := 0, locals := 46 }
set_option maxHeartbeats 4000000 in
set_option maxRecDepth 100000 in
theorem c_X8_wholeCode (l : Launch) (dC : Nat → ClassId) (dI : Nat → Nat → Nat) (a : Nat → Nat) (ca : Nat → ClassId) (sz : Nat) (u : Ob) (x1 : Int32) (post : Int32 → Prop) (h : wp_X8_wholeCode u x1 post) : Met l yX8_wholeCode wsX8_wholeCode rm_X8_wholeCode (va_Pc [.ref (a 0), .int x1] (fun U => U.heap.size = sz ∧ va_P (dC, dI) vwCl (wd_X8 a ca u) U.heap ∧ va_K (dC, dI) vwCl (ty_X8 ca) U ∧ va_D (fun _ => True) (wd_X8 a ca u))) (va_Qi (fun (rr : Int32) (_ : Unit) => post rr) (fun (zz : Unit) (t : State) => va_P (dC, dI) vwCl (wd_X8 a ca u) t.heap ∧ va_D (va_A (wd_X8 a ca u) sz) (wd_X8 a ca u)) (va_A (wd_X8 a ca u) sz)) 0 0 (va_A (wd_X8 a ca u) sz) := by
  refine fl_ofW (cc := cX8_wholeCode) (maxL := 2) (ret := (some .int)) (by decide) rfl ?_
  intro p e s m args below meth c s₁ Q B hml hv hQ
  obtain ⟨hargs, hsz, hP, hK, hD0⟩ := hv
  have hx := B.exec
  have hb := B.bytes
  have hr := B.returns
  have hts := atoms_spec (ws := wsX8_wholeCode) B.pre
  have hown : s.vm.findClass RX8 = some m.cls := findClass_of_methodNamed B.named
  subst hsz
  have hD := hD0.self (sz := s.heap.size)
  generalize hAe : va_A (wd_X8 a ca u) s.heap.size = A at hD hQ
  have hA : ∀ q : Nat, s.heap.size ≤ q → A q := fun q h => by rw [← hAe]; exact Or.inr h
  have hS : va_S A s.heap s.heap [] := va_S.rf
  have hl := lv_entry ([.ref (a 0), .int x1]) (n := 2) (Nat.le_of_ble_eq_true rfl)
  refine W.eq (g2 := F0 m 0 ((lg_sl ([.ref (a 0), .int x1]) ++ List.replicate (2 - (lg_sl ([.ref (a 0), .int x1])).length) Slot.unset).toArray) []) (by rw [hargs]; exact lg_entry_eq m _ 2) ?_
  generalize (lg_sl ([.ref (a 0), .int x1]) ++ List.replicate (2 - (lg_sl ([.ref (a 0), .int x1])).length) Slot.unset).toArray = ls at hl ⊢
  have hl : lv_has ls 2 [(0, .ref (a 0)), (1, .int x1)] := hl
  suffices hstart : ∀ (H : Heap) (locs : List Loc) (ls : Array Slot), va_P (dC, dI) vwCl (wd_X8 a ca u) H → va_D A (wd_X8 a ca u) → va_S A s.heap H locs → lv_has ls 2 [(0, .ref (a 0)), (1, .int x1)] → W p l e (headSpec wsX8_wholeCode rm_X8_wholeCode).room s m args below meth c H locs 0 0 Q (F0 m 0 ls []) from hstart _ _ _ hP hD hS hl
  clear hS hP hD hD0
  intro H locs ls hP hD hS hl
  have hin_X8 : ∀ w ∈ wsX80, w ∈ wsX8_wholeCode := by decide +kernel
  have lk_0 := hts (.fieldLink RX8 39 "ForgettingLinesModel" "stateOf" "[I") (by decide +kernel)
  unfold wp_X8_wholeCode at h
  refine lv_sipush (v := 4096) hx hb dX8_wholeCode_0 (by decide) ?_
  refine lv_aload_n hx hb dX8_wholeCode_3 rfl (lv_at hl 0 rfl) ?_
  refine va_get (D := (dC, dI)) (ci := 7) (v := .ref (a 14)) (C := RX8) (T := TX8) (N := 25) hx hb hts hin_X8 hown hK hP 0 rfl rfl 13 (by decide) lk_0 (fun _ h9 => h9) rfl dX8_wholeCode_4 ?_
  refine lv_iload_n hx hb dX8_wholeCode_7 rfl (lv_at hl 1 rfl) ?_
  obtain ⟨hi_1, h⟩ := h
  refine va_iald (D := (dC, dI)) (cl := vwCl) (i := x1) hx hb hK hP 9 8 rfl rfl hi_1 dX8_wholeCode_8 ?_
  refine lv_imul hx hb dX8_wholeCode_9 ?_
  refine lv_bipush (v := 64) hx hb dX8_wholeCode_10 (by decide) ?_
  refine lv_aload_n hx hb dX8_wholeCode_12 rfl (lv_at hl 0 rfl) ?_
  refine lv_iload_n hx hb dX8_wholeCode_13 rfl (lv_at hl 1 rfl) ?_
  refine lv_iconst (v := 0) hx hb dX8_wholeCode_14 (by decide) ?_
  have hPc := hP
  have hDc := hD
  have hKc := hK
  have hFc := va_free (wc := (wd_X8 a ca u)) hD hS hA [0, 1, 2, 3, 4, 5, 6, 7, 8, 9, 10, 11, 12, 13, 14, 15, 16, 17, 18, 19] rfl
  refine va_calli (va_runV (As := [.int x1, .int 0]) (rest := [.int 64, .int (4096 * (u.2.1 13 x1.toNatClampNeg))]) ⟨hx, hb, hml, hown, hts⟩ (c_X8_codeOf l dC dI a ca H.size u x1 0 _ h) (cwV 2 hts gX8_wholeCode_X8_codeOf rfl rfl rfl (by decide +kernel) ⟨Nat.le_of_ble_eq_true rfl, Nat.le_of_ble_eq_true rfl⟩) ⟨fun a U g mk q => by obtain ⟨q0, q1, qP, qK, qD⟩ := q; exact ⟨q0, q1, qP, va_K.moved (u := U) (U := U.calling g mk a) (Vm.Alike.refl U.vm) qK, qD⟩, va_recv hKc hPc (ci := 7) (q0 := 0) rfl rfl, fun U hU hW => ⟨rfl, by rw [hU], by rw [hU]; exact hPc, va_K.moved hW.alike hKc, hDc.weaken (fun _ _ _ _ => trivial)⟩⟩ rfl rfl hl.1 rfl (lv_room (Nat.le_of_ble_eq_true rfl)) dX8_wholeCode_15 ⟨Nat.zero_le _, Nat.zero_le _⟩) hS (fun q _ h => hFc q h) hFc (fun r_2 zz t H1 locs ht hvm hw hB hz1 hk1 hS => ?_)
  replace h := hw
  obtain ⟨hP1, hD1⟩ := hB
  rw [ht] at hP1
  replace hD : va_D A (wd_X8 a ca u) := hD1.weaken (fun _ _ _ h9 => hFc _ h9)
  replace hP : va_P (dC, dI) vwCl (wd_X8 a ca u) H1 := hP1
  generalize H1 = H at hP hS ⊢
  refine lv_imul hx hb dX8_wholeCode_18 ?_
  refine lv_iadd hx hb dX8_wholeCode_19 ?_
  refine lv_aload_n hx hb dX8_wholeCode_20 rfl (lv_at hl 0 rfl) ?_
  refine lv_iload_n hx hb dX8_wholeCode_21 rfl (lv_at hl 1 rfl) ?_
  refine lv_iconst (v := 1) hx hb dX8_wholeCode_22 (by decide) ?_
  have hPc := hP
  have hDc := hD
  have hKc := hK
  have hFc := va_free (wc := (wd_X8 a ca u)) hD hS hA [0, 1, 2, 3, 4, 5, 6, 7, 8, 9, 10, 11, 12, 13, 14, 15, 16, 17, 18, 19] rfl
  refine va_calli (va_runV (As := [.int x1, .int 1]) (rest := [.int ((4096 * (u.2.1 13 x1.toNatClampNeg)) + (64 * r_2))]) ⟨hx, hb, hml, hown, hts⟩ (c_X8_codeOf l dC dI a ca H.size u x1 1 _ h) (cwV 2 hts gX8_wholeCode_X8_codeOf rfl rfl rfl (by decide +kernel) ⟨Nat.le_of_ble_eq_true rfl, Nat.le_of_ble_eq_true rfl⟩) ⟨fun a U g mk q => by obtain ⟨q0, q1, qP, qK, qD⟩ := q; exact ⟨q0, q1, qP, va_K.moved (u := U) (U := U.calling g mk a) (Vm.Alike.refl U.vm) qK, qD⟩, va_recv hKc hPc (ci := 7) (q0 := 0) rfl rfl, fun U hU hW => ⟨rfl, by rw [hU], by rw [hU]; exact hPc, va_K.moved hW.alike hKc, hDc.weaken (fun _ _ _ _ => trivial)⟩⟩ rfl rfl hl.1 rfl (lv_room (Nat.le_of_ble_eq_true rfl)) dX8_wholeCode_23 ⟨Nat.zero_le _, Nat.zero_le _⟩) hS (fun q _ h => hFc q h) hFc (fun r_3 zz t H1 locs ht hvm hw hB hz1 hk1 hS => ?_)
  replace h := hw
  obtain ⟨hP1, hD1⟩ := hB
  rw [ht] at hP1
  replace hD : va_D A (wd_X8 a ca u) := hD1.weaken (fun _ _ _ h9 => hFc _ h9)
  replace hP : va_P (dC, dI) vwCl (wd_X8 a ca u) H1 := hP1
  generalize H1 = H at hP hS ⊢
  refine lv_iadd hx hb dX8_wholeCode_26 ?_
  subst hQ
  exact W.iret (v := (((4096 * (u.2.1 13 x1.toNatClampNeg)) + (64 * r_2)) + r_3)) hx hb hr (fun t ht hW => ⟨⟨_, (), rfl, h, by rw [ht]; exact hP, hD⟩, hS.F ht⟩) hS.2.2 dX8_wholeCode_27
abbrev rm_X8_goes : Room := { frames := 2, cells := 0, slots := 0, locals := 47 }
set_option maxHeartbeats 4000000 in
set_option maxRecDepth 100000 in
theorem c_X8_goes (l : Launch) (dC : Nat → ClassId) (dI : Nat → Nat → Nat) (a : Nat → Nat) (ca : Nat → ClassId) (sz : Nat) (u : Ob) (x1 : Int32) (x2 : Int32) (post : Int32 → Ob → Prop) (h : wp_X8_goes u x1 x2 post) : Met l yX8_goes wsX8_goes rm_X8_goes (va_Pc [.ref (a 0), .int x1, .int x2] (fun U => U.heap.size = sz ∧ va_P (dC, dI) vwCl (wd_X8 a ca u) U.heap ∧ va_K (dC, dI) vwCl (ty_X8 ca) U ∧ va_D (fun _ => True) (wd_X8 a ca u))) (va_Qi post (fun (zz : Ob) (t : State) => va_P (dC, dI) vwCl (wd_X8 a ca zz) t.heap ∧ va_D (va_A (wd_X8 a ca u) sz) (wd_X8 a ca zz)) (va_A (wd_X8 a ca u) sz)) 0 0 (va_A (wd_X8 a ca u) sz) := by
  refine fl_ofW (cc := cX8_goes) (maxL := 6) (ret := (some .boolean)) (by decide) rfl ?_
  intro p e s m args below meth c s₁ Q B hml hv hQ
  obtain ⟨hargs, hsz, hP, hK, hD0⟩ := hv
  have hx := B.exec
  have hb := B.bytes
  have hr := B.returns
  have hts := atoms_spec (ws := wsX8_goes) B.pre
  have hown : s.vm.findClass RX8 = some m.cls := findClass_of_methodNamed B.named
  subst hsz
  have hD := hD0.self (sz := s.heap.size)
  generalize hAe : va_A (wd_X8 a ca u) s.heap.size = A at hD hQ
  have hA : ∀ q : Nat, s.heap.size ≤ q → A q := fun q h => by rw [← hAe]; exact Or.inr h
  have hS : va_S A s.heap s.heap [] := va_S.rf
  have hl := lv_entry ([.ref (a 0), .int x1, .int x2]) (n := 6) (Nat.le_of_ble_eq_true rfl)
  refine W.eq (g2 := F0 m 0 ((lg_sl ([.ref (a 0), .int x1, .int x2]) ++ List.replicate (6 - (lg_sl ([.ref (a 0), .int x1, .int x2])).length) Slot.unset).toArray) []) (by rw [hargs]; exact lg_entry_eq m _ 6) ?_
  generalize (lg_sl ([.ref (a 0), .int x1, .int x2]) ++ List.replicate (6 - (lg_sl ([.ref (a 0), .int x1, .int x2])).length) Slot.unset).toArray = ls at hl ⊢
  have hl : lv_has ls 6 [(0, .ref (a 0)), (1, .int x1), (2, .int x2)] := hl
  suffices hstart : ∀ (H : Heap) (locs : List Loc) (ls : Array Slot), va_P (dC, dI) vwCl (wd_X8 a ca u) H → va_D A (wd_X8 a ca u) → va_S A s.heap H locs → lv_has ls 6 [(0, .ref (a 0)), (1, .int x1), (2, .int x2)] → W p l e (headSpec wsX8_goes rm_X8_goes).room s m args below meth c H locs 0 0 Q (F0 m 0 ls []) from hstart _ _ _ hP hD hS hl
  clear hS hP hD hD0
  intro H locs ls hP hD hS hl
  have hin_X8 : ∀ w ∈ wsX80, w ∈ wsX8_goes := by decide +kernel
  have lk_0 := hts (.fieldLink RX8 24 "ForgettingLinesModel" "lines" "[I") (by decide +kernel)
  have lk_1 := hts (.fieldLink RX8 27 "ForgettingLinesModel" "letters" "[I") (by decide +kernel)
  have lk_2 := hts (.fieldLink RX8 17 "ForgettingLinesModel" "froms" "[I") (by decide +kernel)
  have lk_3 := hts (.fieldLink RX8 39 "ForgettingLinesModel" "stateOf" "[I") (by decide +kernel)
  have lk_4 := hts (.fieldLink RX8 21 "ForgettingLinesModel" "acts" "[I") (by decide +kernel)
  have lk_5 := hts (.fieldLink RX8 30 "ForgettingLinesModel" "tos" "[I") (by decide +kernel)
  have lk_6 := hts (.fieldLink RX8 42 "ForgettingLinesModel" "sizes" "[I") (by decide +kernel)
  have lk_7 := hts (.fieldLink RX8 13 "ForgettingLinesModel" "bags" "[Z") (by decide +kernel)
  unfold wp_X8_goes at h
  refine lv_aload_n hx hb dX8_goes_0 rfl (lv_at hl 0 rfl) ?_
  refine va_get (D := (dC, dI)) (ci := 7) (v := .ref (a 6)) (C := RX8) (T := TX8) (N := 25) hx hb hts hin_X8 hown hK hP 0 rfl rfl 5 (by decide) lk_0 (fun _ h9 => h9) rfl dX8_goes_1 ?_
  refine lv_iload_n hx hb dX8_goes_4 rfl (lv_at hl 1 rfl) ?_
  obtain ⟨hi_1, h⟩ := h
  refine va_iald (D := (dC, dI)) (cl := vwCl) (i := x1) hx hb hK hP 4 3 rfl rfl hi_1 dX8_goes_5 ?_
  refine lv_istore_n (lv' := [(3, .int (u.2.1 5 x1.toNatClampNeg)), (0, .ref (a 0)), (1, .int x1), (2, .int x2)]) hx hb dX8_goes_6 rfl hl (by decide) rfl (fun ls hl => ?_)
  refine lv_aload_n hx hb dX8_goes_7 rfl (lv_at hl 1 rfl) ?_
  refine va_get (D := (dC, dI)) (ci := 7) (v := .ref (a 7)) (C := RX8) (T := TX8) (N := 25) hx hb hts hin_X8 hown hK hP 0 rfl rfl 6 (by decide) lk_1 (fun _ h9 => h9) rfl dX8_goes_8 ?_
  refine lv_iload_n hx hb dX8_goes_11 rfl (lv_at hl 2 rfl) ?_
  obtain ⟨hi_2, h⟩ := h
  refine va_iald (D := (dC, dI)) (cl := vwCl) (i := x1) hx hb hK hP 5 4 rfl rfl hi_2 dX8_goes_12 ?_
  refine lv_istore (lv' := [(4, .int (u.2.1 6 x1.toNatClampNeg)), (3, .int (u.2.1 5 x1.toNatClampNeg)), (0, .ref (a 0)), (1, .int x1), (2, .int x2)]) hx hb dX8_goes_13 hl (by decide) rfl (fun ls hl => ?_)
  refine lv_aload_n hx hb dX8_goes_15 rfl (lv_at hl 2 rfl) ?_
  refine va_get (D := (dC, dI)) (ci := 7) (v := .ref (a 4)) (C := RX8) (T := TX8) (N := 25) hx hb hts hin_X8 hown hK hP 0 rfl rfl 3 (by decide) lk_2 (fun _ h9 => h9) rfl dX8_goes_16 ?_
  refine lv_iload_n hx hb dX8_goes_19 rfl (lv_at hl 3 rfl) ?_
  obtain ⟨hi_3, h⟩ := h
  refine va_iald (D := (dC, dI)) (cl := vwCl) (i := x1) hx hb hK hP 2 1 rfl rfl hi_3 dX8_goes_20 ?_
  refine lv_aload_n hx hb dX8_goes_21 rfl (lv_at hl 2 rfl) ?_
  refine va_get (D := (dC, dI)) (ci := 7) (v := .ref (a 14)) (C := RX8) (T := TX8) (N := 25) hx hb hts hin_X8 hown hK hP 0 rfl rfl 13 (by decide) lk_3 (fun _ h9 => h9) rfl dX8_goes_22 ?_
  refine lv_bipush (v := 80) hx hb dX8_goes_25 (by decide) ?_
  obtain ⟨hi_4, h⟩ := h
  refine va_iald (D := (dC, dI)) (cl := vwCl) (i := 80) hx hb hK hP 9 8 rfl rfl hi_4 dX8_goes_27 ?_
  refine lv_icmp_eq (tgt := 33) hx hb dX8_goes_28 (by decide) (fun hc_5 => ?_) (fun hc_5 => ?_)
  · replace h := h.1 hc_5
    refine lv_aload_n hx hb dX8_goes_33 rfl (lv_at hl 2 rfl) ?_
    refine va_get (D := (dC, dI)) (ci := 7) (v := .ref (a 5)) (C := RX8) (T := TX8) (N := 25) hx hb hts hin_X8 hown hK hP 0 rfl rfl 4 (by decide) lk_4 (fun _ h9 => h9) rfl dX8_goes_34 ?_
    refine lv_iload_n hx hb dX8_goes_37 rfl (lv_at hl 3 rfl) ?_
    obtain ⟨hi_6, h⟩ := h
    refine va_iald (D := (dC, dI)) (cl := vwCl) (i := x1) hx hb hK hP 3 2 rfl rfl hi_6 dX8_goes_38 ?_
    refine lv_iconst (v := 2) hx hb dX8_goes_39 (by decide) ?_
    refine jn1_ind (GG := (fun (u_8 : Ob) => ∀ (H : Heap) (locs : List Loc) (ls : Array Slot), va_P (dC, dI) vwCl (wd_X8 a ca u_8) H → va_D A (wd_X8 a ca u_8) → va_S A s.heap H locs → lv_has ls 6 [(0, .ref (a 0)), (1, .int x1)] → W p l e (headSpec wsX8_goes rm_X8_goes).room s m args below meth c H locs 0 0 Q (F0 m 153 ls []))) h (fun u_8 h H locs ls hP hD hS hl => ?_) (fun JJ_7 ih_JJ_7 h => ?_)
    · refine lv_aload_n hx hb dX8_goes_153 rfl (lv_at hl 0 rfl) ?_
      refine va_get (D := (dC, dI)) (ci := 7) (v := .ref (a 14)) (C := RX8) (T := TX8) (N := 25) hx hb hts hin_X8 hown hK hP 0 rfl rfl 13 (by decide) lk_3 (fun _ h9 => h9) rfl dX8_goes_154 ?_
      refine lv_bipush (v := 80) hx hb dX8_goes_157 (by decide) ?_
      refine lv_aload_n hx hb dX8_goes_159 rfl (lv_at hl 0 rfl) ?_
      refine va_get (D := (dC, dI)) (ci := 7) (v := .ref (a 8)) (C := RX8) (T := TX8) (N := 25) hx hb hts hin_X8 hown hK hP 0 rfl rfl 7 (by decide) lk_5 (fun _ h9 => h9) rfl dX8_goes_160 ?_
      refine lv_iload_n hx hb dX8_goes_163 rfl (lv_at hl 1 rfl) ?_
      obtain ⟨hi_9, h⟩ := h
      refine va_iald (D := (dC, dI)) (cl := vwCl) (i := x1) hx hb hK hP 6 5 rfl rfl hi_9 dX8_goes_164 ?_
      obtain ⟨hi_10, h⟩ := h
      refine va_iast (D := (dC, dI)) (cl := vwCl) (i := 80) hx hb hK hP hD hS 9 8 rfl rfl hi_10 dX8_goes_165 (fun H locs hP hD hS => ?_)
      obtain ⟨u_11, eu_11⟩ : ∃ z : Ob, z = fs_a u_8 13 (upd (u_8.2.1 13) (80 : Int32).toNatClampNeg (u_8.2.1 7 x1.toNatClampNeg)) := ⟨_, rfl⟩
      replace h := h u_11 eu_11
      replace hP : va_P (dC, dI) vwCl (wd_X8 a ca u_11) H := by rw [eu_11]; exact hP
      replace hD : va_D A (wd_X8 a ca u_11) := by rw [eu_11]; exact hD
      refine lv_iconst (v := 1) hx hb dX8_goes_166 (by decide) ?_
      subst hQ
      exact W.zret (v := 1) hx hb hr (by rfl) (fun t ht hW => ⟨⟨_, u_11, rfl, h, by rw [ht]; exact hP, hD⟩, hS.F ht⟩) hS.2.2 dX8_goes_167
    · refine lv_icmp_ne (tgt := 87) hx hb dX8_goes_40 (by decide) (fun hc_12 => ?_) (fun hc_12 => ?_)
      · replace h := h.1 hc_12
        refine lv_aload_n hx hb dX8_goes_87 rfl (lv_at hl 2 rfl) ?_
        refine va_get (D := (dC, dI)) (ci := 7) (v := .ref (a 5)) (C := RX8) (T := TX8) (N := 25) hx hb hts hin_X8 hown hK hP 0 rfl rfl 4 (by decide) lk_4 (fun _ h9 => h9) rfl dX8_goes_88 ?_
        refine lv_iload_n hx hb dX8_goes_91 rfl (lv_at hl 3 rfl) ?_
        obtain ⟨hi_13, h⟩ := h
        refine va_iald (D := (dC, dI)) (cl := vwCl) (i := x1) hx hb hK hP 3 2 rfl rfl hi_13 dX8_goes_92 ?_
        refine lv_iconst (v := 1) hx hb dX8_goes_93 (by decide) ?_
        refine lv_icmp_ne (tgt := 153) hx hb dX8_goes_94 (by decide) (fun hc_14 => ?_) (fun hc_14 => ?_)
        · replace h := h.1 hc_14
          exact ih_JJ_7 _ h _ _ _ hP hD hS (lv_sub hl [2, 3] rfl)
        · replace h := h.2 hc_14
          refine lv_aload_n hx hb dX8_goes_97 rfl (lv_at hl 2 rfl) ?_
          refine va_get (D := (dC, dI)) (ci := 7) (v := .ref (a 15)) (C := RX8) (T := TX8) (N := 25) hx hb hts hin_X8 hown hK hP 0 rfl rfl 14 (by decide) lk_6 (fun _ h9 => h9) rfl dX8_goes_98 ?_
          refine lv_sipush (v := 160) hx hb dX8_goes_101 (by decide) ?_
          refine lv_iload_n hx hb dX8_goes_104 rfl (lv_at hl 1 rfl) ?_
          refine lv_iadd hx hb dX8_goes_105 ?_
          obtain ⟨hi_15, h⟩ := h
          refine va_iald (D := (dC, dI)) (cl := vwCl) (i := (160 + (u.2.1 5 x1.toNatClampNeg))) hx hb hK hP 10 9 rfl rfl hi_15 dX8_goes_106 ?_
          refine lv_iload_n hx hb dX8_goes_107 rfl (lv_at hl 4 rfl) ?_
          refine lv_icmp_lt (tgt := 113) hx hb dX8_goes_108 (by decide) (fun hc_16 => ?_) (fun hc_16 => ?_)
          · replace h := h.1 hc_16
            refine lv_aload_n hx hb dX8_goes_113 rfl (lv_at hl 2 rfl) ?_
            refine lv_bipush (v := 80) hx hb dX8_goes_114 (by decide) ?_
            refine lv_iload_n hx hb dX8_goes_116 rfl (lv_at hl 1 rfl) ?_
            refine lv_aload_n hx hb dX8_goes_117 rfl (lv_at hl 2 rfl) ?_
            refine va_get (D := (dC, dI)) (ci := 7) (v := .ref (a 2)) (C := RX8) (T := TX8) (N := 25) hx hb hts hin_X8 hown hK hP 0 rfl rfl 1 (by decide) lk_7 (fun _ h9 => h9) rfl dX8_goes_118 ?_
            refine lv_iload_n hx hb dX8_goes_121 rfl (lv_at hl 1 rfl) ?_
            obtain ⟨hi_17, h⟩ := h
            refine va_zald (D := (dC, dI)) (cl := vwCl) (i := (u.2.1 5 x1.toNatClampNeg)) hx hb hK hP 1 0 rfl rfl hi_17 dX8_goes_122 ?_
            refine jn1_ind (GG := (fun (w_19 : Int32) => ∀ (H : Heap) (locs : List Loc) (ls : Array Slot), va_P (dC, dI) vwCl (wd_X8 a ca u) H → va_D A (wd_X8 a ca u) → va_S A s.heap H locs → lv_has ls 6 [(4, .int (u.2.1 6 x1.toNatClampNeg)), (0, .ref (a 0)), (1, .int x1)] → W p l e (headSpec wsX8_goes rm_X8_goes).room s m args below meth c H locs 0 0 Q (F0 m 148 ls [.int w_19, .int (u.2.1 5 x1.toNatClampNeg), .int 80, .ref (a 0)]))) h (fun w_19 h H locs ls hP hD hS hl => ?_) (fun JJ_18 ih_JJ_18 h => ?_)
            · refine lv_iload hx hb dX8_goes_148 (lv_at hl 0 rfl) ?_
              have hPc := hP
              have hDc := hD
              have hKc := hK
              have hFc := va_free (wc := (wd_X8 a ca u)) hD hS hA [0, 1, 2, 3, 4, 5, 6, 7, 8, 9, 10, 11, 12, 13, 14, 15, 16, 17, 18, 19] rfl
              refine va_callv (va_runV (As := [.int 80, .int (u.2.1 5 x1.toNatClampNeg), .int w_19, .int (u.2.1 6 x1.toNatClampNeg)]) (rest := []) ⟨hx, hb, hml, hown, hts⟩ (c_X8_putIn l dC dI a ca H.size u 80 (u.2.1 5 x1.toNatClampNeg) w_19 (u.2.1 6 x1.toNatClampNeg) _ h) (cwV 4 hts gX8_goes_X8_putIn rfl rfl rfl (by decide +kernel) ⟨Nat.le_of_ble_eq_true rfl, Nat.le_of_ble_eq_true rfl⟩) ⟨fun a U g mk q => by obtain ⟨q0, q1, qP, qK, qD⟩ := q; exact ⟨q0, q1, qP, va_K.moved (u := U) (U := U.calling g mk a) (Vm.Alike.refl U.vm) qK, qD⟩, va_recv hKc hPc (ci := 7) (q0 := 0) rfl rfl, fun U hU hW => ⟨rfl, by rw [hU], by rw [hU]; exact hPc, va_K.moved hW.alike hKc, hDc.weaken (fun _ _ _ _ => trivial)⟩⟩ rfl rfl hl.1 rfl (lv_room (Nat.le_of_ble_eq_true rfl)) dX8_goes_150 ⟨Nat.zero_le _, Nat.zero_le _⟩) hS (fun q _ h => hFc q h) hFc (fun zz t H1 locs ht hvm hw hB hz1 hk1 hS => ?_)
              obtain ⟨u_20, rfl⟩ : ∃ z, z = zz := ⟨_, rfl⟩
              replace h := hw
              obtain ⟨hP1, hD1⟩ := hB
              rw [ht] at hP1
              replace hD : va_D A (wd_X8 a ca u_20) := hD1.weaken (fun _ _ _ h9 => hFc _ h9)
              replace hP : va_P (dC, dI) vwCl (wd_X8 a ca u_20) H1 := hP1
              generalize H1 = H at hP hS ⊢
              exact ih_JJ_7 _ h _ _ _ hP hD hS (lv_sub hl [1, 2] rfl)
            · refine lv_if_eq (tgt := 138) hx hb dX8_goes_123 (by decide) (fun hc_21 => ?_) (fun hc_21 => ?_)
              · replace h := h.1 hc_21
                refine lv_aload_n hx hb dX8_goes_138 rfl (lv_at hl 2 rfl) ?_
                refine va_get (D := (dC, dI)) (ci := 7) (v := .ref (a 15)) (C := RX8) (T := TX8) (N := 25) hx hb hts hin_X8 hown hK hP 0 rfl rfl 14 (by decide) lk_6 (fun _ h9 => h9) rfl dX8_goes_139 ?_
                refine lv_sipush (v := 160) hx hb dX8_goes_142 (by decide) ?_
                refine lv_iload_n hx hb dX8_goes_145 rfl (lv_at hl 1 rfl) ?_
                refine lv_iadd hx hb dX8_goes_146 ?_
                obtain ⟨hi_22, h⟩ := h
                refine va_iald (D := (dC, dI)) (cl := vwCl) (i := (160 + (u.2.1 5 x1.toNatClampNeg))) hx hb hK hP 10 9 rfl rfl hi_22 dX8_goes_147 ?_
                exact ih_JJ_18 _ h _ _ _ hP hD hS (lv_sub hl [0, 2, 3] rfl)
              · replace h := h.2 hc_21
                refine lv_aload_n hx hb dX8_goes_126 rfl (lv_at hl 2 rfl) ?_
                refine lv_bipush (v := 80) hx hb dX8_goes_127 (by decide) ?_
                refine lv_iload_n hx hb dX8_goes_129 rfl (lv_at hl 1 rfl) ?_
                refine lv_iload hx hb dX8_goes_130 (lv_at hl 0 rfl) ?_
                have hPc := hP
                have hDc := hD
                have hKc := hK
                have hFc := va_free (wc := (wd_X8 a ca u)) hD hS hA [0, 1, 2, 3, 4, 5, 6, 7, 8, 9, 10, 11, 12, 13, 14, 15, 16, 17, 18, 19] rfl
                refine va_calli (va_runV (As := [.int 80, .int (u.2.1 5 x1.toNatClampNeg), .int (u.2.1 6 x1.toNatClampNeg)]) (rest := [.int (u.2.1 5 x1.toNatClampNeg), .int 80, .ref (a 0)]) ⟨hx, hb, hml, hown, hts⟩ (c_X8_inOrder l dC dI a ca H.size u 80 (u.2.1 5 x1.toNatClampNeg) (u.2.1 6 x1.toNatClampNeg) _ h) (cwV 3 hts gX8_goes_X8_inOrder rfl rfl rfl (by decide +kernel) ⟨Nat.le_of_ble_eq_true rfl, Nat.le_of_ble_eq_true rfl⟩) ⟨fun a U g mk q => by obtain ⟨q0, q1, qP, qK, qD⟩ := q; exact ⟨q0, q1, qP, va_K.moved (u := U) (U := U.calling g mk a) (Vm.Alike.refl U.vm) qK, qD⟩, va_recv hKc hPc (ci := 7) (q0 := 0) rfl rfl, fun U hU hW => ⟨rfl, by rw [hU], by rw [hU]; exact hPc, va_K.moved hW.alike hKc, hDc.weaken (fun _ _ _ _ => trivial)⟩⟩ rfl rfl hl.1 rfl (lv_room (Nat.le_of_ble_eq_true rfl)) dX8_goes_132 ⟨Nat.zero_le _, Nat.zero_le _⟩) hS (fun q _ h => hFc q h) hFc (fun r_23 zz t H1 locs ht hvm hw hB hz1 hk1 hS => ?_)
                replace h := hw
                obtain ⟨hP1, hD1⟩ := hB
                rw [ht] at hP1
                replace hD : va_D A (wd_X8 a ca u) := hD1.weaken (fun _ _ _ h9 => hFc _ h9)
                replace hP : va_P (dC, dI) vwCl (wd_X8 a ca u) H1 := hP1
                generalize H1 = H at hP hS ⊢
                refine lv_goto (tgt := 148) hx hb dX8_goes_135 (by decide) ?_
                exact ih_JJ_18 _ h _ _ _ hP hD hS (lv_sub hl [0, 2, 3] rfl)
          · replace h := h.2 hc_16
            refine lv_iconst (v := 0) hx hb dX8_goes_111 (by decide) ?_
            subst hQ
            exact W.zret (v := 0) hx hb hr (by rfl) (fun t ht hW => ⟨⟨_, u, rfl, h, by rw [ht]; exact hP, hD⟩, hS.F ht⟩) hS.2.2 dX8_goes_112
      · replace h := h.2 hc_12
        refine lv_aload_n hx hb dX8_goes_43 rfl (lv_at hl 2 rfl) ?_
        refine lv_bipush (v := 80) hx hb dX8_goes_44 (by decide) ?_
        refine lv_iload_n hx hb dX8_goes_46 rfl (lv_at hl 1 rfl) ?_
        refine lv_iload hx hb dX8_goes_47 (lv_at hl 0 rfl) ?_
        have hPc := hP
        have hDc := hD
        have hKc := hK
        have hFc := va_free (wc := (wd_X8 a ca u)) hD hS hA [0, 1, 2, 3, 4, 5, 6, 7, 8, 9, 10, 11, 12, 13, 14, 15, 16, 17, 18, 19] rfl
        refine va_calli (va_runV (As := [.int 80, .int (u.2.1 5 x1.toNatClampNeg), .int (u.2.1 6 x1.toNatClampNeg)]) (rest := []) ⟨hx, hb, hml, hown, hts⟩ (c_X8_firstOf l dC dI a ca H.size u 80 (u.2.1 5 x1.toNatClampNeg) (u.2.1 6 x1.toNatClampNeg) _ h) (cwV 3 hts gX8_goes_X8_firstOf rfl rfl rfl (by decide +kernel) ⟨Nat.le_of_ble_eq_true rfl, Nat.le_of_ble_eq_true rfl⟩) ⟨fun a U g mk q => by obtain ⟨q0, q1, qP, qK, qD⟩ := q; exact ⟨q0, q1, qP, va_K.moved (u := U) (U := U.calling g mk a) (Vm.Alike.refl U.vm) qK, qD⟩, va_recv hKc hPc (ci := 7) (q0 := 0) rfl rfl, fun U hU hW => ⟨rfl, by rw [hU], by rw [hU]; exact hPc, va_K.moved hW.alike hKc, hDc.weaken (fun _ _ _ _ => trivial)⟩⟩ rfl rfl hl.1 rfl (lv_room (Nat.le_of_ble_eq_true rfl)) dX8_goes_49 ⟨Nat.zero_le _, Nat.zero_le _⟩) hS (fun q _ h => hFc q h) hFc (fun r_24 zz t H1 locs ht hvm hw hB hz1 hk1 hS => ?_)
        replace h := hw
        obtain ⟨hP1, hD1⟩ := hB
        rw [ht] at hP1
        replace hD : va_D A (wd_X8 a ca u) := hD1.weaken (fun _ _ _ h9 => hFc _ h9)
        replace hP : va_P (dC, dI) vwCl (wd_X8 a ca u) H1 := hP1
        generalize H1 = H at hP hS ⊢
        refine lv_istore (lv' := [(5, .int r_24), (4, .int (u.2.1 6 x1.toNatClampNeg)), (3, .int (u.2.1 5 x1.toNatClampNeg)), (0, .ref (a 0)), (1, .int x1), (2, .int x2)]) hx hb dX8_goes_52 hl (by decide) rfl (fun ls hl => ?_)
        refine lv_iload hx hb dX8_goes_54 (lv_at hl 0 rfl) ?_
        refine lv_if_lt (tgt := 73) hx hb dX8_goes_56 (by decide) (fun hc_25 => ?_) (fun hc_25 => ?_)
        · replace h := h.1 hc_25
          refine lv_iconst (v := 0) hx hb dX8_goes_73 (by decide) ?_
          subst hQ
          exact W.zret (v := 0) hx hb hr (by rfl) (fun t ht hW => ⟨⟨_, u, rfl, h, by rw [ht]; exact hP, hD⟩, hS.F ht⟩) hS.2.2 dX8_goes_74
        · replace h := h.2 hc_25
          refine lv_iload hx hb dX8_goes_59 (lv_at hl 0 rfl) ?_
          refine jn0_ind (GG := (∀ (H : Heap) (locs : List Loc) (ls : Array Slot), va_P (dC, dI) vwCl (wd_X8 a ca u) H → va_D A (wd_X8 a ca u) → va_S A s.heap H locs → lv_has ls 6 [(5, .int r_24), (3, .int (u.2.1 5 x1.toNatClampNeg)), (0, .ref (a 0)), (1, .int x1)] → W p l e (headSpec wsX8_goes rm_X8_goes).room s m args below meth c H locs 0 0 Q (F0 m 75 ls []))) h (fun  h H locs ls hP hD hS hl => ?_) (fun JJ_26 ih_JJ_26 h => ?_)
          · refine lv_aload_n hx hb dX8_goes_75 rfl (lv_at hl 2 rfl) ?_
            refine lv_bipush (v := 80) hx hb dX8_goes_76 (by decide) ?_
            refine lv_iload_n hx hb dX8_goes_78 rfl (lv_at hl 1 rfl) ?_
            refine lv_iload hx hb dX8_goes_79 (lv_at hl 0 rfl) ?_
            have hPc := hP
            have hDc := hD
            have hKc := hK
            have hFc := va_free (wc := (wd_X8 a ca u)) hD hS hA [0, 1, 2, 3, 4, 5, 6, 7, 8, 9, 10, 11, 12, 13, 14, 15, 16, 17, 18, 19] rfl
            refine va_callv (va_runV (As := [.int 80, .int (u.2.1 5 x1.toNatClampNeg), .int r_24]) (rest := []) ⟨hx, hb, hml, hown, hts⟩ (c_X8_takeOut l dC dI a ca H.size u 80 (u.2.1 5 x1.toNatClampNeg) r_24 _ h) (cwV 3 hts gX8_goes_X8_takeOut rfl rfl rfl (by decide +kernel) ⟨Nat.le_of_ble_eq_true rfl, Nat.le_of_ble_eq_true rfl⟩) ⟨fun a U g mk q => by obtain ⟨q0, q1, qP, qK, qD⟩ := q; exact ⟨q0, q1, qP, va_K.moved (u := U) (U := U.calling g mk a) (Vm.Alike.refl U.vm) qK, qD⟩, va_recv hKc hPc (ci := 7) (q0 := 0) rfl rfl, fun U hU hW => ⟨rfl, by rw [hU], by rw [hU]; exact hPc, va_K.moved hW.alike hKc, hDc.weaken (fun _ _ _ _ => trivial)⟩⟩ rfl rfl hl.1 rfl (lv_room (Nat.le_of_ble_eq_true rfl)) dX8_goes_81 ⟨Nat.zero_le _, Nat.zero_le _⟩) hS (fun q _ h => hFc q h) hFc (fun zz t H1 locs ht hvm hw hB hz1 hk1 hS => ?_)
            obtain ⟨u_27, rfl⟩ : ∃ z, z = zz := ⟨_, rfl⟩
            replace h := hw
            obtain ⟨hP1, hD1⟩ := hB
            rw [ht] at hP1
            replace hD : va_D A (wd_X8 a ca u_27) := hD1.weaken (fun _ _ _ h9 => hFc _ h9)
            replace hP : va_P (dC, dI) vwCl (wd_X8 a ca u_27) H1 := hP1
            generalize H1 = H at hP hS ⊢
            refine lv_goto (tgt := 153) hx hb dX8_goes_84 (by decide) ?_
            exact ih_JJ_7 _ h _ _ _ hP hD hS (lv_sub hl [2, 3] rfl)
          · refine lv_if_le (tgt := 75) hx hb dX8_goes_61 (by decide) (fun hc_28 => ?_) (fun hc_28 => ?_)
            · replace h := h.1 hc_28
              exact ih_JJ_26 h _ _ _ hP hD hS (lv_sub hl [0, 2, 3, 4] rfl)
            · replace h := h.2 hc_28
              refine lv_aload_n hx hb dX8_goes_64 rfl (lv_at hl 3 rfl) ?_
              refine va_get (D := (dC, dI)) (ci := 7) (v := .ref (a 2)) (C := RX8) (T := TX8) (N := 25) hx hb hts hin_X8 hown hK hP 0 rfl rfl 1 (by decide) lk_7 (fun _ h9 => h9) rfl dX8_goes_65 ?_
              refine lv_iload_n hx hb dX8_goes_68 rfl (lv_at hl 2 rfl) ?_
              obtain ⟨hi_29, h⟩ := h
              refine va_zald (D := (dC, dI)) (cl := vwCl) (i := (u.2.1 5 x1.toNatClampNeg)) hx hb hK hP 1 0 rfl rfl hi_29 dX8_goes_69 ?_
              refine lv_if_ne (tgt := 75) hx hb dX8_goes_70 (by decide) (fun hc_30 => ?_) (fun hc_30 => ?_)
              · replace h := h.1 hc_30
                exact ih_JJ_26 h _ _ _ hP hD hS (lv_sub hl [0, 2, 3, 4] rfl)
              · replace h := h.2 hc_30
                refine lv_iconst (v := 0) hx hb dX8_goes_73 (by decide) ?_
                subst hQ
                exact W.zret (v := 0) hx hb hr (by rfl) (fun t ht hW => ⟨⟨_, u, rfl, h, by rw [ht]; exact hP, hD⟩, hS.F ht⟩) hS.2.2 dX8_goes_74
  · replace h := h.2 hc_5
    refine lv_iconst (v := 0) hx hb dX8_goes_31 (by decide) ?_
    subst hQ
    exact W.zret (v := 0) hx hb hr (by rfl) (fun t ht hW => ⟨⟨_, u, rfl, h, by rw [ht]; exact hP, hD⟩, hS.F ht⟩) hS.2.2 dX8_goes_32
abbrev rm_X8_isLong : Room := { frames := 0, cells := 0, slots := 0, locals := 0 }
set_option maxHeartbeats 4000000 in
set_option maxRecDepth 100000 in
theorem c_X8_isLong (l : Launch) (dC : Nat → ClassId) (dI : Nat → Nat → Nat) (a : Nat → Nat) (ca : Nat → ClassId) (sz : Nat) (u : Ob) (x1 : Int32) (x2 : Int32) (post : Int32 → Prop) (h : wp_X8_isLong u x1 x2 post) : Met l yX8_isLong wsX8_isLong rm_X8_isLong (va_Pc [.ref (a 0), .int x1, .int x2] (fun U => U.heap.size = sz ∧ va_P (dC, dI) vwCl (wd_X8 a ca u) U.heap ∧ va_K (dC, dI) vwCl (ty_X8 ca) U ∧ va_D (fun _ => True) (wd_X8 a ca u))) (va_Qi (fun (rr : Int32) (_ : Unit) => post rr) (fun (zz : Unit) (t : State) => va_P (dC, dI) vwCl (wd_X8 a ca u) t.heap ∧ va_D (va_A (wd_X8 a ca u) sz) (wd_X8 a ca u)) (va_A (wd_X8 a ca u) sz)) 0 0 (va_A (wd_X8 a ca u) sz) := by
  refine fl_ofW (cc := cX8_isLong) (maxL := 3) (ret := (some .boolean)) (by decide) rfl ?_
  intro p e s m args below meth c s₁ Q B hml hv hQ
  obtain ⟨hargs, hsz, hP, hK, hD0⟩ := hv
  have hx := B.exec
  have hb := B.bytes
  have hr := B.returns
  have hts := atoms_spec (ws := wsX8_isLong) B.pre
  have hown : s.vm.findClass RX8 = some m.cls := findClass_of_methodNamed B.named
  subst hsz
  have hD := hD0.self (sz := s.heap.size)
  generalize hAe : va_A (wd_X8 a ca u) s.heap.size = A at hD hQ
  have hA : ∀ q : Nat, s.heap.size ≤ q → A q := fun q h => by rw [← hAe]; exact Or.inr h
  have hS : va_S A s.heap s.heap [] := va_S.rf
  have hl := lv_entry ([.ref (a 0), .int x1, .int x2]) (n := 3) (Nat.le_of_ble_eq_true rfl)
  refine W.eq (g2 := F0 m 0 ((lg_sl ([.ref (a 0), .int x1, .int x2]) ++ List.replicate (3 - (lg_sl ([.ref (a 0), .int x1, .int x2])).length) Slot.unset).toArray) []) (by rw [hargs]; exact lg_entry_eq m _ 3) ?_
  generalize (lg_sl ([.ref (a 0), .int x1, .int x2]) ++ List.replicate (3 - (lg_sl ([.ref (a 0), .int x1, .int x2])).length) Slot.unset).toArray = ls at hl ⊢
  have hl : lv_has ls 3 [(0, .ref (a 0)), (1, .int x1), (2, .int x2)] := hl
  suffices hstart : ∀ (H : Heap) (locs : List Loc) (ls : Array Slot), va_P (dC, dI) vwCl (wd_X8 a ca u) H → va_D A (wd_X8 a ca u) → va_S A s.heap H locs → lv_has ls 3 [(0, .ref (a 0)), (1, .int x1), (2, .int x2)] → W p l e (headSpec wsX8_isLong rm_X8_isLong).room s m args below meth c H locs 0 0 Q (F0 m 0 ls []) from hstart _ _ _ hP hD hS hl
  clear hS hP hD hD0
  intro H locs ls hP hD hS hl
  have hin_X8 : ∀ w ∈ wsX80, w ∈ wsX8_isLong := by decide +kernel
  have lk_0 := hts (.fieldLink RX8 42 "ForgettingLinesModel" "sizes" "[I") (by decide +kernel)
  unfold wp_X8_isLong at h
  refine lv_aload_n hx hb dX8_isLong_0 rfl (lv_at hl 0 rfl) ?_
  refine va_get (D := (dC, dI)) (ci := 7) (v := .ref (a 15)) (C := RX8) (T := TX8) (N := 25) hx hb hts hin_X8 hown hK hP 0 rfl rfl 14 (by decide) lk_0 (fun _ h9 => h9) rfl dX8_isLong_1 ?_
  refine lv_iconst (v := 2) hx hb dX8_isLong_4 (by decide) ?_
  refine lv_iload_n hx hb dX8_isLong_5 rfl (lv_at hl 1 rfl) ?_
  refine lv_imul hx hb dX8_isLong_6 ?_
  obtain ⟨hi_1, h⟩ := h
  refine va_iald (D := (dC, dI)) (cl := vwCl) (i := (2 * x1)) hx hb hK hP 10 9 rfl rfl hi_1 dX8_isLong_7 ?_
  refine lv_iload_n hx hb dX8_isLong_8 rfl (lv_at hl 2 rfl) ?_
  refine lv_icmp_gt (tgt := 26) hx hb dX8_isLong_9 (by decide) (fun hc_2 => ?_) (fun hc_2 => ?_)
  · replace h := h.1 hc_2
    refine lv_iconst (v := 1) hx hb dX8_isLong_26 (by decide) ?_
    refine lv_goto (tgt := 31) hx hb dX8_isLong_27 (by decide) ?_
    subst hQ
    exact W.zret (v := 1) hx hb hr (by rfl) (fun t ht hW => ⟨⟨_, (), rfl, h, by rw [ht]; exact hP, hD⟩, hS.F ht⟩) hS.2.2 dX8_isLong_31
  · replace h := h.2 hc_2
    refine lv_aload_n hx hb dX8_isLong_12 rfl (lv_at hl 0 rfl) ?_
    refine va_get (D := (dC, dI)) (ci := 7) (v := .ref (a 15)) (C := RX8) (T := TX8) (N := 25) hx hb hts hin_X8 hown hK hP 0 rfl rfl 14 (by decide) lk_0 (fun _ h9 => h9) rfl dX8_isLong_13 ?_
    refine lv_iconst (v := 2) hx hb dX8_isLong_16 (by decide) ?_
    refine lv_iload_n hx hb dX8_isLong_17 rfl (lv_at hl 1 rfl) ?_
    refine lv_imul hx hb dX8_isLong_18 ?_
    refine lv_iconst (v := 1) hx hb dX8_isLong_19 (by decide) ?_
    refine lv_iadd hx hb dX8_isLong_20 ?_
    obtain ⟨hi_3, h⟩ := h
    refine va_iald (D := (dC, dI)) (cl := vwCl) (i := ((2 * x1) + 1)) hx hb hK hP 10 9 rfl rfl hi_3 dX8_isLong_21 ?_
    refine lv_iload_n hx hb dX8_isLong_22 rfl (lv_at hl 2 rfl) ?_
    refine lv_icmp_le (tgt := 30) hx hb dX8_isLong_23 (by decide) (fun hc_4 => ?_) (fun hc_4 => ?_)
    · replace h := h.1 hc_4
      refine lv_iconst (v := 0) hx hb dX8_isLong_30 (by decide) ?_
      subst hQ
      exact W.zret (v := 0) hx hb hr (by rfl) (fun t ht hW => ⟨⟨_, (), rfl, h, by rw [ht]; exact hP, hD⟩, hS.F ht⟩) hS.2.2 dX8_isLong_31
    · replace h := h.2 hc_4
      refine lv_iconst (v := 1) hx hb dX8_isLong_26 (by decide) ?_
      refine lv_goto (tgt := 31) hx hb dX8_isLong_27 (by decide) ?_
      subst hQ
      exact W.zret (v := 1) hx hb hr (by rfl) (fun t ht hW => ⟨⟨_, (), rfl, h, by rw [ht]; exact hP, hD⟩, hS.F ht⟩) hS.2.2 dX8_isLong_31
abbrev rm_X8_lay : Room := { frames := 2, cells := 0, slots := 0, locals := 46 }
set_option maxHeartbeats 4000000 in
set_option maxRecDepth 100000 in
theorem c_X8_lay (l : Launch) (dC : Nat → ClassId) (dI : Nat → Nat → Nat) (a : Nat → Nat) (ca : Nat → ClassId) (sz : Nat) (u : Ob) (x1 : Int32) (post : Ob → Prop) (h : wp_X8_lay u x1 post) : Met l yX8_lay wsX8_lay rm_X8_lay (va_Pc [.ref (a 0), .int x1] (fun U => U.heap.size = sz ∧ va_P (dC, dI) vwCl (wd_X8 a ca u) U.heap ∧ va_K (dC, dI) vwCl (ty_X8 ca) U ∧ va_D (fun _ => True) (wd_X8 a ca u))) (va_Qv post (fun (zz : Ob) (t : State) => va_P (dC, dI) vwCl (wd_X8 a ca zz) t.heap ∧ va_D (va_A (wd_X8 a ca u) sz) (wd_X8 a ca zz)) (va_A (wd_X8 a ca u) sz)) 0 0 (va_A (wd_X8 a ca u) sz) := by
  refine fl_ofW (cc := cX8_lay) (maxL := 2) (ret := none) (by decide) rfl ?_
  intro p e s m args below meth c s₁ Q B hml hv hQ
  obtain ⟨hargs, hsz, hP, hK, hD0⟩ := hv
  have hx := B.exec
  have hb := B.bytes
  have hr := B.returns
  have hts := atoms_spec (ws := wsX8_lay) B.pre
  have hown : s.vm.findClass RX8 = some m.cls := findClass_of_methodNamed B.named
  subst hsz
  have hD := hD0.self (sz := s.heap.size)
  generalize hAe : va_A (wd_X8 a ca u) s.heap.size = A at hD hQ
  have hA : ∀ q : Nat, s.heap.size ≤ q → A q := fun q h => by rw [← hAe]; exact Or.inr h
  have hS : va_S A s.heap s.heap [] := va_S.rf
  have hl := lv_entry ([.ref (a 0), .int x1]) (n := 2) (Nat.le_of_ble_eq_true rfl)
  refine W.eq (g2 := F0 m 0 ((lg_sl ([.ref (a 0), .int x1]) ++ List.replicate (2 - (lg_sl ([.ref (a 0), .int x1])).length) Slot.unset).toArray) []) (by rw [hargs]; exact lg_entry_eq m _ 2) ?_
  generalize (lg_sl ([.ref (a 0), .int x1]) ++ List.replicate (2 - (lg_sl ([.ref (a 0), .int x1])).length) Slot.unset).toArray = ls at hl ⊢
  have hl : lv_has ls 2 [(0, .ref (a 0)), (1, .int x1)] := hl
  suffices hstart : ∀ (H : Heap) (locs : List Loc) (ls : Array Slot), va_P (dC, dI) vwCl (wd_X8 a ca u) H → va_D A (wd_X8 a ca u) → va_S A s.heap H locs → lv_has ls 2 [(0, .ref (a 0)), (1, .int x1)] → W p l e (headSpec wsX8_lay rm_X8_lay).room s m args below meth c H locs 0 0 Q (F0 m 0 ls []) from hstart _ _ _ hP hD hS hl
  clear hS hP hD hD0
  intro H locs ls hP hD hS hl
  have hin_X8 : ∀ w ∈ wsX80, w ∈ wsX8_lay := by decide +kernel
  have lk_0 := hts (.fieldLink RX8 39 "ForgettingLinesModel" "stateOf" "[I") (by decide +kernel)
  unfold wp_X8_lay at h
  refine lv_aload_n hx hb dX8_lay_0 rfl (lv_at hl 0 rfl) ?_
  refine va_get (D := (dC, dI)) (ci := 7) (v := .ref (a 14)) (C := RX8) (T := TX8) (N := 25) hx hb hts hin_X8 hown hK hP 0 rfl rfl 13 (by decide) lk_0 (fun _ h9 => h9) rfl dX8_lay_1 ?_
  refine lv_bipush (v := 80) hx hb dX8_lay_4 (by decide) ?_
  refine lv_iload_n hx hb dX8_lay_6 rfl (lv_at hl 1 rfl) ?_
  refine lv_sipush (v := 4096) hx hb dX8_lay_7 (by decide) ?_
  refine lv_idiv hx hb dX8_lay_10 (by decide) ?_
  obtain ⟨hi_1, h⟩ := h
  refine va_iast (D := (dC, dI)) (cl := vwCl) (i := 80) hx hb hK hP hD hS 9 8 rfl rfl hi_1 dX8_lay_11 (fun H locs hP hD hS => ?_)
  obtain ⟨u_2, eu_2⟩ : ∃ z : Ob, z = fs_a u 13 (upd (u.2.1 13) (80 : Int32).toNatClampNeg (x1 / 4096)) := ⟨_, rfl⟩
  replace h := h u_2 eu_2
  replace hP : va_P (dC, dI) vwCl (wd_X8 a ca u_2) H := by rw [eu_2]; exact hP
  replace hD : va_D A (wd_X8 a ca u_2) := by rw [eu_2]; exact hD
  refine lv_aload_n hx hb dX8_lay_12 rfl (lv_at hl 0 rfl) ?_
  refine lv_iload_n hx hb dX8_lay_13 rfl (lv_at hl 1 rfl) ?_
  refine lv_bipush (v := 64) hx hb dX8_lay_14 (by decide) ?_
  refine lv_idiv hx hb dX8_lay_16 (by decide) ?_
  refine lv_bipush (v := 64) hx hb dX8_lay_17 (by decide) ?_
  refine lv_irem hx hb dX8_lay_19 (by decide) ?_
  refine W.eq (g2 := F0 m 20 ls [.int (j_rem (x1 / 64) 64), .ref (a 0)]) rfl ?_
  refine lv_bipush (v := 80) hx hb dX8_lay_20 (by decide) ?_
  refine lv_iconst (v := 0) hx hb dX8_lay_22 (by decide) ?_
  have hPc := hP
  have hDc := hD
  have hKc := hK
  have hFc := va_free (wc := (wd_X8 a ca u_2)) hD hS hA [0, 1, 2, 3, 4, 5, 6, 7, 8, 9, 10, 11, 12, 13, 14, 15, 16, 17, 18, 19] rfl
  refine va_callv (va_runV (As := [.int (j_rem (x1 / 64) 64), .int 80, .int 0]) (rest := []) ⟨hx, hb, hml, hown, hts⟩ (c_X8_decode l dC dI a ca H.size u_2 (j_rem (x1 / 64) 64) 80 0 _ h) (cwV 3 hts gX8_lay_X8_decode rfl rfl rfl (by decide +kernel) ⟨Nat.le_of_ble_eq_true rfl, Nat.le_of_ble_eq_true rfl⟩) ⟨fun a U g mk q => by obtain ⟨q0, q1, qP, qK, qD⟩ := q; exact ⟨q0, q1, qP, va_K.moved (u := U) (U := U.calling g mk a) (Vm.Alike.refl U.vm) qK, qD⟩, va_recv hKc hPc (ci := 7) (q0 := 0) rfl rfl, fun U hU hW => ⟨rfl, by rw [hU], by rw [hU]; exact hPc, va_K.moved hW.alike hKc, hDc.weaken (fun _ _ _ _ => trivial)⟩⟩ rfl rfl hl.1 rfl (lv_room (Nat.le_of_ble_eq_true rfl)) dX8_lay_23 ⟨Nat.zero_le _, Nat.zero_le _⟩) hS (fun q _ h => hFc q h) hFc (fun zz t H1 locs ht hvm hw hB hz1 hk1 hS => ?_)
  obtain ⟨u_3, rfl⟩ : ∃ z, z = zz := ⟨_, rfl⟩
  replace h := hw
  obtain ⟨hP1, hD1⟩ := hB
  rw [ht] at hP1
  replace hD : va_D A (wd_X8 a ca u_3) := hD1.weaken (fun _ _ _ h9 => hFc _ h9)
  replace hP : va_P (dC, dI) vwCl (wd_X8 a ca u_3) H1 := hP1
  generalize H1 = H at hP hS ⊢
  refine lv_aload_n hx hb dX8_lay_26 rfl (lv_at hl 0 rfl) ?_
  refine lv_iload_n hx hb dX8_lay_27 rfl (lv_at hl 1 rfl) ?_
  refine lv_bipush (v := 64) hx hb dX8_lay_28 (by decide) ?_
  refine lv_irem hx hb dX8_lay_30 (by decide) ?_
  refine W.eq (g2 := F0 m 31 ls [.int (j_rem x1 64), .ref (a 0)]) rfl ?_
  refine lv_bipush (v := 80) hx hb dX8_lay_31 (by decide) ?_
  refine lv_iconst (v := 1) hx hb dX8_lay_33 (by decide) ?_
  have hPc := hP
  have hDc := hD
  have hKc := hK
  have hFc := va_free (wc := (wd_X8 a ca u_3)) hD hS hA [0, 1, 2, 3, 4, 5, 6, 7, 8, 9, 10, 11, 12, 13, 14, 15, 16, 17, 18, 19] rfl
  refine va_callv (va_runV (As := [.int (j_rem x1 64), .int 80, .int 1]) (rest := []) ⟨hx, hb, hml, hown, hts⟩ (c_X8_decode l dC dI a ca H.size u_3 (j_rem x1 64) 80 1 _ h) (cwV 3 hts gX8_lay_X8_decode rfl rfl rfl (by decide +kernel) ⟨Nat.le_of_ble_eq_true rfl, Nat.le_of_ble_eq_true rfl⟩) ⟨fun a U g mk q => by obtain ⟨q0, q1, qP, qK, qD⟩ := q; exact ⟨q0, q1, qP, va_K.moved (u := U) (U := U.calling g mk a) (Vm.Alike.refl U.vm) qK, qD⟩, va_recv hKc hPc (ci := 7) (q0 := 0) rfl rfl, fun U hU hW => ⟨rfl, by rw [hU], by rw [hU]; exact hPc, va_K.moved hW.alike hKc, hDc.weaken (fun _ _ _ _ => trivial)⟩⟩ rfl rfl hl.1 rfl (lv_room (Nat.le_of_ble_eq_true rfl)) dX8_lay_34 ⟨Nat.zero_le _, Nat.zero_le _⟩) hS (fun q _ h => hFc q h) hFc (fun zz t H1 locs ht hvm hw hB hz1 hk1 hS => ?_)
  obtain ⟨u_4, rfl⟩ : ∃ z, z = zz := ⟨_, rfl⟩
  replace h := hw
  obtain ⟨hP1, hD1⟩ := hB
  rw [ht] at hP1
  replace hD : va_D A (wd_X8 a ca u_4) := hD1.weaken (fun _ _ _ h9 => hFc _ h9)
  replace hP : va_P (dC, dI) vwCl (wd_X8 a ca u_4) H1 := hP1
  generalize H1 = H at hP hS ⊢
  subst hQ
  exact W.vret hx hb hr (fun t ht hW => ⟨⟨u_4, rfl, h, by rw [ht]; exact hP, hD⟩, hS.F ht⟩) hS.2.2 dX8_lay_37
abbrev rm_X8_strict : Room := { frames := 3, cells := 0, slots := 0, locals := 72 }
set_option maxHeartbeats 4000000 in
set_option maxRecDepth 100000 in
theorem c_X8_strict (l : Launch) (dC : Nat → ClassId) (dI : Nat → Nat → Nat) (a : Nat → Nat) (ca : Nat → ClassId) (sz : Nat) (u : Ob) (x1 : Int32) (post : Int32 → Ob → Prop) (h : wp_X8_strict u x1 post) : Met l yX8_strict wsX8_strict rm_X8_strict (va_Pc [.ref (a 0), .int x1] (fun U => U.heap.size = sz ∧ va_P (dC, dI) vwCl (wd_X8 a ca u) U.heap ∧ va_K (dC, dI) vwCl (ty_X8 ca) U ∧ va_D (fun _ => True) (wd_X8 a ca u))) (va_Qi post (fun (zz : Ob) (t : State) => va_P (dC, dI) vwCl (wd_X8 a ca zz) t.heap ∧ va_D (va_A (wd_X8 a ca u) sz) (wd_X8 a ca zz)) (va_A (wd_X8 a ca u) sz)) 0 0 (va_A (wd_X8 a ca u) sz) := by
  refine fl_ofW (cc := cX8_strict) (maxL := 6) (ret := (some .int)) (by decide) rfl ?_
  intro p e s m args below meth c s₁ Q B hml hv hQ
  obtain ⟨hargs, hsz, hP, hK, hD0⟩ := hv
  have hx := B.exec
  have hb := B.bytes
  have hr := B.returns
  have hts := atoms_spec (ws := wsX8_strict) B.pre
  have hown : s.vm.findClass RX8 = some m.cls := findClass_of_methodNamed B.named
  subst hsz
  have hD := hD0.self (sz := s.heap.size)
  generalize hAe : va_A (wd_X8 a ca u) s.heap.size = A at hD hQ
  have hA : ∀ q : Nat, s.heap.size ≤ q → A q := fun q h => by rw [← hAe]; exact Or.inr h
  have hS : va_S A s.heap s.heap [] := va_S.rf
  have hl := lv_entry ([.ref (a 0), .int x1]) (n := 6) (Nat.le_of_ble_eq_true rfl)
  refine W.eq (g2 := F0 m 0 ((lg_sl ([.ref (a 0), .int x1]) ++ List.replicate (6 - (lg_sl ([.ref (a 0), .int x1])).length) Slot.unset).toArray) []) (by rw [hargs]; exact lg_entry_eq m _ 6) ?_
  generalize (lg_sl ([.ref (a 0), .int x1]) ++ List.replicate (6 - (lg_sl ([.ref (a 0), .int x1])).length) Slot.unset).toArray = ls at hl ⊢
  have hl : lv_has ls 6 [(0, .ref (a 0)), (1, .int x1)] := hl
  suffices hstart : ∀ (H : Heap) (locs : List Loc) (ls : Array Slot), va_P (dC, dI) vwCl (wd_X8 a ca u) H → va_D A (wd_X8 a ca u) → va_S A s.heap H locs → lv_has ls 6 [(0, .ref (a 0)), (1, .int x1)] → W p l e (headSpec wsX8_strict rm_X8_strict).room s m args below meth c H locs 0 0 Q (F0 m 0 ls []) from hstart _ _ _ hP hD hS hl
  clear hS hP hD hD0
  intro H locs ls hP hD hS hl
  have hin_X8 : ∀ w ∈ wsX80, w ∈ wsX8_strict := by decide +kernel
  have lk_0 := hts (.constant RX8 57 32768) (by decide +kernel)
  have lk_1 := hts (.fieldLink RX8 58 "ForgettingLinesModel" "queue" "[I") (by decide +kernel)
  have lk_2 := hts (.fieldLink RX8 61 "ForgettingLinesModel" "steps" "[I") (by decide +kernel)
  have lk_3 := hts (.fieldLink RX8 77 "ForgettingLinesModel" "arcs" "I") (by decide +kernel)
  unfold wp_X8_strict at h
  refine lv_iload_n hx hb dX8_strict_0 rfl (lv_at hl 1 rfl) ?_
  refine lv_iconst (v := 0) hx hb dX8_strict_1 (by decide) ?_
  refine lv_iconst (v := 3) hx hb dX8_strict_2 (by decide) ?_
  have hFc := fl_freeN hS hA
  refine va_calli (va_runS (As := [.int x1, .int 0, .int 3]) (rest := []) ⟨hx, hb, hml, hown, hts⟩ (c_X8_in l H.size x1 0 3 _ h) (va_cwS 3 hts gX8_strict_X8_in rfl rfl rfl (by decide +kernel) ⟨Nat.le_of_ble_eq_true rfl, Nat.le_of_ble_eq_true rfl⟩) ⟨fun a U g mk q => by obtain ⟨q0, q1⟩ := q; exact ⟨q0, q1⟩, fun U hU hW => ⟨rfl, congrArg Array.size hU⟩⟩ rfl rfl hl.1 rfl (lv_room (Nat.le_of_ble_eq_true rfl)) dX8_strict_3 ⟨Nat.zero_le _, Nat.zero_le _⟩) hS (fun q _ h => hFc q h) hFc (fun r_1 zz t H1 locs ht hvm hw hB hz1 hk1 hS => ?_)
  replace hP := fl_keep hP hk1
  replace h := hw
  generalize H1 = H at hP hS ⊢
  refine lv_if_ne (tgt := 11) hx hb dX8_strict_6 (by decide) (fun hc_2 => ?_) (fun hc_2 => ?_)
  · replace h := h.1 hc_2
    refine lv_aload_n hx hb dX8_strict_11 rfl (lv_at hl 0 rfl) ?_
    refine lv_bipush (v := 82) hx hb dX8_strict_12 (by decide) ?_
    refine lv_iload_n hx hb dX8_strict_14 rfl (lv_at hl 1 rfl) ?_
    have hPc := hP
    have hDc := hD
    have hKc := hK
    have hFc := va_free (wc := (wd_X8 a ca u)) hD hS hA [0, 1, 2, 3, 4, 5, 6, 7, 8, 9, 10, 11, 12, 13, 14, 15, 16, 17, 18, 19] rfl
    refine va_calli (va_runV (As := [.int 82, .int x1]) (rest := []) ⟨hx, hb, hml, hown, hts⟩ (c_X8_isLong l dC dI a ca H.size u 82 x1 _ h) (cwV 2 hts gX8_strict_X8_isLong rfl rfl rfl (by decide +kernel) ⟨Nat.le_of_ble_eq_true rfl, Nat.le_of_ble_eq_true rfl⟩) ⟨fun a U g mk q => by obtain ⟨q0, q1, qP, qK, qD⟩ := q; exact ⟨q0, q1, qP, va_K.moved (u := U) (U := U.calling g mk a) (Vm.Alike.refl U.vm) qK, qD⟩, va_recv hKc hPc (ci := 7) (q0 := 0) rfl rfl, fun U hU hW => ⟨rfl, by rw [hU], by rw [hU]; exact hPc, va_K.moved hW.alike hKc, hDc.weaken (fun _ _ _ _ => trivial)⟩⟩ rfl rfl hl.1 rfl (lv_room (Nat.le_of_ble_eq_true rfl)) dX8_strict_15 ⟨Nat.zero_le _, Nat.zero_le _⟩) hS (fun q _ h => hFc q h) hFc (fun r_3 zz t H1 locs ht hvm hw hB hz1 hk1 hS => ?_)
    replace h := hw
    obtain ⟨hP1, hD1⟩ := hB
    rw [ht] at hP1
    replace hD : va_D A (wd_X8 a ca u) := hD1.weaken (fun _ _ _ h9 => hFc _ h9)
    replace hP : va_P (dC, dI) vwCl (wd_X8 a ca u) H1 := hP1
    generalize H1 = H at hP hS ⊢
    refine lv_if_ne (tgt := 31) hx hb dX8_strict_18 (by decide) (fun hc_4 => ?_) (fun hc_4 => ?_)
    · replace h := h.1 hc_4
      refine lv_bipush (v := (-2)) hx hb dX8_strict_31 (by decide) ?_
      subst hQ
      exact W.iret (v := (-2)) hx hb hr (fun t ht hW => ⟨⟨_, u, rfl, h, by rw [ht]; exact hP, hD⟩, hS.F ht⟩) hS.2.2 dX8_strict_33
    · replace h := h.2 hc_4
      refine lv_aload_n hx hb dX8_strict_21 rfl (lv_at hl 0 rfl) ?_
      refine lv_bipush (v := 81) hx hb dX8_strict_22 (by decide) ?_
      refine lv_iload_n hx hb dX8_strict_24 rfl (lv_at hl 1 rfl) ?_
      have hPc := hP
      have hDc := hD
      have hKc := hK
      have hFc := va_free (wc := (wd_X8 a ca u)) hD hS hA [0, 1, 2, 3, 4, 5, 6, 7, 8, 9, 10, 11, 12, 13, 14, 15, 16, 17, 18, 19] rfl
      refine va_calli (va_runV (As := [.int 81, .int x1]) (rest := []) ⟨hx, hb, hml, hown, hts⟩ (c_X8_isLong l dC dI a ca H.size u 81 x1 _ h) (cwV 2 hts gX8_strict_X8_isLong rfl rfl rfl (by decide +kernel) ⟨Nat.le_of_ble_eq_true rfl, Nat.le_of_ble_eq_true rfl⟩) ⟨fun a U g mk q => by obtain ⟨q0, q1, qP, qK, qD⟩ := q; exact ⟨q0, q1, qP, va_K.moved (u := U) (U := U.calling g mk a) (Vm.Alike.refl U.vm) qK, qD⟩, va_recv hKc hPc (ci := 7) (q0 := 0) rfl rfl, fun U hU hW => ⟨rfl, by rw [hU], by rw [hU]; exact hPc, va_K.moved hW.alike hKc, hDc.weaken (fun _ _ _ _ => trivial)⟩⟩ rfl rfl hl.1 rfl (lv_room (Nat.le_of_ble_eq_true rfl)) dX8_strict_25 ⟨Nat.zero_le _, Nat.zero_le _⟩) hS (fun q _ h => hFc q h) hFc (fun r_5 zz t H1 locs ht hvm hw hB hz1 hk1 hS => ?_)
      replace h := hw
      obtain ⟨hP1, hD1⟩ := hB
      rw [ht] at hP1
      replace hD : va_D A (wd_X8 a ca u) := hD1.weaken (fun _ _ _ h9 => hFc _ h9)
      replace hP : va_P (dC, dI) vwCl (wd_X8 a ca u) H1 := hP1
      generalize H1 = H at hP hS ⊢
      refine lv_if_eq (tgt := 34) hx hb dX8_strict_28 (by decide) (fun hc_6 => ?_) (fun hc_6 => ?_)
      · replace h := h.1 hc_6
        refine lv_iconst (v := 0) hx hb dX8_strict_34 (by decide) ?_
        refine lv_istore_n (lv' := [(2, .int 0), (0, .ref (a 0)), (1, .int x1)]) hx hb dX8_strict_35 rfl hl (by decide) rfl (fun ls hl => ?_)
        obtain ⟨n_54, h⟩ := h
        refine lq2_ind (GG := (fun (v2_8 : Int32) (u_9 : Ob) => ∀ (H : Heap) (locs : List Loc) (ls : Array Slot), va_P (dC, dI) vwCl (wd_X8 a ca u_9) H → va_D A (wd_X8 a ca u_9) → va_S A s.heap H locs → lv_has ls 6 [(2, .int v2_8), (0, .ref (a 0)), (1, .int x1)] → W p l e (headSpec wsX8_strict rm_X8_strict).room s m args below meth c H locs 0 0 Q (F0 m 36 ls []))) (fun LL_7 ih_LL_7 v2_8 u_9 h H locs ls hP hD hS hl => ?_) n_54 _ _ h _ _ _ hP hD hS (lv_sub hl [0, 1, 2] rfl)
        refine lv_iload_n hx hb dX8_strict_36 rfl (lv_at hl 0 rfl) ?_
        refine lv_ldc hx hb hown lk_0 dX8_strict_37 ?_
        refine lv_icmp_ge (tgt := 55) hx hb dX8_strict_39 (by decide) (fun hc_10 => ?_) (fun hc_10 => ?_)
        · replace h := h.1 hc_10
          refine lv_aload_n hx hb dX8_strict_55 rfl (lv_at hl 1 rfl) ?_
          refine va_get (D := (dC, dI)) (ci := 7) (v := .ref (a 21)) (C := RX8) (T := TX8) (N := 25) hx hb hts hin_X8 hown hK hP 0 rfl rfl 20 (by decide) lk_1 (fun _ h9 => h9) rfl dX8_strict_56 ?_
          refine lv_iconst (v := 0) hx hb dX8_strict_59 (by decide) ?_
          refine lv_aload_n hx hb dX8_strict_60 rfl (lv_at hl 1 rfl) ?_
          refine lv_bipush (v := 82) hx hb dX8_strict_61 (by decide) ?_
          have hPc := hP
          have hDc := hD
          have hKc := hK
          have hFc := va_free (wc := (wd_X8 a ca u_9)) hD hS hA [0, 1, 2, 3, 4, 5, 6, 7, 8, 9, 10, 11, 12, 13, 14, 15, 16, 17, 18, 19] rfl
          refine va_calli (va_runV (As := [.int 82]) (rest := [.int 0, .ref (a 21)]) ⟨hx, hb, hml, hown, hts⟩ (c_X8_wholeCode l dC dI a ca H.size u_9 82 _ h) (cwV 1 hts gX8_strict_X8_wholeCode rfl rfl rfl (by decide +kernel) ⟨Nat.le_of_ble_eq_true rfl, Nat.le_of_ble_eq_true rfl⟩) ⟨fun a U g mk q => by obtain ⟨q0, q1, qP, qK, qD⟩ := q; exact ⟨q0, q1, qP, va_K.moved (u := U) (U := U.calling g mk a) (Vm.Alike.refl U.vm) qK, qD⟩, va_recv hKc hPc (ci := 7) (q0 := 0) rfl rfl, fun U hU hW => ⟨rfl, by rw [hU], by rw [hU]; exact hPc, va_K.moved hW.alike hKc, hDc.weaken (fun _ _ _ _ => trivial)⟩⟩ rfl rfl hl.1 rfl (lv_room (Nat.le_of_ble_eq_true rfl)) dX8_strict_63 ⟨Nat.zero_le _, Nat.zero_le _⟩) hS (fun q _ h => hFc q h) hFc (fun r_11 zz t H1 locs ht hvm hw hB hz1 hk1 hS => ?_)
          replace h := hw
          obtain ⟨hP1, hD1⟩ := hB
          rw [ht] at hP1
          replace hD : va_D A (wd_X8 a ca u_9) := hD1.weaken (fun _ _ _ h9 => hFc _ h9)
          replace hP : va_P (dC, dI) vwCl (wd_X8 a ca u_9) H1 := hP1
          generalize H1 = H at hP hS ⊢
          obtain ⟨hi_12, h⟩ := h
          refine va_iast (D := (dC, dI)) (cl := vwCl) (i := 0) hx hb hK hP hD hS 15 14 rfl rfl hi_12 dX8_strict_66 (fun H locs hP hD hS => ?_)
          obtain ⟨u_13, eu_13⟩ : ∃ z : Ob, z = fs_a u_9 20 (upd (u_9.2.1 20) (0 : Int32).toNatClampNeg r_11) := ⟨_, rfl⟩
          replace h := h u_13 eu_13
          replace hP : va_P (dC, dI) vwCl (wd_X8 a ca u_13) H := by rw [eu_13]; exact hP
          replace hD : va_D A (wd_X8 a ca u_13) := by rw [eu_13]; exact hD
          refine lv_aload_n hx hb dX8_strict_67 rfl (lv_at hl 1 rfl) ?_
          refine va_get (D := (dC, dI)) (ci := 7) (v := .ref (a 22)) (C := RX8) (T := TX8) (N := 25) hx hb hts hin_X8 hown hK hP 0 rfl rfl 21 (by decide) lk_2 (fun _ h9 => h9) rfl dX8_strict_68 ?_
          refine lv_aload_n hx hb dX8_strict_71 rfl (lv_at hl 1 rfl) ?_
          refine va_get (D := (dC, dI)) (ci := 7) (v := .ref (a 21)) (C := RX8) (T := TX8) (N := 25) hx hb hts hin_X8 hown hK hP 0 rfl rfl 20 (by decide) lk_1 (fun _ h9 => h9) rfl dX8_strict_72 ?_
          refine lv_iconst (v := 0) hx hb dX8_strict_75 (by decide) ?_
          obtain ⟨hi_14, h⟩ := h
          refine va_iald (D := (dC, dI)) (cl := vwCl) (i := 0) hx hb hK hP 15 14 rfl rfl hi_14 dX8_strict_76 ?_
          refine lv_iconst (v := 0) hx hb dX8_strict_77 (by decide) ?_
          obtain ⟨hi_15, h⟩ := h
          refine va_iast (D := (dC, dI)) (cl := vwCl) (i := (u_13.2.1 20 (0 : Int32).toNatClampNeg)) hx hb hK hP hD hS 16 15 rfl rfl hi_15 dX8_strict_78 (fun H locs hP hD hS => ?_)
          obtain ⟨u_16, eu_16⟩ : ∃ z : Ob, z = fs_a u_13 21 (upd (u_13.2.1 21) (u_13.2.1 20 (0 : Int32).toNatClampNeg).toNatClampNeg 0) := ⟨_, rfl⟩
          replace h := h u_16 eu_16
          replace hP : va_P (dC, dI) vwCl (wd_X8 a ca u_16) H := by rw [eu_16]; exact hP
          replace hD : va_D A (wd_X8 a ca u_16) := by rw [eu_16]; exact hD
          refine lv_iconst (v := 1) hx hb dX8_strict_79 (by decide) ?_
          refine lv_istore_n (lv' := [(2, .int 1), (0, .ref (a 0)), (1, .int x1)]) hx hb dX8_strict_80 rfl hl (by decide) rfl (fun ls hl => ?_)
          refine lv_iconst (v := 0) hx hb dX8_strict_81 (by decide) ?_
          refine lv_istore_n (lv' := [(3, .int 0), (2, .int 1), (0, .ref (a 0)), (1, .int x1)]) hx hb dX8_strict_82 rfl hl (by decide) rfl (fun ls hl => ?_)
          obtain ⟨n_51, h⟩ := h
          refine lq3_ind (GG := (fun (v3_18 : Int32) (v2_19 : Int32) (u_20 : Ob) => ∀ (H : Heap) (locs : List Loc) (ls : Array Slot), va_P (dC, dI) vwCl (wd_X8 a ca u_20) H → va_D A (wd_X8 a ca u_20) → va_S A s.heap H locs → lv_has ls 6 [(3, .int v3_18), (2, .int v2_19), (0, .ref (a 0)), (1, .int x1)] → W p l e (headSpec wsX8_strict rm_X8_strict).room s m args below meth c H locs 0 0 Q (F0 m 83 ls []))) (fun LL_17 ih_LL_17 v3_18 v2_19 u_20 h H locs ls hP hD hS hl => ?_) n_51 _ _ _ h _ _ _ hP hD hS (lv_sub hl [0, 1, 2, 3] rfl)
          refine lv_iload_n hx hb dX8_strict_83 rfl (lv_at hl 0 rfl) ?_
          refine lv_iload_n hx hb dX8_strict_84 rfl (lv_at hl 1 rfl) ?_
          refine lv_icmp_ge (tgt := 223) hx hb dX8_strict_85 (by decide) (fun hc_21 => ?_) (fun hc_21 => ?_)
          · replace h := h.1 hc_21
            refine lv_bipush (v := (-4)) hx hb dX8_strict_223 (by decide) ?_
            subst hQ
            exact W.iret (v := (-4)) hx hb hr (fun t ht hW => ⟨⟨_, u_20, rfl, h, by rw [ht]; exact hP, hD⟩, hS.F ht⟩) hS.2.2 dX8_strict_225
          · replace h := h.2 hc_21
            refine lv_aload_n hx hb dX8_strict_88 rfl (lv_at hl 2 rfl) ?_
            refine lv_aload_n hx hb dX8_strict_89 rfl (lv_at hl 2 rfl) ?_
            refine va_get (D := (dC, dI)) (ci := 7) (v := .ref (a 21)) (C := RX8) (T := TX8) (N := 25) hx hb hts hin_X8 hown hK hP 0 rfl rfl 20 (by decide) lk_1 (fun _ h9 => h9) rfl dX8_strict_90 ?_
            refine lv_iload_n hx hb dX8_strict_93 rfl (lv_at hl 0 rfl) ?_
            obtain ⟨hi_22, h⟩ := h
            refine va_iald (D := (dC, dI)) (cl := vwCl) (i := v3_18) hx hb hK hP 15 14 rfl rfl hi_22 dX8_strict_94 ?_
            have hPc := hP
            have hDc := hD
            have hKc := hK
            have hFc := va_free (wc := (wd_X8 a ca u_20)) hD hS hA [0, 1, 2, 3, 4, 5, 6, 7, 8, 9, 10, 11, 12, 13, 14, 15, 16, 17, 18, 19] rfl
            refine va_callv (va_runV (As := [.int (u_20.2.1 20 v3_18.toNatClampNeg)]) (rest := []) ⟨hx, hb, hml, hown, hts⟩ (c_X8_lay l dC dI a ca H.size u_20 (u_20.2.1 20 v3_18.toNatClampNeg) _ h) (cwV 1 hts gX8_strict_X8_lay rfl rfl rfl (by decide +kernel) ⟨Nat.le_of_ble_eq_true rfl, Nat.le_of_ble_eq_true rfl⟩) ⟨fun a U g mk q => by obtain ⟨q0, q1, qP, qK, qD⟩ := q; exact ⟨q0, q1, qP, va_K.moved (u := U) (U := U.calling g mk a) (Vm.Alike.refl U.vm) qK, qD⟩, va_recv hKc hPc (ci := 7) (q0 := 0) rfl rfl, fun U hU hW => ⟨rfl, by rw [hU], by rw [hU]; exact hPc, va_K.moved hW.alike hKc, hDc.weaken (fun _ _ _ _ => trivial)⟩⟩ rfl rfl hl.1 rfl (lv_room (Nat.le_of_ble_eq_true rfl)) dX8_strict_95 ⟨Nat.zero_le _, Nat.zero_le _⟩) hS (fun q _ h => hFc q h) hFc (fun zz t H1 locs ht hvm hw hB hz1 hk1 hS => ?_)
            obtain ⟨u_23, rfl⟩ : ∃ z, z = zz := ⟨_, rfl⟩
            replace h := hw
            obtain ⟨hP1, hD1⟩ := hB
            rw [ht] at hP1
            replace hD : va_D A (wd_X8 a ca u_23) := hD1.weaken (fun _ _ _ h9 => hFc _ h9)
            replace hP : va_P (dC, dI) vwCl (wd_X8 a ca u_23) H1 := hP1
            generalize H1 = H at hP hS ⊢
            refine lv_aload_n hx hb dX8_strict_98 rfl (lv_at hl 2 rfl) ?_
            refine lv_bipush (v := 81) hx hb dX8_strict_99 (by decide) ?_
            refine lv_bipush (v := 80) hx hb dX8_strict_101 (by decide) ?_
            have hPc := hP
            have hDc := hD
            have hKc := hK
            have hFc := va_free (wc := (wd_X8 a ca u_23)) hD hS hA [0, 1, 2, 3, 4, 5, 6, 7, 8, 9, 10, 11, 12, 13, 14, 15, 16, 17, 18, 19] rfl
            refine va_calli (va_runV (As := [.int 81, .int 80]) (rest := []) ⟨hx, hb, hml, hown, hts⟩ (c_X8_isBelow l dC dI a ca H.size u_23 81 80 _ h) (cwV 2 hts gX8_strict_X8_isBelow rfl rfl rfl (by decide +kernel) ⟨Nat.le_of_ble_eq_true rfl, Nat.le_of_ble_eq_true rfl⟩) ⟨fun a U g mk q => by obtain ⟨q0, q1, qP, qK, qD⟩ := q; exact ⟨q0, q1, qP, va_K.moved (u := U) (U := U.calling g mk a) (Vm.Alike.refl U.vm) qK, qD⟩, va_recv hKc hPc (ci := 7) (q0 := 0) rfl rfl, fun U hU hW => ⟨rfl, by rw [hU], by rw [hU]; exact hPc, va_K.moved hW.alike hKc, hDc.weaken (fun _ _ _ _ => trivial)⟩⟩ rfl rfl hl.1 rfl (lv_room (Nat.le_of_ble_eq_true rfl)) dX8_strict_103 ⟨Nat.zero_le _, Nat.zero_le _⟩) hS (fun q _ h => hFc q h) hFc (fun r_24 zz t H1 locs ht hvm hw hB hz1 hk1 hS => ?_)
            replace h := hw
            obtain ⟨hP1, hD1⟩ := hB
            rw [ht] at hP1
            replace hD : va_D A (wd_X8 a ca u_23) := hD1.weaken (fun _ _ _ h9 => hFc _ h9)
            replace hP : va_P (dC, dI) vwCl (wd_X8 a ca u_23) H1 := hP1
            generalize H1 = H at hP hS ⊢
            refine lv_if_eq (tgt := 121) hx hb dX8_strict_106 (by decide) (fun hc_25 => ?_) (fun hc_25 => ?_)
            · replace h := h.1 hc_25
              refine lv_iconst (v := 0) hx hb dX8_strict_121 (by decide) ?_
              refine lv_istore (lv' := [(4, .int 0), (3, .int v3_18), (2, .int v2_19), (0, .ref (a 0)), (1, .int x1)]) hx hb dX8_strict_122 hl (by decide) rfl (fun ls hl => ?_)
              obtain ⟨n_48, h⟩ := h
              refine lq3_ind (GG := (fun (v4_27 : Int32) (v2_28 : Int32) (u_29 : Ob) => ∀ (H : Heap) (locs : List Loc) (ls : Array Slot), va_P (dC, dI) vwCl (wd_X8 a ca u_29) H → va_D A (wd_X8 a ca u_29) → va_S A s.heap H locs → lv_has ls 6 [(4, .int v4_27), (3, .int v3_18), (2, .int v2_28), (0, .ref (a 0)), (1, .int x1)] → W p l e (headSpec wsX8_strict rm_X8_strict).room s m args below meth c H locs 0 0 Q (F0 m 124 ls []))) (fun LL_26 ih_LL_26 v4_27 v2_28 u_29 h H locs ls hP hD hS hl => ?_) n_48 _ _ _ h _ _ _ hP hD hS (lv_sub hl [0, 1, 2, 3, 4] rfl)
              refine lv_iload hx hb dX8_strict_124 (lv_at hl 0 rfl) ?_
              refine lv_aload_n hx hb dX8_strict_126 rfl (lv_at hl 3 rfl) ?_
              refine va_get (D := (dC, dI)) (ci := 7) (v := .int (u_29.1 2)) (C := RX8) (T := TX8) (N := 25) hx hb hts hin_X8 hown hK hP 0 rfl rfl 2 (by decide) lk_3 (fun _ h9 => h9) rfl dX8_strict_127 ?_
              refine lv_icmp_ge (tgt := 217) hx hb dX8_strict_130 (by decide) (fun hc_30 => ?_) (fun hc_30 => ?_)
              · replace h := h.1 hc_30
                refine lv_iinc (v := (v3_18 + 1)) (lv' := [(3, .int (v3_18 + 1)), (4, .int v4_27), (2, .int v2_28), (0, .ref (a 0)), (1, .int x1)]) hx hb dX8_strict_217 hl (k := 1) rfl rfl (by decide) rfl (fun ls hl => ?_)
                refine lv_goto (tgt := 83) hx hb dX8_strict_220 (by decide) ?_
                exact ih_LL_17 _ _ _ h _ _ _ hP hD hS (lv_sub hl [0, 2, 3, 4] rfl)
              · replace h := h.2 hc_30
                refine lv_aload_n hx hb dX8_strict_133 rfl (lv_at hl 3 rfl) ?_
                refine lv_aload_n hx hb dX8_strict_134 rfl (lv_at hl 3 rfl) ?_
                refine va_get (D := (dC, dI)) (ci := 7) (v := .ref (a 21)) (C := RX8) (T := TX8) (N := 25) hx hb hts hin_X8 hown hK hP 0 rfl rfl 20 (by decide) lk_1 (fun _ h9 => h9) rfl dX8_strict_135 ?_
                refine lv_iload_n hx hb dX8_strict_138 rfl (lv_at hl 1 rfl) ?_
                obtain ⟨hi_31, h⟩ := h
                refine va_iald (D := (dC, dI)) (cl := vwCl) (i := v3_18) hx hb hK hP 15 14 rfl rfl hi_31 dX8_strict_139 ?_
                have hPc := hP
                have hDc := hD
                have hKc := hK
                have hFc := va_free (wc := (wd_X8 a ca u_29)) hD hS hA [0, 1, 2, 3, 4, 5, 6, 7, 8, 9, 10, 11, 12, 13, 14, 15, 16, 17, 18, 19] rfl
                refine va_callv (va_runV (As := [.int (u_29.2.1 20 v3_18.toNatClampNeg)]) (rest := []) ⟨hx, hb, hml, hown, hts⟩ (c_X8_lay l dC dI a ca H.size u_29 (u_29.2.1 20 v3_18.toNatClampNeg) _ h) (cwV 1 hts gX8_strict_X8_lay rfl rfl rfl (by decide +kernel) ⟨Nat.le_of_ble_eq_true rfl, Nat.le_of_ble_eq_true rfl⟩) ⟨fun a U g mk q => by obtain ⟨q0, q1, qP, qK, qD⟩ := q; exact ⟨q0, q1, qP, va_K.moved (u := U) (U := U.calling g mk a) (Vm.Alike.refl U.vm) qK, qD⟩, va_recv hKc hPc (ci := 7) (q0 := 0) rfl rfl, fun U hU hW => ⟨rfl, by rw [hU], by rw [hU]; exact hPc, va_K.moved hW.alike hKc, hDc.weaken (fun _ _ _ _ => trivial)⟩⟩ rfl rfl hl.1 rfl (lv_room (Nat.le_of_ble_eq_true rfl)) dX8_strict_140 ⟨Nat.zero_le _, Nat.zero_le _⟩) hS (fun q _ h => hFc q h) hFc (fun zz t H1 locs ht hvm hw hB hz1 hk1 hS => ?_)
                obtain ⟨u_32, rfl⟩ : ∃ z, z = zz := ⟨_, rfl⟩
                replace h := hw
                obtain ⟨hP1, hD1⟩ := hB
                rw [ht] at hP1
                replace hD : va_D A (wd_X8 a ca u_32) := hD1.weaken (fun _ _ _ h9 => hFc _ h9)
                replace hP : va_P (dC, dI) vwCl (wd_X8 a ca u_32) H1 := hP1
                generalize H1 = H at hP hS ⊢
                refine lv_aload_n hx hb dX8_strict_143 rfl (lv_at hl 3 rfl) ?_
                refine lv_iload hx hb dX8_strict_144 (lv_at hl 0 rfl) ?_
                refine lv_iload_n hx hb dX8_strict_146 rfl (lv_at hl 4 rfl) ?_
                have hPc := hP
                have hDc := hD
                have hKc := hK
                have hFc := va_free (wc := (wd_X8 a ca u_32)) hD hS hA [0, 1, 2, 3, 4, 5, 6, 7, 8, 9, 10, 11, 12, 13, 14, 15, 16, 17, 18, 19] rfl
                refine va_calli (va_runV (As := [.int v4_27, .int x1]) (rest := []) ⟨hx, hb, hml, hown, hts⟩ (c_X8_goes l dC dI a ca H.size u_32 v4_27 x1 _ h) (cwV 2 hts gX8_strict_X8_goes rfl rfl rfl (by decide +kernel) ⟨Nat.le_of_ble_eq_true rfl, Nat.le_of_ble_eq_true rfl⟩) ⟨fun a U g mk q => by obtain ⟨q0, q1, qP, qK, qD⟩ := q; exact ⟨q0, q1, qP, va_K.moved (u := U) (U := U.calling g mk a) (Vm.Alike.refl U.vm) qK, qD⟩, va_recv hKc hPc (ci := 7) (q0 := 0) rfl rfl, fun U hU hW => ⟨rfl, by rw [hU], by rw [hU]; exact hPc, va_K.moved hW.alike hKc, hDc.weaken (fun _ _ _ _ => trivial)⟩⟩ rfl rfl hl.1 rfl (lv_room (Nat.le_of_ble_eq_true rfl)) dX8_strict_147 ⟨Nat.zero_le _, Nat.zero_le _⟩) hS (fun q _ h => hFc q h) hFc (fun r_33 zz t H1 locs ht hvm hw hB hz1 hk1 hS => ?_)
                obtain ⟨u_34, rfl⟩ : ∃ z, z = zz := ⟨_, rfl⟩
                replace h := hw
                obtain ⟨hP1, hD1⟩ := hB
                rw [ht] at hP1
                replace hD : va_D A (wd_X8 a ca u_34) := hD1.weaken (fun _ _ _ h9 => hFc _ h9)
                replace hP : va_P (dC, dI) vwCl (wd_X8 a ca u_34) H1 := hP1
                generalize H1 = H at hP hS ⊢
                refine jn1_ind (GG := (fun (w_36 : Int32) => ∀ (H : Heap) (locs : List Loc) (ls : Array Slot), va_P (dC, dI) vwCl (wd_X8 a ca u_34) H → va_D A (wd_X8 a ca u_34) → va_S A s.heap H locs → lv_has ls 6 [(4, .int v4_27), (3, .int v3_18), (2, .int v2_28), (0, .ref (a 0)), (1, .int x1)] → W p l e (headSpec wsX8_strict rm_X8_strict).room s m args below meth c H locs 0 0 Q (F0 m 168 ls [.int w_36]))) h (fun w_36 h H locs ls hP hD hS hl => ?_) (fun JJ_35 ih_JJ_35 h => ?_)
                · refine lv_istore (lv' := [(5, .int w_36), (4, .int v4_27), (3, .int v3_18), (2, .int v2_28), (0, .ref (a 0)), (1, .int x1)]) hx hb dX8_strict_168 hl (by decide) rfl (fun ls hl => ?_)
                  refine lv_aload_n hx hb dX8_strict_170 rfl (lv_at hl 4 rfl) ?_
                  refine va_get (D := (dC, dI)) (ci := 7) (v := .ref (a 22)) (C := RX8) (T := TX8) (N := 25) hx hb hts hin_X8 hown hK hP 0 rfl rfl 21 (by decide) lk_2 (fun _ h9 => h9) rfl dX8_strict_171 ?_
                  refine lv_iload hx hb dX8_strict_174 (lv_at hl 0 rfl) ?_
                  obtain ⟨hi_37, h⟩ := h
                  refine va_iald (D := (dC, dI)) (cl := vwCl) (i := w_36) hx hb hK hP 16 15 rfl rfl hi_37 dX8_strict_176 ?_
                  refine lv_if_ge (tgt := 211) hx hb dX8_strict_177 (by decide) (fun hc_38 => ?_) (fun hc_38 => ?_)
                  · replace h := h.1 hc_38
                    refine lv_iinc (v := (v4_27 + 1)) (lv' := [(4, .int (v4_27 + 1)), (5, .int w_36), (3, .int v3_18), (2, .int v2_28), (0, .ref (a 0)), (1, .int x1)]) hx hb dX8_strict_211 hl (k := 1) rfl rfl (by decide) rfl (fun ls hl => ?_)
                    refine lv_goto (tgt := 124) hx hb dX8_strict_214 (by decide) ?_
                    exact ih_LL_26 _ _ _ h _ _ _ hP hD hS (lv_sub hl [0, 2, 3, 4, 5] rfl)
                  · replace h := h.2 hc_38
                    refine lv_aload_n hx hb dX8_strict_180 rfl (lv_at hl 4 rfl) ?_
                    refine va_get (D := (dC, dI)) (ci := 7) (v := .ref (a 22)) (C := RX8) (T := TX8) (N := 25) hx hb hts hin_X8 hown hK hP 0 rfl rfl 21 (by decide) lk_2 (fun _ h9 => h9) rfl dX8_strict_181 ?_
                    refine lv_iload hx hb dX8_strict_184 (lv_at hl 0 rfl) ?_
                    refine lv_aload_n hx hb dX8_strict_186 rfl (lv_at hl 4 rfl) ?_
                    refine va_get (D := (dC, dI)) (ci := 7) (v := .ref (a 22)) (C := RX8) (T := TX8) (N := 25) hx hb hts hin_X8 hown hK hP 0 rfl rfl 21 (by decide) lk_2 (fun _ h9 => h9) rfl dX8_strict_187 ?_
                    refine lv_aload_n hx hb dX8_strict_190 rfl (lv_at hl 4 rfl) ?_
                    refine va_get (D := (dC, dI)) (ci := 7) (v := .ref (a 21)) (C := RX8) (T := TX8) (N := 25) hx hb hts hin_X8 hown hK hP 0 rfl rfl 20 (by decide) lk_1 (fun _ h9 => h9) rfl dX8_strict_191 ?_
                    refine lv_iload_n hx hb dX8_strict_194 rfl (lv_at hl 2 rfl) ?_
                    obtain ⟨hi_39, h⟩ := h
                    refine va_iald (D := (dC, dI)) (cl := vwCl) (i := v3_18) hx hb hK hP 15 14 rfl rfl hi_39 dX8_strict_195 ?_
                    obtain ⟨hi_40, h⟩ := h
                    refine va_iald (D := (dC, dI)) (cl := vwCl) (i := (u_34.2.1 20 v3_18.toNatClampNeg)) hx hb hK hP 16 15 rfl rfl hi_40 dX8_strict_196 ?_
                    refine lv_iconst (v := 1) hx hb dX8_strict_197 (by decide) ?_
                    refine lv_iadd hx hb dX8_strict_198 ?_
                    obtain ⟨hi_41, h⟩ := h
                    refine va_iast (D := (dC, dI)) (cl := vwCl) (i := w_36) hx hb hK hP hD hS 16 15 rfl rfl hi_41 dX8_strict_199 (fun H locs hP hD hS => ?_)
                    obtain ⟨u_42, eu_42⟩ : ∃ z : Ob, z = fs_a u_34 21 (upd (u_34.2.1 21) w_36.toNatClampNeg ((u_34.2.1 21 (u_34.2.1 20 v3_18.toNatClampNeg).toNatClampNeg) + 1)) := ⟨_, rfl⟩
                    replace h := h u_42 eu_42
                    replace hP : va_P (dC, dI) vwCl (wd_X8 a ca u_42) H := by rw [eu_42]; exact hP
                    replace hD : va_D A (wd_X8 a ca u_42) := by rw [eu_42]; exact hD
                    refine lv_aload_n hx hb dX8_strict_200 rfl (lv_at hl 4 rfl) ?_
                    refine va_get (D := (dC, dI)) (ci := 7) (v := .ref (a 21)) (C := RX8) (T := TX8) (N := 25) hx hb hts hin_X8 hown hK hP 0 rfl rfl 20 (by decide) lk_1 (fun _ h9 => h9) rfl dX8_strict_201 ?_
                    refine lv_iload_n hx hb dX8_strict_204 rfl (lv_at hl 3 rfl) ?_
                    refine lv_iload hx hb dX8_strict_205 (lv_at hl 0 rfl) ?_
                    obtain ⟨hi_43, h⟩ := h
                    refine va_iast (D := (dC, dI)) (cl := vwCl) (i := v2_28) hx hb hK hP hD hS 15 14 rfl rfl hi_43 dX8_strict_207 (fun H locs hP hD hS => ?_)
                    obtain ⟨u_44, eu_44⟩ : ∃ z : Ob, z = fs_a u_42 20 (upd (u_42.2.1 20) v2_28.toNatClampNeg w_36) := ⟨_, rfl⟩
                    replace h := h u_44 eu_44
                    replace hP : va_P (dC, dI) vwCl (wd_X8 a ca u_44) H := by rw [eu_44]; exact hP
                    replace hD : va_D A (wd_X8 a ca u_44) := by rw [eu_44]; exact hD
                    refine lv_iinc (v := (v2_28 + 1)) (lv' := [(2, .int (v2_28 + 1)), (5, .int w_36), (4, .int v4_27), (3, .int v3_18), (0, .ref (a 0)), (1, .int x1)]) hx hb dX8_strict_208 hl (k := 3) rfl rfl (by decide) rfl (fun ls hl => ?_)
                    refine lv_iinc (v := (v4_27 + 1)) (lv' := [(4, .int (v4_27 + 1)), (2, .int (v2_28 + 1)), (5, .int w_36), (3, .int v3_18), (0, .ref (a 0)), (1, .int x1)]) hx hb dX8_strict_211 hl (k := 2) rfl rfl (by decide) rfl (fun ls hl => ?_)
                    refine lv_goto (tgt := 124) hx hb dX8_strict_214 (by decide) ?_
                    exact ih_LL_26 _ _ _ h _ _ _ hP hD hS (lv_sub hl [0, 3, 1, 4, 5] rfl)
                · refine lv_if_eq (tgt := 162) hx hb dX8_strict_150 (by decide) (fun hc_45 => ?_) (fun hc_45 => ?_)
                  · replace h := h.1 hc_45
                    refine lv_aload_n hx hb dX8_strict_162 rfl (lv_at hl 3 rfl) ?_
                    refine va_get (D := (dC, dI)) (ci := 7) (v := .ref (a 21)) (C := RX8) (T := TX8) (N := 25) hx hb hts hin_X8 hown hK hP 0 rfl rfl 20 (by decide) lk_1 (fun _ h9 => h9) rfl dX8_strict_163 ?_
                    refine lv_iload_n hx hb dX8_strict_166 rfl (lv_at hl 1 rfl) ?_
                    obtain ⟨hi_46, h⟩ := h
                    refine va_iald (D := (dC, dI)) (cl := vwCl) (i := v3_18) hx hb hK hP 15 14 rfl rfl hi_46 dX8_strict_167 ?_
                    exact ih_JJ_35 _ h _ _ _ hP hD hS (lv_sub hl [0, 1, 2, 3, 4] rfl)
                  · replace h := h.2 hc_45
                    refine lv_aload_n hx hb dX8_strict_153 rfl (lv_at hl 3 rfl) ?_
                    refine lv_bipush (v := 80) hx hb dX8_strict_154 (by decide) ?_
                    have hPc := hP
                    have hDc := hD
                    have hKc := hK
                    have hFc := va_free (wc := (wd_X8 a ca u_34)) hD hS hA [0, 1, 2, 3, 4, 5, 6, 7, 8, 9, 10, 11, 12, 13, 14, 15, 16, 17, 18, 19] rfl
                    refine va_calli (va_runV (As := [.int 80]) (rest := []) ⟨hx, hb, hml, hown, hts⟩ (c_X8_wholeCode l dC dI a ca H.size u_34 80 _ h) (cwV 1 hts gX8_strict_X8_wholeCode rfl rfl rfl (by decide +kernel) ⟨Nat.le_of_ble_eq_true rfl, Nat.le_of_ble_eq_true rfl⟩) ⟨fun a U g mk q => by obtain ⟨q0, q1, qP, qK, qD⟩ := q; exact ⟨q0, q1, qP, va_K.moved (u := U) (U := U.calling g mk a) (Vm.Alike.refl U.vm) qK, qD⟩, va_recv hKc hPc (ci := 7) (q0 := 0) rfl rfl, fun U hU hW => ⟨rfl, by rw [hU], by rw [hU]; exact hPc, va_K.moved hW.alike hKc, hDc.weaken (fun _ _ _ _ => trivial)⟩⟩ rfl rfl hl.1 rfl (lv_room (Nat.le_of_ble_eq_true rfl)) dX8_strict_156 ⟨Nat.zero_le _, Nat.zero_le _⟩) hS (fun q _ h => hFc q h) hFc (fun r_47 zz t H1 locs ht hvm hw hB hz1 hk1 hS => ?_)
                    replace h := hw
                    obtain ⟨hP1, hD1⟩ := hB
                    rw [ht] at hP1
                    replace hD : va_D A (wd_X8 a ca u_34) := hD1.weaken (fun _ _ _ h9 => hFc _ h9)
                    replace hP : va_P (dC, dI) vwCl (wd_X8 a ca u_34) H1 := hP1
                    generalize H1 = H at hP hS ⊢
                    refine lv_goto (tgt := 168) hx hb dX8_strict_159 (by decide) ?_
                    exact ih_JJ_35 _ h _ _ _ hP hD hS (lv_sub hl [0, 1, 2, 3, 4] rfl)
            · replace h := h.2 hc_25
              refine lv_aload_n hx hb dX8_strict_109 rfl (lv_at hl 2 rfl) ?_
              refine va_get (D := (dC, dI)) (ci := 7) (v := .ref (a 22)) (C := RX8) (T := TX8) (N := 25) hx hb hts hin_X8 hown hK hP 0 rfl rfl 21 (by decide) lk_2 (fun _ h9 => h9) rfl dX8_strict_110 ?_
              refine lv_aload_n hx hb dX8_strict_113 rfl (lv_at hl 2 rfl) ?_
              refine va_get (D := (dC, dI)) (ci := 7) (v := .ref (a 21)) (C := RX8) (T := TX8) (N := 25) hx hb hts hin_X8 hown hK hP 0 rfl rfl 20 (by decide) lk_1 (fun _ h9 => h9) rfl dX8_strict_114 ?_
              refine lv_iload_n hx hb dX8_strict_117 rfl (lv_at hl 0 rfl) ?_
              obtain ⟨hi_49, h⟩ := h
              refine va_iald (D := (dC, dI)) (cl := vwCl) (i := v3_18) hx hb hK hP 15 14 rfl rfl hi_49 dX8_strict_118 ?_
              obtain ⟨hi_50, h⟩ := h
              refine va_iald (D := (dC, dI)) (cl := vwCl) (i := (u_23.2.1 20 v3_18.toNatClampNeg)) hx hb hK hP 16 15 rfl rfl hi_50 dX8_strict_119 ?_
              subst hQ
              exact W.iret (v := (u_23.2.1 21 (u_23.2.1 20 v3_18.toNatClampNeg).toNatClampNeg)) hx hb hr (fun t ht hW => ⟨⟨_, u_23, rfl, h, by rw [ht]; exact hP, hD⟩, hS.F ht⟩) hS.2.2 dX8_strict_120
        · replace h := h.2 hc_10
          refine lv_aload_n hx hb dX8_strict_42 rfl (lv_at hl 1 rfl) ?_
          refine va_get (D := (dC, dI)) (ci := 7) (v := .ref (a 22)) (C := RX8) (T := TX8) (N := 25) hx hb hts hin_X8 hown hK hP 0 rfl rfl 21 (by decide) lk_2 (fun _ h9 => h9) rfl dX8_strict_43 ?_
          refine lv_iload_n hx hb dX8_strict_46 rfl (lv_at hl 0 rfl) ?_
          refine lv_iconst (v := (-1)) hx hb dX8_strict_47 (by decide) ?_
          obtain ⟨hi_52, h⟩ := h
          refine va_iast (D := (dC, dI)) (cl := vwCl) (i := v2_8) hx hb hK hP hD hS 16 15 rfl rfl hi_52 dX8_strict_48 (fun H locs hP hD hS => ?_)
          obtain ⟨u_53, eu_53⟩ : ∃ z : Ob, z = fs_a u_9 21 (upd (u_9.2.1 21) v2_8.toNatClampNeg (-1)) := ⟨_, rfl⟩
          replace h := h u_53 eu_53
          replace hP : va_P (dC, dI) vwCl (wd_X8 a ca u_53) H := by rw [eu_53]; exact hP
          replace hD : va_D A (wd_X8 a ca u_53) := by rw [eu_53]; exact hD
          refine lv_iinc (v := (v2_8 + 1)) (lv' := [(2, .int (v2_8 + 1)), (0, .ref (a 0)), (1, .int x1)]) hx hb dX8_strict_49 hl (k := 0) rfl rfl (by decide) rfl (fun ls hl => ?_)
          refine lv_goto (tgt := 36) hx hb dX8_strict_52 (by decide) ?_
          exact ih_LL_7 _ _ h _ _ _ hP hD hS (lv_sub hl [0, 1, 2] rfl)
      · replace h := h.2 hc_6
        refine lv_bipush (v := (-2)) hx hb dX8_strict_31 (by decide) ?_
        subst hQ
        exact W.iret (v := (-2)) hx hb hr (fun t ht hW => ⟨⟨_, u, rfl, h, by rw [ht]; exact hP, hD⟩, hS.F ht⟩) hS.2.2 dX8_strict_33
  · replace h := h.2 hc_2
    refine lv_iconst (v := (-1)) hx hb dX8_strict_9 (by decide) ?_
    subst hQ
    exact W.iret (v := (-1)) hx hb hr (fun t ht hW => ⟨⟨_, u, rfl, h, by rw [ht]; exact hP, hD⟩, hS.F ht⟩) hS.2.2 dX8_strict_10
