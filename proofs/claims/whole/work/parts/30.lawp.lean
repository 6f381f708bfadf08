/-! the law's loop: class and model hold one state -/
def CRR (uf um ut uh ug ur ux uy : Ob) (N c : Nat) (bg : Nat → Bool) (ar : Nat → Nat → Nat) (tp : List Nat) (sN : Nat) (wN : Nat → List Nat) (sA : Nat) (wA : Nat → List Nat) (hd : Nat → Bool) (ln sz : Nat → Nat) (it : Nat → Nat → Int32) : Prop :=
  mR um N c bg ar ∧ tpR ut tp ∧ plR uh sN wN ∧ plR ug sA wA ∧ seR uf ur c bg ar sA wA ∧ shB ux uy hd ln sz it
def KKK (N c : Nat) (ar : Nat → Nat → Nat) (tp : List Nat) (sN : Nat) (wN : Nat → List Nat) (sA : Nat) (wA : Nat → List Nat) (ln sz : Nat → Nat) : Prop := mK N c ar ∧ tpK tp ∧ plK N sN wN ∧ plK N sA wA ∧ shK ln sz
def ALL (uf um ut uh ug ur ux uy u8 : Ob) : Prop := ∃ (N c : Nat) (bg : Nat → Bool) (ar : Nat → Nat → Nat) (tp : List Nat) (sN : Nat) (wN : Nat → List Nat) (sA : Nat) (wA : Nat → List Nat) (hd : Nat → Bool) (ln sz : Nat → Nat) (it : Nat → Nat → Int32), CRR uf um ut uh ug ur ux uy N c bg ar tp sN wN sA wA hd ln sz it ∧ MR u8 N c bg ar tp sN wN sA wA hd ln sz it ∧ KKK N c ar tp sN wN sA wA ln sz
theorem bad_tf {b : Bool} {A : Prop} (h1 : b = true) (h2 : b = false) : A := by
  rw [h1] at h2
  cases h2
theorem ix_lt {x : Int32} {n : Nat} (hn : n < 2 ^ 31) (h : ix x n = true) : x.toNatClampNeg < n := (clamp_ix hn h).1
theorem shK_sheet {ln sz : Nat → Nat} (h : shK ln sz) {x1 x2 x3 : Int32} (e : sheN x1 x2 x3 = 2) : shK (va_up ln x1.toNatClampNeg x2.toNatClampNeg) (va_up sz x1.toNatClampNeg x3.toNatClampNeg) := by
  unfold sheN at e
  split at e
  · rename_i e1
    simp only [Bool.and_eq_true] at e1
    split at e
    · rename_i q
      split at e
      · rename_i q2
        intro t ht
        by_cases z : t = x1.toNatClampNeg
        · rw [z, va_up_self, va_up_self]
          have e3 : ix x3 61 = true := decide_eq_true (by
            rw [Int32.le_iff_toInt_le] at q q2
            have a : (60 : Int32).toInt = 60 := rfl
            have b : (0 : Int32).toInt = 0 := rfl
            omega)
          have a1 := (clamp_ix (by omega) e1.2).1
          have a2 := (clamp_ix (by omega) e3).1
          exact ⟨a1, by omega⟩
        · rw [va_up_ne _ _ z, va_up_ne _ _ z]
          exact h t ht
      · cases e
    · cases e
  · cases e
theorem law_wp (LN : Nat) (hLN : LN ≤ 3072) (xs : Nat → Int32) (uf um ut uh ug ur uw ux uy u8 : Ob) (h0 : ALL uf um ut uh ug ur ux uy u8) : wp_law LN xs uf um ut uh ug ur uw ux uy u8 := by
  unfold wp_law
  refine lq11_m (fun m v uf um ut uh ug ur uw ux uy u8 => ∃ i, i + m = LN + 6 ∧ v = nI i ∧ ALL uf um ut uh ug ur ux uy u8) ?_ (LN + 6) 0 uf um ut uh ug ur uw ux uy u8 ⟨0, by omega, rfl, h0⟩
  rintro LL m v uf um ut uh ug ur uw ux uy u8 ⟨i, him, rfl, N, c, bg, ar, tp, sN, wN, sA, wA, hd, ln, sz, it, hC, hM, hK⟩ ih
  have e6 : (Int32.ofNat LN - 6).toInt = (LN : Int) - 6 := pk_sub_toInt (a := LN) (b := 6) (by omega) (by decide)
  rw [Int32.lt_iff_toInt_lt, e6, nI_toInt (by omega)]
  refine ⟨fun _ => trivial, fun hi => ?_⟩
  have hi6 : i + 6 ≤ LN := by omega
  have x1 : vp_in (nI i + 1) LN := by rw [nI_1]; exact vp_in_nI (by omega) (by omega)
  have x2 : vp_in (nI i + 2) LN := by rw [show nI i + 2 = nI (i + 2) from nI_add i 2]; exact vp_in_nI (by omega) (by omega)
  have x3 : vp_in (nI i + 3) LN := by rw [show nI i + 3 = nI (i + 3) from nI_add i 3]; exact vp_in_nI (by omega) (by omega)
  have x4 : vp_in (nI i + 4) LN := by rw [show nI i + 4 = nI (i + 4) from nI_add i 4]; exact vp_in_nI (by omega) (by omega)
  have x5 : vp_in (nI i + 5) LN := by rw [show nI i + 5 = nI (i + 5) from nI_add i 5]; exact vp_in_nI (by omega) (by omega)
  have hgo : ∀ {vf vm vt vh vg vr vw vx vy v8 : Ob}, ALL vf vm vt vh vg vr vx vy v8 → LL (nI i + 6) vf vm vt vh vg vr vw vx vy v8 := by
    intro vf vm vt vh vg vr vw vx vy v8 ha
    exact ih (m - 6) _ _ _ _ _ _ _ _ _ _ _ (by omega) ⟨i + 6, by omega, nI_add i 6, ha⟩
  have fin : ∀ {r : Int32} {vf vm vt vh vg vr vw vx vy v8 : Ob}, ALL vf vm vt vh vg vr vx vy v8 → ((r = r) → LL (nI i + 6) vf vm vt vh vg vr vw vx vy v8) ∧ ((¬ r = r) → False) := fun ha => ⟨fun _ => hgo ha, fun z => z rfl⟩
  have same : ALL uf um ut uh ug ur ux uy u8 := ⟨N, c, bg, ar, tp, sN, wN, sA, wA, hd, ln, sz, it, hC, hM, hK⟩
  obtain ⟨cm, ct, ch, cg, cs, csh⟩ := id hC
  obtain ⟨kM, kT, kN, kA, kS⟩ := id hK
  have lN' := plK_len kN
  have lA' := plK_len kA
  refine ⟨vp_in_nI (by omega) (by omega), ?_⟩
  generalize xs (nI i).toNatClampNeg &&& 31 = op
  generalize xs (nI i + 1).toNatClampNeg = y1
  generalize xs (nI i + 2).toNatClampNeg = y2
  generalize xs (nI i + 3).toNatClampNeg = y3
  generalize xs (nI i + 4).toNatClampNeg = y4
  generalize xs (nI i + 5).toNatClampNeg = y5
  refine ⟨fun _ => ⟨x1, ?_⟩, fun _ => ?_⟩
  · refine c_states cm (fun e vf vm vh vg a1 a2 a3 a4 => ⟨x1, ?_⟩) (fun e => ⟨x1, ?_⟩)
    · refine m_states hM lN' (fun _ v hv => fin ⟨_, _, _, _, _, _, _, _, _, _, _, _, _, ⟨a2, ct, a3, a4, Or.inl a1, csh⟩, hv, ?_⟩) (fun e2 => bad_tf e e2)
      obtain ⟨j, b1, b2, rfl⟩ := ixr_t (by decide) e
      rw [nI_clamp (by omega)]
      exact ⟨⟨b1, b2, by omega, fun q hq => absurd hq (Nat.not_lt_zero q)⟩, kT, plK_nil b1 (by omega), plK_nil b1 (by omega), kS⟩
    · exact m_states hM lN' (fun e2 => bad_tf e2 e) (fun _ => fin same)
  refine ⟨fun _ => ⟨x1, x2, ?_⟩, fun _ => ?_⟩
  · have bag : ∀ b : Bool, wp_X7_bag uf um uh ug y1 (bI b) (fun r vf vm vh vg => vp_in (nI i + 1) LN ∧ vp_in (nI i + 2) LN ∧ wp_X8_bag u8 y1 (bI b) (fun r2 v8 => ((r = r2) → LL (nI i + 6) vf vm ut vh vg ur uw ux uy v8) ∧ ((¬ r = r2) → False))) := by
      intro b
      refine c_bag cm (fun e vf vm vh vg a1 a2 a3 a4 => ⟨x1, x2, ?_⟩) (fun e => ⟨x1, x2, ?_⟩)
      · exact m_bag hM lN' (fun _ v hv => fin ⟨_, _, _, _, _, _, _, _, _, _, _, _, _, ⟨a2, ct, a3, a4, Or.inl a1, csh⟩, hv, kM, kT, plK_nil kM.1 (by have := kM.1; omega), plK_nil kM.1 (by have := kM.1; omega), kS⟩) (fun e2 => bad_tf e e2)
      · exact m_bag hM lN' (fun e2 => bad_tf e2 e) (fun _ => fin same)
    simp only [jn]
    by_cases z : y2 = 0
    · have g := bag false
      refine ⟨fun _ => ?_, fun y => absurd z y⟩
      simp only [z, not_true_eq_false, false_implies, true_implies, and_true]
      exact g
    · have g := bag true
      refine ⟨fun y => absurd y z, fun _ => ?_⟩
      simp only [z, not_false_eq_true, false_implies, true_implies, true_and]
      exact g
  refine ⟨fun _ => ⟨x1, x2, x3, x4, x5, ?_⟩, fun _ => ?_⟩
  · refine c_arc cm kM (fun e ec vf vm vh a1 a2 a3 => ⟨x1, x2, x3, x4, x5, ?_⟩) (fun e ec => ⟨x1, x2, x3, x4, x5, ?_⟩) (fun e => ⟨x1, x2, x3, x4, x5, ?_⟩)
    · exact m_arc hM lA' kM (fun _ _ v hv => fin ⟨_, _, _, _, _, _, _, _, _, _, _, _, _, ⟨a2, ct, a3, cg, Or.inl a1, csh⟩, hv, mK_add kM ec e, kT, plK_nil kM.1 (by have := kM.1; omega), kA, kS⟩) (fun _ e2 => by omega) (fun e2 => bad_tf e e2)
    · exact m_arc hM lA' kM (fun _ e2 => by omega) (fun _ _ => fin same) (fun e2 => bad_tf e e2)
    · exact m_arc hM lA' kM (fun e2 => bad_tf e2 e) (fun e2 => bad_tf e2 e) (fun _ => fin same)
  refine ⟨fun _ => ?_, fun _ => ?_⟩
  · refine c_unarc cm kM (fun e vf vm vh a1 a2 a3 => ?_) (fun e => ?_)
    · refine m_unarc hM lA' kM (fun _ v hv => fin ⟨_, _, _, _, _, _, _, _, _, _, _, _, _, ⟨a2, ct, a3, cg, Or.inl a1, csh⟩, hv, ⟨kM.1, kM.2.1, by have := kM.2.2.1; omega, fun q hq => kM.2.2.2 q (by omega)⟩, kT, plK_nil kM.1 (by have := kM.1; omega), kA, kS⟩) (fun e2 => by omega)
    · exact m_unarc hM lA' kM (fun e2 => by omega) (fun _ => fin same)
  refine ⟨fun _ => ⟨x1, x2, c_told cm kM ⟨x1, x2, m_told hM.1 kM (fin same)⟩⟩, fun _ => ?_⟩
  refine ⟨fun _ => ⟨x1, x2, x3, ?_⟩, fun _ => ?_⟩
  · refine c_type ct kT (fun e v hv => ⟨x1, x2, x3, ?_⟩) (fun e => ⟨x1, x2, x3, ?_⟩) (fun e => ⟨x1, x2, x3, ?_⟩)
    · refine m_type hM kT (fun _ v8 hv8 => fin ⟨_, _, _, _, _, _, _, _, _, _, _, _, _, ⟨cm, hv, ch, cg, cs, csh⟩, hv8, kM, ?_, kN, kA, kS⟩) (fun e2 => by omega) (fun e2 => by omega)
      unfold tyN at e
      split at e
      · rename_i e3
        simp only [Bool.and_eq_true] at e3
        split at e
        · rename_i e4
          exact tpK_type kT _ e3.2 e4
        · cases e
      · cases e
    · exact m_type hM kT (fun e2 => by omega) (fun _ => fin same) (fun e2 => by omega)
    · exact m_type hM kT (fun e2 => by omega) (fun e2 => by omega) (fun _ => fin same)
  refine ⟨fun _ => ?_, fun _ => ?_⟩
  · have tp0 : tpK [] := ⟨Nat.zero_le _, fun q hq => absurd hq (Nat.not_lt_zero q)⟩
    refine c_read cm kM ct kT (fun n R e kR vf vm vt vh f7 hvm hvt hvh => ?_) (fun p e vt hvt => ?_)
    · refine m_read hM lA' kM kT (fun n2 R2 e2 v8 sM wM hsw n1 hv8 => ?_) (fun p2 e2 => ?_)
      · have ee := Sum.inr.inj (e.symm.trans e2)
        have e3 := (Prod.mk.inj ee).1
        have e4 := (Prod.mk.inj ee).2
        subst e3 e4
        obtain ⟨s0, w0⟩ := hsw n1
        subst s0 w0
        exact fin ⟨_, _, _, _, _, _, _, _, _, _, _, _, _, ⟨hvm, hvt, hvh, cg, Or.inl f7, csh⟩, hv8, kR, tp0, plK_nil kM.1 (by have := kM.1; omega), kA, kS⟩
      · rw [e] at e2
        cases e2
    · refine m_read hM lA' kM kT (fun n2 R2 e2 => ?_) (fun p2 e2 v8 hv8 => ?_)
      · rw [e] at e2
        cases e2
      · have e3 := Sum.inl.inj (e.symm.trans e2)
        subst e3
        exact fin ⟨_, _, _, _, _, _, _, _, _, _, _, _, _, ⟨cm, hvt, ch, cg, cs, csh⟩, hv8, kM, tp0, kN, kA, kS⟩
  refine ⟨fun _ => ⟨x1, x2, x3, x4, ?_⟩, fun _ => ?_⟩
  · refine c_arcs cm kM csh kS (fun e e1 e2 vf vm vh a1 a2 a3 => ⟨x1, x2, x3, x4, ?_⟩) (fun e => ⟨x1, x2, x3, x4, ?_⟩)
    · exact m_arcs hM lA' kM kS (fun _ _ _ v hv => fin ⟨_, _, _, _, _, _, _, _, _, _, _, _, _, ⟨a2, ct, a3, cg, Or.inl a1, csh⟩, hv, mK_addA kM _ e1 e2, kT, plK_nil kM.1 (by have := kM.1; omega), kA, kS⟩) (fun e3 => absurd e e3)
    · exact m_arcs hM lA' kM kS (fun e3 => absurd e3 e) (fun _ => fin same)
  refine ⟨fun _ => ⟨x1, ?_⟩, fun _ => ?_⟩
  · refine c_go cm kM ch kN (fun e v hv => ⟨x1, ?_⟩) (fun e => ⟨x1, ?_⟩) (fun e => ⟨x1, ?_⟩) (fun e => ⟨x1, ?_⟩)
    · exact m_go hM lA' kM kN (fun _ v8 hv8 => fin ⟨_, _, _, _, _, _, _, _, _, _, _, _, _, ⟨cm, ct, hv, cg, cs, csh⟩, hv8, kM, kT, plK_go kM kN e, kA, kS⟩) (fun e2 => by omega) (fun e2 => by omega) (fun e2 => by omega)
    · exact m_go hM lA' kM kN (fun e2 => by omega) (fun _ => fin same) (fun e2 => by omega) (fun e2 => by omega)
    · exact m_go hM lA' kM kN (fun e2 => by omega) (fun e2 => by omega) (fun _ => fin same) (fun e2 => by omega)
    · exact m_go hM lA' kM kN (fun e2 => by omega) (fun e2 => by omega) (fun e2 => by omega) (fun _ => fin same)
  refine ⟨fun _ => ⟨x1, x2, ?_⟩, fun _ => ?_⟩
  · refine c_lose ch kN (fun e v hv => ⟨x1, x2, ?_⟩) (fun e => ⟨x1, x2, ?_⟩)
    · exact m_lose hM lA' kN (fun _ v8 hv8 => fin ⟨_, _, _, _, _, _, _, _, _, _, _, _, _, ⟨cm, ct, hv, cg, cs, csh⟩, hv8, kM, kT, plK_lose kN e, kA, kS⟩) (fun e2 => bad_tf e e2)
    · exact m_lose hM lA' kN (fun e2 => bad_tf e2 e) (fun _ => fin same)
  refine ⟨fun _ => ⟨x1, x2, c_now ch kN ⟨x1, x2, m_now hM.2.2.1 kN (fin same)⟩⟩, fun _ => ?_⟩
  refine ⟨fun _ => ?_, fun _ => ?_⟩
  · exact c_reset (fun v hv => m_reset hM lA' (fun v8 hv8 => fin ⟨_, _, _, _, _, _, _, _, _, _, _, _, _, ⟨cm, ct, hv, cg, cs, csh⟩, hv8, kM, kT, plK_nil kM.1 (by have := kM.1; omega), kA, kS⟩))
  refine ⟨fun _ => ⟨x1, ?_⟩, fun _ => ?_⟩
  · refine c_aim cm kM (fun e vf vg a1 a2 => ⟨x1, ?_⟩) (fun e => ⟨x1, ?_⟩)
    · exact m_aim hM kM.2.1 lN' (fun _ v8 hv8 => fin ⟨_, _, _, _, _, _, _, _, _, _, _, _, _, ⟨cm, ct, ch, a2, Or.inl a1, csh⟩, hv8, kM, kT, kN, plK_nil kM.1 (ix_lt (by have := kM.2.1; omega) e), kS⟩) (fun e2 => bad_tf e e2)
    · exact m_aim hM kM.2.1 lN' (fun e2 => bad_tf e2 e) (fun _ => fin same)
  refine ⟨fun _ => ⟨x1, x2, ?_⟩, fun _ => ?_⟩
  · refine c_want cm cg kA (fun e vf vg a1 a2 => ⟨x1, x2, ?_⟩) (fun e => ⟨x1, x2, ?_⟩) (fun e => ⟨x1, x2, ?_⟩)
    · exact m_want hM lN' kA (fun _ v8 hv8 => fin ⟨_, _, _, _, _, _, _, _, _, _, _, _, _, ⟨cm, ct, ch, a2, Or.inl a1, csh⟩, hv8, kM, kT, kN, plK_want kA e, kS⟩) (fun e2 => by omega) (fun e2 => by omega)
    · exact m_want hM lN' kA (fun e2 => by omega) (fun _ => fin same) (fun e2 => by omega)
    · exact m_want hM lN' kA (fun e2 => by omega) (fun e2 => by omega) (fun _ => fin same)
  have sr : ∀ {vf vr v8 : Ob} {vw : Ob}, seR vf vr c bg ar sA wA → MR v8 N c bg ar tp sN wN sA wA hd ln sz it → ALL vf um ut uh ug vr ux uy v8 := fun q q2 => ⟨_, _, _, _, _, _, _, _, _, _, _, _, _, ⟨cm, ct, ch, cg, q, csh⟩, q2, hK⟩
  refine ⟨fun _ => ?_, fun _ => ?_⟩
  · exact c_found cm kM cg kA cs (fun vf vr q => m_found hM kM kA (fun v8 hv8 => fin (sr (vw := uw) q hv8)))
  refine ⟨fun _ => ⟨x1, x2, ?_⟩, fun _ => ?_⟩
  · exact c_about cm kM cg kA cs (fun vf vr q => ⟨x1, x2, m_about hM kM kA (fun v8 hv8 => fin (sr (vw := uw) q hv8))⟩)
  refine ⟨fun _ => ⟨x1, x2, x3, ?_⟩, fun _ => ?_⟩
  · exact c_letter cm kM cg kA cs (fun vf vr q => ⟨x1, x2, x3, m_letter hM kM kA (fun v8 hv8 => fin (sr (vw := uw) q hv8))⟩)
  refine ⟨fun _ => ?_, fun _ => ?_⟩
  · exact c_least cm kM cg kA cs (fun vf vr q => m_least hM kM kA (fun v8 hv8 => fin (sr (vw := uw) q hv8)))
  refine ⟨fun _ => ?_, fun _ => ?_⟩
  · exact c_far cm kM ch kN cg kA cs (fun vf vr q => m_far hM kM kN kA (fun v8 hv8 => fin (sr (vw := uw) q hv8)))
  refine ⟨fun _ => ⟨x1, ?_⟩, fun _ => ?_⟩
  · exact c_way cm kM ch kN cg kA cs (fun vf vr q => ⟨x1, m_way hM kM kN kA (fun v8 hv8 => fin (sr (vw := uw) q hv8))⟩)
  refine ⟨fun _ => ⟨x1, ?_⟩, fun _ => ?_⟩
  · refine c_strict cm kM ch kN cg kA (fun e vw => ⟨x1, ?_⟩) (fun e => ⟨x1, ?_⟩) (fun e => ⟨x1, ?_⟩)
    · exact m_strict hM kM kN kA (fun _ v8 hv8 => fin ⟨_, _, _, _, _, _, _, _, _, _, _, _, _, hC, hv8, hK⟩) (fun e2 => by omega) (fun e2 => by omega)
    · exact m_strict hM kM kN kA (fun e2 => by omega) (fun _ => fin same) (fun e2 => by omega)
    · exact m_strict hM kM kN kA (fun e2 => by omega) (fun e2 => by omega) (fun _ => fin same)
  refine ⟨fun _ => ⟨x1, x2, x3, ?_⟩, fun _ => ?_⟩
  · refine c_sheet csh (fun e vx vy a1 => ⟨x1, x2, x3, ?_⟩) (fun e => ⟨x1, x2, x3, ?_⟩) (fun e => ⟨x1, x2, x3, ?_⟩)
    · refine m_sheet hM (fun _ v8 hv8 => fin ⟨_, _, _, _, _, _, _, _, _, _, _, _, _, ⟨cm, ct, ch, cg, cs, a1⟩, hv8, kM, kT, kN, kA, ?_⟩) (fun e2 => by omega) (fun e2 => by omega)
      exact shK_sheet kS e
    · exact m_sheet hM (fun e2 => by omega) (fun _ => fin same) (fun e2 => by omega)
    · exact m_sheet hM (fun e2 => by omega) (fun e2 => by omega) (fun _ => fin same)
  refine ⟨fun _ => ⟨x1, ?_⟩, fun _ => ?_⟩
  · refine c_drop csh (fun e e1 vx vy a1 => ⟨x1, ?_⟩) (fun e e1 => ⟨x1, ?_⟩) (fun e => ⟨x1, ?_⟩)
    · exact m_drop hM kS (fun _ _ v8 hv8 => fin ⟨_, _, _, _, _, _, _, _, _, _, _, _, _, ⟨cm, ct, ch, cg, cs, a1⟩, hv8, hK⟩) (fun _ e2 => bad_tf e1 e2) (fun e2 => bad_tf e e2)
    · exact m_drop hM kS (fun _ e2 => bad_tf e2 e1) (fun _ _ => fin same) (fun e2 => bad_tf e e2)
    · exact m_drop hM kS (fun e2 => bad_tf e2 e) (fun e2 => bad_tf e2 e) (fun _ => fin same)
  refine ⟨fun _ => ⟨x1, x2, x3, x4, ?_⟩, fun _ => hgo same⟩
  refine c_item csh kS (fun e vx vy a1 => ⟨x1, x2, x3, x4, ?_⟩) (fun e => ⟨x1, x2, x3, x4, ?_⟩)
  · exact m_item hM kS (fun _ v8 hv8 => fin ⟨_, _, _, _, _, _, _, _, _, _, _, _, _, ⟨cm, ct, ch, cg, cs, a1⟩, hv8, hK⟩) (fun e2 => absurd e e2)
  · exact m_item hM kS (fun e2 => absurd e2 e) (fun _ => fin same)
