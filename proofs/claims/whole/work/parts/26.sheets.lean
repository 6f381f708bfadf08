/-! sheets -/
def shR (ux : Ob) (hd : Bool) (ln sz : Nat) (it : Nat → Int32) : Prop := ux.1 0 = bI hd ∧ ux.1 1 = nI sz ∧ ux.1 3 = nI ln ∧ ∀ i, i < 60 → ux.2.1 2 i = it i
def shK (ln sz : Nat → Nat) : Prop := ∀ s, s < 2 → ln s < 2 ∧ sz s ≤ 60
/-- both sheets of the class -/
def shB (ux uy : Ob) (hd : Nat → Bool) (ln sz : Nat → Nat) (it : Nat → Nat → Int32) : Prop := shR ux (hd 0) (ln 0) (sz 0) (it 0) ∧ shR uy (hd 1) (ln 1) (sz 1) (it 1)
theorem s_fill {f : Nat → Int32} (n : Nat) (hn : n < 2 ^ 31) {post : (Nat → Int32) → Prop} (h : ∀ g : Nat → Int32, (∀ i, i < n → g i = 0) → post g) : wp_J7_fill_53178 n f 0 post := by
  unfold wp_J7_fill_53178
  refine lq2_m (fun m x g => ∃ i, i + m = n ∧ x = nI i ∧ ∀ j, j < i → g j = 0) ?_ n 0 f ⟨0, by omega, rfl, fun j hj => absurd hj (Nat.not_lt_zero j)⟩
  rintro LL m x g ⟨i, hi, rfl, hg⟩ ih
  refine pk_le n i (fun hc => h g (fun j hj => hg j (by omega))) (fun hc => ⟨vp_in_nI hc hn, fun g2 e2 => ?_⟩)
  rw [nI_clamp (by omega)] at e2
  refine ih (m - 1) _ _ (by omega) ⟨i + 1, by omega, nI_1 i, fun j hj => ?_⟩
  rw [e2]
  by_cases z : j = i
  · rw [z, up_s]
  · rw [up_o _ _ z]
    exact hg j (by omega)
theorem s_hold {ux : Ob} {l n : Nat} {post : Ob → Prop} (h : ∀ v, shR v true l n (fun _ => 0) → post v) : wp_X3_hold ux (nI l) (nI n) post := by
  unfold wp_X3_hold
  intro u1 e1 u2 e2 u3 e3
  refine s_fill 60 (by decide) (fun g hg u5 e5 => h u5 ⟨?_, ?_, ?_, fun i hi => ?_⟩)
  · rw [e5]
    show u3.1 0 = _
    rw [e3, ob_io _ _ (by decide), e2, ob_io _ _ (by decide), e1, ob_is]
    rfl
  · rw [e5]
    show u3.1 1 = _
    rw [e3, ob_is]
  · rw [e5]
    show u3.1 3 = _
    rw [e3, ob_io _ _ (by decide), e2, ob_is]
  · rw [e5, ob_as]
    exact hg i hi
/-- what 'sheet' asks: 0 bad, 1 its size, 2 done -/
def sheN (x1 x2 x3 : Int32) : Nat := if ix x1 2 && ix x2 2 then (if x3 ≤ 60 then (if 0 ≤ x3 then 2 else 1) else 0) else 0
theorem c_sheet {uf ux uy : Ob} {hd : Nat → Bool} {ln sz : Nat → Nat} {it : Nat → Nat → Int32} (hs : shB ux uy hd ln sz it) {x1 x2 x3 : Int32} {post : Int32 → Ob → Ob → Prop}
    (h2 : sheN x1 x2 x3 = 2 → ∀ vx vy, shB vx vy (va_up hd x1.toNatClampNeg true) (va_up ln x1.toNatClampNeg x2.toNatClampNeg) (va_up sz x1.toNatClampNeg x3.toNatClampNeg) (va_up it x1.toNatClampNeg (fun _ => 0)) → post x3 vx vy) (h1 : sheN x1 x2 x3 = 1 → post (-14) ux uy) (h0 : sheN x1 x2 x3 = 0 → post (-1) ux uy) : wp_X7_sheet uf ux uy x1 x2 x3 post := by
  unfold wp_X7_sheet
  refine c_among (n := 2) (by omega) ?_
  refine bI_if (fun e1 => h0 (by rw [sheN, e1]; rfl)) (fun e1 => ?_)
  refine c_among (n := 2) (by omega) ?_
  refine bI_if (fun e2 => h0 (by rw [sheN, e1, e2]; rfl)) (fun e2 => ?_)
  have e12 : (ix x1 2 && ix x2 2) = true := by rw [e1, e2]; rfl
  unfold sheN at h2 h1 h0
  rw [if_pos e12] at h2 h1 h0
  refine ⟨fun q => ?_, fun q => h0 (if_neg q)⟩
  rw [if_pos q] at h2 h1
  refine ⟨fun q2 => ?_, fun q2 => h1 (if_neg q2)⟩
  have h2 := h2 (if_pos q2)
  obtain ⟨l, hl, rfl⟩ := ix_t (by omega) e2
  have e3 : ix x3 61 = true := decide_eq_true (by
    rw [Int32.le_iff_toInt_le] at q q2
    have a : (60 : Int32).toInt = 60 := rfl
    have b : (0 : Int32).toInt = 0 := rfl
    omega)
  obtain ⟨n, hn, rfl⟩ := ix_t (by omega) e3
  obtain ⟨s, hs2, rfl⟩ := ix_t (by omega) e1
  have cs : (nI s).toNatClampNeg = s := nI_clamp (by omega)
  rw [cs, nI_clamp (by omega), nI_clamp (by omega)] at h2
  refine ⟨vp_in_nI hs2 (by omega), fun z => ?_, fun z => ?_⟩
  · have z2 : s = 0 := by
      have := (nI_eq (a := s) (b := 0) (by omega) (by omega)).mp z
      exact this
    subst z2
    exact s_hold (fun v hv => h2 v uy ⟨hv, hs.2⟩)
  · have z2 : s = 1 := by
      have := (nI_eq (a := s) (b := 1) (by omega) (by omega)).mp z
      exact this
    subst z2
    exact s_hold (fun v hv => h2 ux v ⟨hs.1, hv⟩)
theorem ix2_cases {x : Int32} (h : ix x 2 = true) : x = 0 ∨ x = 1 := by
  obtain ⟨s, hs, rfl⟩ := ix_t (by omega) h
  rcases (show s = 0 ∨ s = 1 by omega) with rfl | rfl
  · exact Or.inl rfl
  · exact Or.inr rfl
theorem nm1 : ¬ (-1 : Int32) = 1 := by decide
theorem nm13 : ¬ (-13 : Int32) = 1 := by decide
theorem n01 : ¬ (0 : Int32) = 1 := by decide
theorem n10 : ¬ (1 : Int32) = 0 := by decide
theorem c0 : (0 : Int32).toNatClampNeg = 0 := rfl
theorem c1 : (1 : Int32).toNatClampNeg = 1 := rfl
theorem c_drop {uf ux uy : Ob} {hd : Nat → Bool} {ln sz : Nat → Nat} {it : Nat → Nat → Int32} (hs : shB ux uy hd ln sz it) {x : Int32} {post : Int32 → Ob → Ob → Prop}
    (h2 : ix x 2 = true → hd x.toNatClampNeg = true → ∀ vx vy, shB vx vy (va_up hd x.toNatClampNeg false) ln sz it → post (nI (sz x.toNatClampNeg)) vx vy) (h1 : ix x 2 = true → hd x.toNatClampNeg = false → post (-11) ux uy) (h0 : ix x 2 = false → post (-1) ux uy) : wp_X7_drop uf ux uy x post := by
  unfold wp_X7_drop
  refine c_among (n := 2) (by omega) ?_
  refine bI_if2 (fun e => ?_) (fun e => h0 e)
  have h2 := h2 e
  have h1 := h1 e
  rcases ix2_cases e with rfl | rfl
  · rw [c0] at h2 h1
    refine ⟨in0_2, fun _ => ?_, fun z => absurd z n01⟩
    rw [hs.1.1]
    refine bI_if2 (fun z => ⟨in0_2, fun u6 e6 => ⟨in0_2, ?_⟩⟩) (fun z => h1 z)
    have f : u6.1 1 = nI (sz 0) := by rw [e6, ob_io _ _ (by decide)]; exact hs.1.2.1
    rw [f]
    refine h2 z u6 uy ⟨⟨?_, f, ?_, fun i hi => ?_⟩, hs.2⟩
    · rw [e6, ob_is]
      rfl
    · rw [e6, ob_io _ _ (by decide)]
      exact hs.1.2.2.1
    · rw [e6]
      exact hs.1.2.2.2 i hi
  · rw [c1] at h2 h1
    refine ⟨in1_2, fun z => absurd z n10, fun _ => ?_⟩
    rw [hs.2.1]
    refine bI_if2 (fun z => ⟨in1_2, fun u6 e6 => ⟨in1_2, ?_⟩⟩) (fun z => h1 z)
    have f : u6.1 1 = nI (sz 1) := by rw [e6, ob_io _ _ (by decide)]; exact hs.2.2.1
    rw [f]
    refine h2 z ux u6 ⟨hs.1, ⟨?_, f, ?_, fun i hi => ?_⟩⟩
    · rw [e6, ob_is]
      rfl
    · rw [e6, ob_io _ _ (by decide)]
      exact hs.2.2.2.1
    · rw [e6]
      exact hs.2.2.2.2 i hi
/-- a sheet taken as a row of a lane: 0, or what the machine finds -/
def fltA (hd : Bool) (ln : Nat) (x : Int32) : Int32 := if hd then (if x = nI ln then 0 else -12) else -11
theorem s_faultAs {ux : Ob} {hd : Bool} {ln sz : Nat} {it : Nat → Int32} (h : shR ux hd ln sz it) {x : Int32} {post : Int32 → Prop} (hp : post (fltA hd ln x)) : wp_X3_faultAs ux x post := by
  unfold wp_X3_faultAs
  unfold fltA at hp
  rw [h.1, h.2.2.1]
  refine bI_if2 (fun z => ⟨fun y => ?_, fun y => ?_⟩) (fun z => ?_)
  · rw [z, if_pos rfl, if_neg y] at hp
    exact hp
  · rw [z, if_pos rfl, if_pos y] at hp
    exact hp
  · rw [z] at hp
    exact hp
/-- what is put into a row of a lane -/
def putV (x2 x4 : Int32) : Int32 := if x2 = 0 then Int8.toInt32 (Int32.toInt8 x4) else x4
theorem s_shput {ux : Ob} {hd : Bool} {ln sz : Nat} {it : Nat → Int32} (h : shR ux hd ln sz it) {i : Nat} (hi : i < 60) {x4 : Int32} {post : Ob → Prop} (hp : ∀ v, shR v hd ln sz (va_up it i (putV (nI ln) x4)) → post v) : wp_X3_put ux (nI i) x4 post := by
  unfold wp_X3_put
  have key : ∀ w : Int32, w = putV (nI ln) x4 → vp_in (nI i) 60 ∧ ∀ u_4 : Ob, u_4 = fs_a ux 2 (upd (ux.2.1 2) (nI i).toNatClampNeg w) → post u_4 := by
    intro w hw
    refine ⟨vp_in_nI hi (by omega), fun u4 e4 => hp u4 ⟨?_, ?_, ?_, fun j hj => ?_⟩⟩
    · rw [e4]
      exact h.1
    · rw [e4]
      exact h.2.1
    · rw [e4]
      exact h.2.2.1
    · rw [e4, ob_as, nI_clamp (by omega)]
      by_cases z : j = i
      · rw [z, up_s, va_up_self, hw]
      · rw [up_o _ _ z, va_up_ne _ _ z]
        exact h.2.2.2 j hj
  simp only [jn]
  rw [h.2.2.1]
  refine ⟨fun z => key _ ?_, fun z => key _ ?_⟩
  · rw [putV, if_neg z]
  · rw [putV, if_pos z]
/-- what 'item' answers: 1 if it is done -/
def A_item (hd : Nat → Bool) (ln sz : Nat → Nat) (x1 x2 x3 : Int32) : Int32 :=
  if ix x1 2 && ix x2 2 then (if fltA (hd x1.toNatClampNeg) (ln x1.toNatClampNeg) x2 = 0 then (if ix x3 (sz x1.toNatClampNeg) then 1 else -13) else fltA (hd x1.toNatClampNeg) (ln x1.toNatClampNeg) x2) else -1
theorem fltA_ne (hd : Bool) (ln : Nat) (x : Int32) : ¬ fltA hd ln x = 1 := by
  unfold fltA
  split
  · split <;> decide
  · decide
theorem c_item {uf ux uy : Ob} {hd : Nat → Bool} {ln sz : Nat → Nat} {it : Nat → Nat → Int32} (hs : shB ux uy hd ln sz it) (hk : shK ln sz) {x1 x2 x3 x4 : Int32} {post : Int32 → Ob → Ob → Prop}
    (h1 : A_item hd ln sz x1 x2 x3 = 1 → ∀ vx vy, shB vx vy hd ln sz (va_up it x1.toNatClampNeg (va_up (it x1.toNatClampNeg) x3.toNatClampNeg (putV x2 x4))) → post 1 vx vy) (h0 : ¬ A_item hd ln sz x1 x2 x3 = 1 → post (A_item hd ln sz x1 x2 x3) ux uy) : wp_X7_item uf ux uy x1 x2 x3 x4 post := by
  unfold wp_X7_item
  unfold A_item at h1 h0
  refine c_among (n := 2) (by omega) ?_
  refine bI_if (fun e1 => ?_) (fun e1 => ?_)
  · rw [e1] at h0
    exact h0 nm1
  refine c_among (n := 2) (by omega) ?_
  refine bI_if2 (fun e2 => ?_) (fun e2 => ?_)
  · rw [e1, e2, if_pos (by decide)] at h1 h0
    rcases ix2_cases e1 with rfl | rfl
    · rw [c0] at h1 h0
      refine ⟨in0_2, fun _ => ?_, fun z => absurd z n01⟩
      refine s_faultAs hs.1 ⟨fun q => ?_, fun q => ?_⟩
      · rw [if_pos q] at h1 h0
        rw [hs.1.2.1]
        have k := (hk 0 (by omega)).2
        refine c_among (by omega) ?_
        refine bI_if2 (fun e3 => ?_) (fun e3 => ?_)
        · have h1 := h1 (if_pos e3)
          obtain ⟨i, hi, rfl⟩ := ix_t (by omega) e3
          rw [nI_clamp (by omega)] at h1
          have hx2 : x2 = nI (ln 0) := by
            unfold fltA at q
            split at q
            · split at q
              · rename_i y
                exact y
              · exact absurd q (by decide)
            · exact absurd q (by decide)
          refine s_shput hs.1 (by omega) (fun v hv => h1 v uy ⟨?_, ?_⟩)
          · rw [va_up_self, hx2]
            exact hv
          · rw [va_up_ne _ _ (by decide)]
            exact hs.2
        · rw [e3] at h0
          exact h0 (by decide)
      · rw [if_neg q] at h0
        exact h0 (fltA_ne _ _ _)
    · rw [c1] at h1 h0
      refine ⟨in1_2, fun z => absurd z n10, fun _ => ?_⟩
      refine s_faultAs hs.2 ⟨fun q => ?_, fun q => ?_⟩
      · rw [if_pos q] at h1 h0
        rw [hs.2.2.1]
        have k := (hk 1 (by omega)).2
        refine c_among (by omega) ?_
        refine bI_if2 (fun e3 => ?_) (fun e3 => ?_)
        · have h1 := h1 (if_pos e3)
          obtain ⟨i, hi, rfl⟩ := ix_t (by omega) e3
          rw [nI_clamp (by omega)] at h1
          have hx2 : x2 = nI (ln 1) := by
            unfold fltA at q
            split at q
            · split at q
              · rename_i y
                exact y
              · exact absurd q (by decide)
            · exact absurd q (by decide)
          refine s_shput hs.2 (by omega) (fun v hv => h1 ux v ⟨?_, ?_⟩)
          · rw [va_up_ne _ _ (by decide)]
            exact hs.1
          · rw [va_up_self, hx2]
            exact hv
        · rw [e3] at h0
          exact h0 (by decide)
      · rw [if_neg q] at h0
        exact h0 (fltA_ne _ _ _)
  · rw [e1, e2] at h0
    exact h0 nm1
/-! the model's sheets -/
theorem m_isSheet {x : Int32} {post : Int32 → Prop} (h : post (bI (ix x 2))) : wp_X8_isSheet x post := by
  unfold wp_X8_isSheet
  refine m_in (a := 0) (b := 1) (by decide) (by decide) ?_
  rw [ixr_0]
  exact ⟨zb_bI _, h⟩
theorem ix60 (s i : Nat) : (60 * nI s) + nI i = nI (60 * s + i) := by
  rw [show (60 : Int32) = nI 60 from rfl, pk_mul, nI_add]
theorem m_sheet {u : Ob} {N c : Nat} {bg : Nat → Bool} {ar : Nat → Nat → Nat} {tp : List Nat} {sN : Nat} {wN : Nat → List Nat} {sA : Nat} {wA : Nat → List Nat} {hd : Nat → Bool} {ln sz : Nat → Nat} {it : Nat → Nat → Int32} (h : MR u N c bg ar tp sN wN sA wA hd ln sz it) {x1 x2 x3 : Int32} {post : Int32 → Ob → Prop}
    (h2 : sheN x1 x2 x3 = 2 → ∀ v, MR v N c bg ar tp sN wN sA wA (va_up hd x1.toNatClampNeg true) (va_up ln x1.toNatClampNeg x2.toNatClampNeg) (va_up sz x1.toNatClampNeg x3.toNatClampNeg) (va_up it x1.toNatClampNeg (fun _ => 0)) → post x3 v) (h1 : sheN x1 x2 x3 = 1 → post (-14) u) (h0 : sheN x1 x2 x3 = 0 → post (-1) u) : wp_X8_sheet u x1 x2 x3 post := by
  unfold wp_X8_sheet
  refine m_isSheet ?_
  refine bI_if (fun e1 => h0 (by rw [sheN, e1]; rfl)) (fun e1 => ?_)
  refine m_in (a := 0) (b := 1) (by decide) (by decide) ?_
  rw [ixr_0]
  refine bI_if (fun e2 => h0 (by rw [sheN, e1, e2]; rfl)) (fun e2 => ?_)
  have e12 : (ix x1 2 && ix x2 2) = true := by rw [e1, e2]; rfl
  unfold sheN at h2 h1 h0
  rw [if_pos e12] at h2 h1 h0
  refine ⟨fun q => ?_, fun q => h0 (if_neg q)⟩
  rw [if_pos q] at h2 h1
  refine ⟨fun q2 => ?_, fun q2 => h1 (if_neg q2)⟩
  have h2 := h2 (if_pos q2)
  obtain ⟨l, hl, rfl⟩ := ix_t (by omega) e2
  have e3 : ix x3 61 = true := decide_eq_true (by
    rw [Int32.le_iff_toInt_le] at q q2
    have a : (60 : Int32).toInt = 60 := rfl
    have b : (0 : Int32).toInt = 0 := rfl
    omega)
  obtain ⟨n, hn, rfl⟩ := ix_t (by omega) e3
  obtain ⟨s, hs2, rfl⟩ := ix_t (by omega) e1
  have cs : (nI s).toNatClampNeg = s := nI_clamp (by omega)
  rw [cs, nI_clamp (by omega), nI_clamp (by omega)] at h2
  rw [cs]
  have i2 : vp_in (nI s) 2 := vp_in_nI hs2 (by omega)
  refine ⟨i2, fun u8 e8 => ⟨i2, fun u10 e10 => ?_⟩⟩
  obtain ⟨b1, b2, b3, b4, b5⟩ := h
  refine lq2_m (fun m x v => ∃ i, i + m = 60 ∧ x = nI i ∧ v.1 = u.1 ∧ (∀ j, j ≠ 22 → j ≠ 23 → j ≠ 24 → v.2.1 j = u.2.1 j) ∧ v.2.1 22 = upd (u.2.1 22) s (nI l) ∧ v.2.1 23 = upd (u.2.1 23) s (nI n) ∧ (∀ j, j < i → v.2.1 24 (60 * s + j) = 0) ∧ ∀ j, (j < 60 * s ∨ 60 * s + 60 ≤ j) → v.2.1 24 j = u.2.1 24 j) ?_ 60 0 u10 ⟨0, rfl, rfl, by rw [e10, e8]; rfl, fun j y1 y2 y3 => by rw [e10, ob_ao _ _ y2, e8, ob_ao _ _ y1], by rw [e10, ob_ao _ _ (by decide), e8, ob_as], by rw [e10, ob_as, e8, ob_ao _ _ (by decide)], fun j hj => absurd hj (Nat.not_lt_zero j), fun j _ => by rw [e10, ob_ao _ _ (by decide), e8, ob_ao _ _ (by decide)]⟩
  rintro LL m x v ⟨i, him, rfl, v1, vo, v22, v23, vz, vk⟩ ih
  refine pk_le 60 i (fun hc => ?_) (fun hc => ?_)
  · refine h2 v ⟨b1.cg (by rw [v1]) (by rw [v1]) (vo 1 (by decide) (by decide) (by decide)) (fun q hq => vo (3 + q) (by omega) (by omega) (by omega)), b2.cg (by rw [v1]) (vo 8 (by decide) (by decide) (by decide)), b3.cg (vo 13 (by decide) (by decide) (by decide)) (vo 14 (by decide) (by decide) (by decide)) (vo 15 (by decide) (by decide) (by decide)), b4.cg (vo 13 (by decide) (by decide) (by decide)) (vo 14 (by decide) (by decide) (by decide)) (vo 15 (by decide) (by decide) (by decide)), fun t ht => ?_⟩
    rw [v22, v23]
    by_cases z : t = s
    · subst z
      rw [va_up_self, va_up_self, va_up_self, va_up_self, up_s, up_s]
      exact ⟨rfl, rfl, fun j hj => vz j (by omega)⟩
    · rw [va_up_ne _ _ z, va_up_ne _ _ z, va_up_ne _ _ z, va_up_ne _ _ z, up_o _ _ z, up_o _ _ z]
      obtain ⟨d1, d2, d3⟩ := b5 t ht
      refine ⟨d1, d2, fun j hj => ?_⟩
      rw [vk _ (by omega)]
      exact d3 j hj
  · rw [ix60]
    refine ⟨vp_in_nI (by omega) (by omega), fun u16 e16 => ?_⟩
    rw [nI_clamp (by omega)] at e16
    refine ih (m - 1) _ _ (by omega) ⟨i + 1, by omega, nI_1 i, by rw [e16]; exact v1, fun j y1 y2 y3 => ?_, ?_, ?_, fun j hj => ?_, fun j hj => ?_⟩
    · rw [e16, ob_ao _ _ y3]
      exact vo j y1 y2 y3
    · rw [e16, ob_ao _ _ (by decide)]
      exact v22
    · rw [e16, ob_ao _ _ (by decide)]
      exact v23
    · rw [e16, ob_as]
      by_cases z : j = i
      · rw [z, up_s]
      · rw [up_o _ _ (by omega)]
        exact vz j (by omega)
    · rw [e16, ob_as, up_o _ _ (by omega)]
      exact vk j hj
theorem lane_ge {hd : Bool} {l : Nat} (hl : l < 2) {A B : Prop} (f : hd = true → A) (g : hd = false → B) : ((0 : Int32) ≤ (if hd then nI l else -1) → A) ∧ (¬ (0 : Int32) ≤ (if hd then nI l else -1) → B) := by
  cases hd with
  | true => exact ⟨fun _ => f rfl, fun z => absurd (nI_pos' (by omega)) z⟩
  | false => exact ⟨fun z => absurd z (show ¬ (0 : Int32) ≤ -1 by decide), fun _ => g rfl⟩
theorem m_drop {u : Ob} {N c : Nat} {bg : Nat → Bool} {ar : Nat → Nat → Nat} {tp : List Nat} {sN : Nat} {wN : Nat → List Nat} {sA : Nat} {wA : Nat → List Nat} {hd : Nat → Bool} {ln sz : Nat → Nat} {it : Nat → Nat → Int32} (h : MR u N c bg ar tp sN wN sA wA hd ln sz it) (hk : shK ln sz) {x : Int32} {post : Int32 → Ob → Prop}
    (h2 : ix x 2 = true → hd x.toNatClampNeg = true → ∀ v, MR v N c bg ar tp sN wN sA wA (va_up hd x.toNatClampNeg false) ln sz it → post (nI (sz x.toNatClampNeg)) v) (h1 : ix x 2 = true → hd x.toNatClampNeg = false → post (-11) u) (h0 : ix x 2 = false → post (-1) u) : wp_X8_drop u x post := by
  unfold wp_X8_drop
  refine m_isSheet ?_
  refine bI_if2 (fun e => ?_) (fun e => h0 e)
  have h2 := h2 e
  have h1 := h1 e
  obtain ⟨s, hs2, rfl⟩ := ix_t (by omega) e
  have cs : (nI s).toNatClampNeg = s := nI_clamp (by omega)
  rw [cs] at h2 h1 ⊢
  have i2 : vp_in (nI s) 2 := vp_in_nI hs2 (by omega)
  obtain ⟨b1, b2, b3, b4, b5⟩ := h
  rw [(b5 s hs2).1]
  refine ⟨i2, lane_ge (hk s hs2).1 (fun z => ⟨i2, fun u6 e6 => ⟨i2, ?_⟩⟩) (fun z => h1 z)⟩
  have vo : ∀ j, j ≠ 22 → u6.2.1 j = u.2.1 j := fun j hj => by rw [e6, ob_ao _ _ hj]
  have v1 : u6.1 = u.1 := by rw [e6]; rfl
  rw [vo 23 (by decide), (b5 s hs2).2.1]
  refine h2 z u6 ⟨b1.cg (by rw [v1]) (by rw [v1]) (vo 1 (by decide)) (fun q hq => vo (3 + q) (by omega)), b2.cg (by rw [v1]) (vo 8 (by decide)), b3.cg (vo 13 (by decide)) (vo 14 (by decide)) (vo 15 (by decide)), b4.cg (vo 13 (by decide)) (vo 14 (by decide)) (vo 15 (by decide)), fun t ht => ?_⟩
  obtain ⟨d1, d2, d3⟩ := b5 t ht
  rw [vo 23 (by decide), vo 24 (by decide)]
  refine ⟨?_, d2, d3⟩
  rw [e6, ob_as]
  by_cases y : t = s
  · rw [y, up_s, va_up_self]
    rfl
  · rw [up_o _ _ y, va_up_ne _ _ y]
    exact d1
theorem fltA_t {ln : Nat} {x : Int32} : fltA true ln x = if x = nI ln then 0 else -12 := rfl
theorem m_item {u : Ob} {N c : Nat} {bg : Nat → Bool} {ar : Nat → Nat → Nat} {tp : List Nat} {sN : Nat} {wN : Nat → List Nat} {sA : Nat} {wA : Nat → List Nat} {hd : Nat → Bool} {ln sz : Nat → Nat} {it : Nat → Nat → Int32} (h : MR u N c bg ar tp sN wN sA wA hd ln sz it) (hk : shK ln sz) {x1 x2 x3 x4 : Int32} {post : Int32 → Ob → Prop}
    (h1 : A_item hd ln sz x1 x2 x3 = 1 → ∀ v, MR v N c bg ar tp sN wN sA wA hd ln sz (va_up it x1.toNatClampNeg (va_up (it x1.toNatClampNeg) x3.toNatClampNeg (putV x2 x4))) → post 1 v) (h0 : ¬ A_item hd ln sz x1 x2 x3 = 1 → post (A_item hd ln sz x1 x2 x3) u) : wp_X8_item u x1 x2 x3 x4 post := by
  unfold wp_X8_item
  unfold A_item at h1 h0
  refine m_isSheet ?_
  refine bI_if (fun e1 => ?_) (fun e1 => ?_)
  · rw [e1] at h0
    exact h0 nm1
  refine m_in (a := 0) (b := 1) (by decide) (by decide) ?_
  rw [ixr_0]
  refine bI_if2 (fun e2 => ?_) (fun e2 => ?_)
  · rw [e1, e2, if_pos (by decide)] at h1 h0
    obtain ⟨s, hs2, rfl⟩ := ix_t (by omega) e1
    have cs : (nI s).toNatClampNeg = s := nI_clamp (by omega)
    rw [cs] at h1 h0 ⊢
    have i2 : vp_in (nI s) 2 := vp_in_nI hs2 (by omega)
    obtain ⟨b1, b2, b3, b4, b5⟩ := h
    have k := hk s hs2
    rw [(b5 s hs2).1, (b5 s hs2).2.1]
    refine ⟨i2, lane_ge k.1 (fun z => ⟨i2, ?_⟩) (fun z => ?_)⟩
    · rw [z, if_pos rfl]
      rw [z, fltA_t] at h1 h0
      refine ⟨fun y => ⟨i2, ?_⟩, fun y => ?_⟩
      · rw [if_pos y.symm, if_pos rfl] at h1 h0
        refine m_in0 (by omega) ?_
        refine bI_if2 (fun e3 => ?_) (fun e3 => ?_)
        · have h1 := h1 (if_pos e3)
          obtain ⟨i, hi, rfl⟩ := ix_t (by omega) e3
          rw [nI_clamp (by omega)] at h1
          have key : ∀ w : Int32, w = putV x2 x4 → vp_in ((60 * nI s) + nI i) 120 ∧ ∀ u_15 : Ob, u_15 = fs_a u 24 (upd (u.2.1 24) ((60 * nI s) + nI i).toNatClampNeg w) → post 1 u_15 := by
            intro w hw
            rw [ix60, nI_clamp (by omega)]
            refine ⟨vp_in_nI (by omega) (by omega), fun u15 e15 => ?_⟩
            have vo : ∀ j, j ≠ 24 → u15.2.1 j = u.2.1 j := fun j hj => by rw [e15, ob_ao _ _ hj]
            have v1 : u15.1 = u.1 := by rw [e15]; rfl
            refine h1 u15 ⟨b1.cg (by rw [v1]) (by rw [v1]) (vo 1 (by decide)) (fun q hq => vo (3 + q) (by omega)), b2.cg (by rw [v1]) (vo 8 (by decide)), b3.cg (vo 13 (by decide)) (vo 14 (by decide)) (vo 15 (by decide)), b4.cg (vo 13 (by decide)) (vo 14 (by decide)) (vo 15 (by decide)), fun t ht => ?_⟩
            obtain ⟨d1, d2, d3⟩ := b5 t ht
            rw [vo 22 (by decide), vo 23 (by decide)]
            refine ⟨d1, d2, fun j hj => ?_⟩
            rw [e15, ob_as]
            by_cases y2 : t = s
            · subst y2
              rw [va_up_self]
              by_cases y3 : j = i
              · rw [y3, up_s, va_up_self, hw]
              · rw [up_o _ _ (by omega), va_up_ne _ _ y3]
                exact d3 j hj
            · rw [va_up_ne _ _ y2, up_o _ _ (by omega)]
              exact d3 j hj
          simp only [jn]
          refine ⟨fun y2 => key _ ?_, fun y2 => key _ ?_⟩
          · rw [putV, if_neg y2]
          · rw [putV, if_pos y2]
        · rw [e3] at h0
          exact h0 (by decide)
      · have f : (if x2 = nI (ln s) then (0 : Int32) else -12) = -12 := if_neg (fun q => y q.symm)
        rw [f, if_neg (by decide)] at h0
        exact h0 (by decide)
    · have f : fltA false (ln s) x2 = -11 := rfl
      rw [z, f, if_neg (by decide)] at h0
      exact h0 (by decide)
  · rw [e1, e2] at h0
    exact h0 nm1
