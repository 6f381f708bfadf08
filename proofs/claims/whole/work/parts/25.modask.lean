/-! the model: what is asked of a search -/
theorem nb_t {b : Bool} (h : (!b) = true) : b = false := by cases b <;> simp at h ⊢
theorem nb_f {b : Bool} (h : (!b) = false) : b = true := by cases b <;> simp at h ⊢
theorem m_found {u : Ob} {N c : Nat} {bg : Nat → Bool} {ar : Nat → Nat → Nat} {tp : List Nat} {sN : Nat} {wN : Nat → List Nat} {sA : Nat} {wA : Nat → List Nat} {hd : Nat → Bool} {ln sz : Nat → Nat} {it : Nat → Nat → Int32} (h : MR u N c bg ar tp sN wN sA wA hd ln sz it) (hk : mK N c ar) (hp : plK N sA wA) {post : Int32 → Ob → Prop} (h1 : ∀ v, MR v N c bg ar tp sN wN sA wA hd ln sz it → post (A_found (srch bg ar c sA wA)) v) : wp_X8_found u post := by
  unfold wp_X8_found
  refine m_search h.1 hk h.2.2.2.1 hp (fun v kv hs => ?_)
  have h1 := h1 v (kv.R h)
  unfold A_found at h1
  refine bI_if (fun z => ?_) (fun z => ?_)
  · rw [nb_f z] at h1
    exact h1
  · have hs := hs (nb_t z)
    rw [hs.1]
    rw [nb_t z] at h1
    exact h1
theorem m_fact {u : Ob} {F : Nat → Ent} {n : Nat} (hs : dS u F n) {k : Nat} (hk : k < n) {x : Int32} (hx : ix x 7 = true) {post : Int32 → Prop} (h : post (A_fact F n k x)) : (x = 0 → vp_in (nI k) 83 ∧ post (u.2.1 13 (nI k).toNatClampNeg)) ∧ (¬ x = 0 → (x = 1 → vp_in (nI k) 80 ∧ post (u.2.1 17 (nI k).toNatClampNeg)) ∧ (¬ x = 1 → (x = 2 → vp_in (((2 * nI k) + x) - 2) 166 ∧ post (u.2.1 14 (((2 * nI k) + x) - 2).toNatClampNeg)) ∧ (¬ x = 2 → (x = 3 → vp_in (((2 * nI k) + x) - 2) 166 ∧ post (u.2.1 14 (((2 * nI k) + x) - 2).toNatClampNeg)) ∧ (¬ x = 3 → (x = 4 → vp_in (nI k) 80 ∧ post (u.2.1 18 (nI k).toNatClampNeg)) ∧ (¬ x = 4 → (x = 5 → vp_in (nI k) 80 ∧ post (u.2.1 19 (nI k).toNatClampNeg)) ∧ (¬ x = 5 → wp_X8_isLeast u (nI k) (fun (r_20 : Int32) => ((r_20 = 0) → post 0) ∧ ((¬ r_20 = 0) → post 1)))))))) := by
  have hn := hs.2.1
  obtain ⟨a1, a2, a3, a4, a5⟩ := hs.2.2 k hk
  have i8 : vp_in (nI k) 80 := vp_in_nI (by omega) (by omega)
  unfold A_fact at h
  rw [nI_clamp (by omega), a1.1, a2, a3, a4]
  refine ⟨fun q => ?_, fun q => ?_⟩
  · rw [if_pos q] at h
    exact ⟨vp_in_nI (by omega) (by omega), h⟩
  rw [if_neg q] at h
  refine ⟨fun q => ?_, fun q => ?_⟩
  · rw [if_pos q] at h
    exact ⟨i8, h⟩
  rw [if_neg q] at h
  refine ⟨fun q => ?_, fun q => ?_⟩
  · rw [if_pos q] at h
    have e : ((2 * nI k) + x) - 2 = nI (2 * k + 0) := by
      rw [q, mul2, show (2 : Int32) = nI 2 from rfl, nI_add, pk_sub (by omega)]
      congr 1
    rw [e, nI_clamp (by omega), (a1.2 0 (by omega)).1]
    exact ⟨vp_in_nI (by omega) (by omega), h⟩
  rw [if_neg q] at h
  refine ⟨fun q => ?_, fun q => ?_⟩
  · rw [if_pos q] at h
    have e : ((2 * nI k) + x) - 2 = nI (2 * k + 1) := by
      rw [q, mul2, show (3 : Int32) = nI 3 from rfl, show (2 : Int32) = nI 2 from rfl, nI_add, pk_sub (by omega)]
      congr 1
    rw [e, nI_clamp (by omega), (a1.2 1 (by omega)).1]
    exact ⟨vp_in_nI (by omega) (by omega), h⟩
  rw [if_neg q] at h
  refine ⟨fun q => ?_, fun q => ?_⟩
  · rw [if_pos q] at h
    exact ⟨i8, h⟩
  rw [if_neg q] at h
  refine ⟨fun q => ?_, fun q => ?_⟩
  · rw [if_pos q] at h
    exact ⟨i8, h⟩
  rw [if_neg q] at h
  refine m_isLeast hs hk ?_
  refine bI_if (fun e => ?_) (fun e => ?_)
  · rw [e] at h
    exact h
  · rw [e] at h
    exact h
theorem m_about {u : Ob} {N c : Nat} {bg : Nat → Bool} {ar : Nat → Nat → Nat} {tp : List Nat} {sN : Nat} {wN : Nat → List Nat} {sA : Nat} {wA : Nat → List Nat} {hd : Nat → Bool} {ln sz : Nat → Nat} {it : Nat → Nat → Int32} (h : MR u N c bg ar tp sN wN sA wA hd ln sz it) (hk : mK N c ar) (hp : plK N sA wA) {x1 x2 : Int32} {post : Int32 → Ob → Prop} (h1 : ∀ v, MR v N c bg ar tp sN wN sA wA hd ln sz it → post (A_about (srch bg ar c sA wA) x1 x2) v) : wp_X8_about u x1 x2 post := by
  unfold wp_X8_about
  unfold A_about at h1
  refine ⟨fun q => ?_, fun q => ?_⟩
  · have h1 := h1 u h
    rw [if_pos q] at h1
    exact h1
  rw [if_neg q] at h1
  refine m_in (a := 0) (b := 6) (by decide) (by decide) ?_
  rw [ixr_0]
  refine bI_if2 (fun e => ?_) (fun e => ?_)
  · rw [if_pos e] at h1
    refine m_search h.1 hk h.2.2.2.1 hp (fun v kv hs => ?_)
    have h1 := h1 v (kv.R h)
    refine bI_if2 (fun z => ?_) (fun z => ?_)
    · have hs := hs (nb_t z)
      have hn := hs.2.1
      rw [nb_t z, if_neg (by decide)] at h1
      obtain ⟨j, hj, rfl⟩ := nI_of q
      rw [ix_nI hj, nI_clamp hj] at h1
      rw [hs.1]
      refine pk_lt j _ (fun q4 => ?_) (fun q4 => ?_)
      · rw [decide_eq_true q4] at h1
        exact m_fact hs q4 e (post := fun r => post r v) h1
      · rw [decide_eq_false (by omega)] at h1
        exact h1
    · rw [nb_f z] at h1
      exact h1
  · have h1 := h1 u h
    rw [e] at h1
    exact h1
theorem m_letter {u : Ob} {N c : Nat} {bg : Nat → Bool} {ar : Nat → Nat → Nat} {tp : List Nat} {sN : Nat} {wN : Nat → List Nat} {sA : Nat} {wA : Nat → List Nat} {hd : Nat → Bool} {ln sz : Nat → Nat} {it : Nat → Nat → Int32} (h : MR u N c bg ar tp sN wN sA wA hd ln sz it) (hk : mK N c ar) (hp : plK N sA wA) {x1 x2 x3 : Int32} {post : Int32 → Ob → Prop} (h1 : ∀ v, MR v N c bg ar tp sN wN sA wA hd ln sz it → post (A_letter (srch bg ar c sA wA) x1 x2 x3) v) : wp_X8_letter u x1 x2 x3 post := by
  unfold wp_X8_letter
  unfold A_letter at h1
  refine ⟨fun q => ?_, fun q => ?_⟩
  · have h1 := h1 u h
    rw [if_pos q] at h1
    exact h1
  rw [if_neg q] at h1
  refine ⟨fun q3 => ?_, fun q3 => ?_⟩
  · have h1 := h1 u h
    rw [if_pos q3] at h1
    exact h1
  rw [if_neg q3] at h1
  refine m_in (a := 0) (b := 1) (by decide) (by decide) ?_
  rw [ixr_0]
  refine bI_if2 (fun e => ?_) (fun e => ?_)
  · rw [if_pos e] at h1
    refine m_search h.1 hk h.2.2.2.1 hp (fun v kv hs => ?_)
    have h1 := h1 v (kv.R h)
    refine bI_if2 (fun z => ?_) (fun z => ?_)
    · have hs := hs (nb_t z)
      have hn := hs.2.1
      rw [nb_t z, if_neg (by decide)] at h1
      obtain ⟨j, hj, rfl⟩ := nI_of q
      obtain ⟨i, hi, rfl⟩ := nI_of q3
      obtain ⟨l, hl, rfl⟩ := ix_t (by omega) e
      rw [ix_nI hj, nI_clamp hj, nI_clamp (by omega), nI_clamp hi, ix_nI hi] at h1
      rw [hs.1]
      refine pk_le _ j (fun q4 => ?_) (fun q4 => ?_)
      · rw [decide_eq_false (by omega)] at h1
        exact h1
      · rw [decide_eq_true q4] at h1
        obtain ⟨a1, a2, a3, a4, a5⟩ := hs.2.2 j q4
        have wl := a1.2 l hl
        have ok := a5.2.1 l hl
        rw [ix2, nI_clamp (by omega), wl.1]
        refine ⟨vp_in_nI (by omega) (by omega), ?_⟩
        refine pk_le _ i (fun q5 => ?_) (fun q5 => ?_)
        · rw [decide_eq_false (by omega)] at h1
          exact h1
        · rw [decide_eq_true q5] at h1
          refine s_spot j l i ⟨vp_in_nI (by omega) (by omega), ?_⟩
          rw [nI_clamp (by omega), wl.2 i q5]
          exact h1
    · rw [nb_f z] at h1
      exact h1
  · have h1 := h1 u h
    rw [e] at h1
    exact h1
theorem m_least {u : Ob} {N c : Nat} {bg : Nat → Bool} {ar : Nat → Nat → Nat} {tp : List Nat} {sN : Nat} {wN : Nat → List Nat} {sA : Nat} {wA : Nat → List Nat} {hd : Nat → Bool} {ln sz : Nat → Nat} {it : Nat → Nat → Int32} (h : MR u N c bg ar tp sN wN sA wA hd ln sz it) (hk : mK N c ar) (hp : plK N sA wA) {post : Int32 → Ob → Prop} (h1 : ∀ v, MR v N c bg ar tp sN wN sA wA hd ln sz it → post (A_least (srch bg ar c sA wA)) v) : wp_X8_least u post := by
  unfold wp_X8_least
  refine m_search h.1 hk h.2.2.2.1 hp (fun v kv hs => ?_)
  have h1 := h1 v (kv.R h)
  unfold A_least at h1
  refine bI_if2 (fun z => ?_) (fun z => ?_)
  · have hs := hs (nb_t z)
    have hn := hs.2.1
    rw [nb_t z, if_neg (by decide)] at h1
    rw [hs.1]
    refine lq2_m (fun m x y => ∃ j, j + m = (srch bg ar c sA wA).2.1 ∧ x = nI j ∧ y = nI (cnt (lea (srch bg ar c sA wA).1 (srch bg ar c sA wA).2.1) j)) ?_ (srch bg ar c sA wA).2.1 0 0 ⟨0, by omega, rfl, rfl⟩
    rintro LL m x y ⟨j, hj, rfl, rfl⟩ ih
    refine pk_le _ j (fun hc => ?_) (fun hc => ?_)
    · have e : j = (srch bg ar c sA wA).2.1 := by omega
      rw [e]
      exact h1
    · refine m_isLeast hs hc ?_
      simp only [jn]
      refine bI_if (fun g => ?_) (fun g => ?_)
      · refine ih (m - 1) _ _ (by omega) ⟨j + 1, by omega, nI_1 j, ?_⟩
        rw [cnt, g]
        exact nI_add _ 0
      · refine ih (m - 1) _ _ (by omega) ⟨j + 1, by omega, nI_1 j, ?_⟩
        rw [cnt, g]
        exact nI_1 _
  · rw [nb_f z] at h1
    exact h1
theorem m_far {u : Ob} {N c : Nat} {bg : Nat → Bool} {ar : Nat → Nat → Nat} {tp : List Nat} {sN : Nat} {wN : Nat → List Nat} {sA : Nat} {wA : Nat → List Nat} {hd : Nat → Bool} {ln sz : Nat → Nat} {it : Nat → Nat → Int32} (h : MR u N c bg ar tp sN wN sA wA hd ln sz it) (hk : mK N c ar) (hpn : plK N sN wN) (hp : plK N sA wA) {post : Int32 → Ob → Prop} (h1 : ∀ v, MR v N c bg ar tp sN wN sA wA hd ln sz it → post (A_far (srch bg ar c sA wA) sN wN) v) : wp_X8_far u post := by
  unfold wp_X8_far
  refine m_search h.1 hk h.2.2.2.1 hp (fun v kv hs => ?_)
  have hv := kv.R h
  have h1 := h1 v hv
  unfold A_far at h1
  refine bI_if2 (fun z => ?_) (fun z => ?_)
  · have hs := hs (nb_t z)
    have hn := hs.2.1
    rw [nb_t z, if_neg (by decide)] at h1
    refine m_nearest hs hv.2.2.1 hpn hk.2.1 (fun hf => ?_) (fun hf => ?_)
    · rw [if_pos hf] at h1
      refine ⟨fun _ => ⟨vp_in_nI (by omega) (by omega), ?_⟩, fun y => absurd (nI_pos' (by omega)) y⟩
      rw [nI_clamp (by omega), (hs.2.2 _ hf).2.1]
      exact h1
    · rw [if_neg (by omega)] at h1
      exact ⟨fun y => absurd y (by decide), fun _ => h1⟩
  · rw [nb_f z] at h1
    exact h1
theorem m_way {u : Ob} {N c : Nat} {bg : Nat → Bool} {ar : Nat → Nat → Nat} {tp : List Nat} {sN : Nat} {wN : Nat → List Nat} {sA : Nat} {wA : Nat → List Nat} {hd : Nat → Bool} {ln sz : Nat → Nat} {it : Nat → Nat → Int32} (h : MR u N c bg ar tp sN wN sA wA hd ln sz it) (hk : mK N c ar) (hpn : plK N sN wN) (hp : plK N sA wA) {x : Int32} {post : Int32 → Ob → Prop} (h1 : ∀ v, MR v N c bg ar tp sN wN sA wA hd ln sz it → post (A_way (srch bg ar c sA wA) sN wN x) v) : wp_X8_way u x post := by
  unfold wp_X8_way
  unfold A_way at h1
  refine ⟨fun q => ?_, fun q => ?_⟩
  · rw [if_pos q] at h1
    refine m_search h.1 hk h.2.2.2.1 hp (fun v kv hs => ?_)
    have hv := kv.R h
    have h1 := h1 v hv
    refine bI_if2 (fun z => ?_) (fun z => ?_)
    · have hs := hs (nb_t z)
      have hn := hs.2.1
      rw [nb_t z, if_neg (by decide)] at h1
      refine m_nearest hs hv.2.2.1 hpn hk.2.1 (fun hf => ?_) (fun hf => ?_)
      · rw [if_pos hf] at h1
        have g := hs.2.2 _ hf
        have gr := g.2.2.2.2.2.2.1
        refine ⟨fun _ => ⟨vp_in_nI (by omega) (by omega), ?_⟩, fun y => absurd (nI_pos' (by omega)) y⟩
        rw [nI_clamp (by omega), g.2.1]
        have qn : ¬ x < 0 := by
          rw [Int32.le_iff_toInt_le] at q
          rw [Int32.lt_iff_toInt_lt]
          omega
        obtain ⟨j, hj, rfl⟩ := nI_of qn
        rw [ix_nI hj, nI_clamp hj] at h1
        refine pk_lt j _ (fun q4 => ?_) (fun q4 => ?_)
        · rw [decide_eq_true q4] at h1
          generalize hF : (srch bg ar c sA wA).1 = F at *
          generalize hN : (srch bg ar c sA wA).2.1 = n at *
          generalize hK : fbl (bel F sN wN) n = k0 at *
          refine lq2_m (fun m x y => ∃ s q, s + m = j ∧ q < n ∧ x = nI s ∧ y = nI q ∧ m < (F q).2.2.2.2 ∧ wayP F j k0 = wayP F m q) ?_ j 0 (nI k0) ⟨0, k0, by omega, hf, rfl, rfl, q4, rfl⟩
          rintro LL m x y ⟨s, q, hsm, hq, rfl, rfl, hr, hw⟩ ih
          obtain ⟨b1, b2, b3, b4, b5⟩ := hs.2.2 q hq
          have i1 : vp_in (nI q) 80 := vp_in_nI (by omega) (by omega)
          rw [nI_clamp (by omega), b3, b4]
          refine pk_le j s (fun hc => ?_) (fun hc => ?_)
          · refine ⟨i1, ?_⟩
            have e : m = 0 := by omega
            rw [e] at hw
            rw [hw] at h1
            exact h1
          · obtain ⟨t, ht, e7, e8⟩ := b5.2.2.2.2 (by omega)
            refine ⟨i1, ?_⟩
            rw [e7]
            refine ih (m - 1) _ _ (by omega) ⟨s + 1, t, by omega, by omega, nI_1 s, rfl, by omega, ?_⟩
            rw [hw]
            have e9 : m = (m - 1) + 1 := by omega
            rw [e9, wayP, e7, nI_clamp (by omega)]
            rfl
        · rw [decide_eq_false (by omega)] at h1
          exact h1
      · rw [if_neg (by omega)] at h1
        exact ⟨fun y => absurd y (by decide), fun _ => h1⟩
    · rw [nb_f z] at h1
      exact h1
  · have h1 := h1 u h
    rw [if_neg q] at h1
    exact h1
