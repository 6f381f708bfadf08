/-! the search: what is found, in order -/
/-- the first k below n with p k; n, if there is none -/
def fbl (p : Nat → Bool) : Nat → Nat
  | 0 => 0
  | n + 1 => if fbl p n < n then fbl p n else if p n then n else n + 1
theorem fbl_le (p : Nat → Bool) : ∀ n, fbl p n ≤ n
  | 0 => Nat.le_refl 0
  | n + 1 => by
    have ih := fbl_le p n
    unfold fbl
    split
    · omega
    · split <;> omega
theorem fbl_no (p : Nat → Bool) : ∀ n k, k < fbl p n → p k = false
  | 0, k, h => absurd h (Nat.not_lt_zero k)
  | n + 1, k, h => by
    have ih := fbl_no p n k
    have h3 := fbl_le p n
    unfold fbl at h
    split at h
    · exact ih h
    · rename_i h1
      split at h
      · exact ih (by omega)
      · rename_i h2
        by_cases q : k = n
        · rw [q]
          simpa using h2
        · exact ih (by omega)
theorem fbl_yes (p : Nat → Bool) : ∀ n, fbl p n < n → p (fbl p n) = true
  | 0, h => absurd h (Nat.not_lt_zero _)
  | n + 1, h => by
    have ih := fbl_yes p n
    by_cases h1 : fbl p n < n
    · have e : fbl p (n + 1) = fbl p n := by rw [fbl, if_pos h1]
      rw [e]
      exact ih h1
    · by_cases h2 : p n = true
      · have e : fbl p (n + 1) = n := by rw [fbl, if_neg h1, if_pos h2]
        rw [e]
        exact h2
      · have e : fbl p (n + 1) = n + 1 := by rw [fbl, if_neg h1, if_neg h2]
        omega
theorem fbl_eq {p : Nat → Bool} {n k : Nat} (h1 : ∀ j, j < k → p j = false) (h2 : k < n) (h3 : p k = true) : fbl p n = k := by
  rcases Nat.lt_trichotomy (fbl p n) k with q | q | q
  · have := fbl_yes p n (by omega)
    rw [h1 _ q] at this
    cases this
  · exact q
  · have := fbl_no p n k q
    rw [h3] at this
    cases this
theorem fbl_none {p : Nat → Bool} {n : Nat} (h1 : ∀ j, j < n → p j = false) : fbl p n = n := by
  have h2 := fbl_le p n
  rcases Nat.lt_or_ge (fbl p n) n with q | q
  · have := fbl_yes p n q
    rw [h1 _ q] at this
    cases this
  · omega
/-- one that is found: its state, its words, its arc, that which it is ahead of, its round -/
def nilW0 : Nat → List Nat := fun _ => []
abbrev Ent : Type := Nat × (Nat → List Nat) × Int32 × Int32 × Nat
def eR (ur : Ob) (k : Nat) (e : Ent) : Prop := ur.2.1 3 k = nI e.1 ∧ ur.2.1 4 k = nI (enc (e.2.1 0)) ∧ ur.2.1 5 k = nI (enc (e.2.1 1)) ∧ ur.2.1 6 k = e.2.2.1 ∧ ur.2.1 7 k = e.2.2.2.1 ∧ ur.2.1 2 k = nI e.2.2.2.2
/-- what every one found keeps -/
def eK (F : Nat → Ent) (k : Nat) : Prop := (F k).1 < 8 ∧ (∀ l, l < 2 → lok ((F k).2.1 l) ∧ ((F k).2.1 l).length ≤ 10) ∧ (F k).2.2.2.2 ≤ k ∧ ((F k).2.2.2.2 = 0 → (F k).2.2.2.1 = -2) ∧ (0 < (F k).2.2.2.2 → ∃ j, j < k ∧ (F k).2.2.2.1 = nI j ∧ (F k).2.2.2.2 = (F j).2.2.2.2 + 1)
def sR (ur : Ob) (F : Nat → Ent) (n : Nat) (sp : Bool) : Prop := ur.1 0 = nI n ∧ ur.1 1 = bI sp ∧ n ≤ 80 ∧ ∀ k, k < n → eR ur k (F k) ∧ eK F k
/-- is a place below another one? -/
def belw (s1 : Nat) (w1 : Nat → List Nat) (s2 : Nat) (w2 : Nat → List Nat) : Bool := decide (s1 = s2) && (gin (w1 0) (w2 0) && gin (w1 1) (w2 1))
def bel (F : Nat → Ent) (st : Nat) (ws : Nat → List Nat) (k : Nat) : Bool := belw (F k).1 (F k).2.1 st ws
theorem s_isBelowPlace {ur : Ob} {F : Nat → Ent} {n : Nat} {sp : Bool} (hs : sR ur F n sp) {k st : Nat} {ws : Nat → List Nat} (hk : k < n) (hst : st < 8) (hw : ∀ l, l < 2 → lok (ws l) ∧ (ws l).length ≤ 14) {post : Int32 → Prop} (h : post (bI (bel F st ws k))) : wp_X2_isBelowPlace ur (nI k) (nI st) (nI (enc (ws 0))) (nI (enc (ws 1))) post := by
  obtain ⟨-, -, hn, he⟩ := hs
  obtain ⟨⟨e1, e2, e3, -⟩, k1, k2, -⟩ := he k hk
  unfold wp_X2_isBelowPlace
  have i1 : vp_in (nI k) 80 := vp_in_nI (by omega) (by omega)
  rw [nI_clamp (by omega), e1, e2, e3]
  refine ⟨i1, ?_⟩
  have w0 := k2 0 (by omega)
  have w1 := k2 1 (by omega)
  have v0 := hw 0 (by omega)
  have v1 := hw 1 (by omega)
  refine pk_ne (F k).1 st (fun q => ?_) (fun q => ?_)
  · have e : bel F st ws k = false := by simp [bel, belw, q]
    rw [e] at h
    exact h
  · refine ⟨i1, ?_⟩
    refine s_isIn w0.1 (by omega) v0.1 (by omega) ?_
    refine bI_if (fun g => ?_) (fun g => ?_)
    · have e : bel F st ws k = false := by simp [bel, belw, g]
      rw [e] at h
      exact h
    · refine ⟨i1, ?_⟩
      refine s_isIn w1.1 (by omega) v1.1 (by omega) ?_
      refine bI_if (fun g2 => ?_) (fun g2 => ?_)
      · have e : bel F st ws k = false := by simp [bel, belw, g2]
        rw [e] at h
        exact h
      · have e : bel F st ws k = true := by simp [bel, belw, g, g2, q]
        rw [e] at h
        exact h
theorem s_firstBelow {ur : Ob} {F : Nat → Ent} {n : Nat} {sp : Bool} (hs : sR ur F n sp) {st : Nat} {ws : Nat → List Nat} (hst : st < 8) (hw : ∀ l, l < 2 → lok (ws l) ∧ (ws l).length ≤ 14) {post : Int32 → Prop} (h1 : fbl (bel F st ws) n < n → post (nI (fbl (bel F st ws) n))) (h0 : fbl (bel F st ws) n = n → post (-1)) : wp_X2_firstBelow ur (nI st) (nI (enc (ws 0))) (nI (enc (ws 1))) post := by
  have hn := hs.2.2.1
  unfold wp_X2_firstBelow
  rw [hs.1]
  refine lq1_m (fun m v => ∃ k, k + m = n ∧ v = nI k ∧ ∀ j, j < k → bel F st ws j = false) ?_ n 0 ⟨0, by omega, rfl, fun j hj => absurd hj (Nat.not_lt_zero j)⟩
  rintro LL m v ⟨k, hk, rfl, hno⟩ ih
  refine pk_le n k (fun hc => ?_) (fun hc => ?_)
  · exact h0 (fbl_none (fun j hj => hno j (by omega)))
  · refine s_isBelowPlace hs hc hst hw ?_
    refine bI_if (fun g => ?_) (fun g => ?_)
    · refine ih (m - 1) _ (by omega) ⟨k + 1, by omega, nI_1 k, fun j hj => ?_⟩
      rcases Nat.lt_or_ge j k with q | q
      · exact hno j q
      · have e : j = k := by omega
        rw [e]
        exact g
    · have e := fbl_eq hno hc g
      rw [← e]
      exact h1 (by omega)
/-- is one found least? -/
def lea (F : Nat → Ent) (n k : Nat) : Bool := decide (fbl (fun j => decide (j ≠ k) && bel F (F k).1 (F k).2.1 j) n = n)
theorem s_isLeast {ur : Ob} {F : Nat → Ent} {n : Nat} {sp : Bool} (hs : sR ur F n sp) {k : Nat} (hk : k < n) {post : Int32 → Prop} (h : post (bI (lea F n k))) : wp_X2_isLeast ur (nI k) post := by
  have hn := hs.2.2.1
  obtain ⟨⟨e1, e2, e3, -⟩, k1, k2, -⟩ := hs.2.2.2 k hk
  unfold wp_X2_isLeast
  rw [hs.1, nI_clamp (by omega), e1, e2, e3]
  have i1 : vp_in (nI k) 80 := vp_in_nI (by omega) (by omega)
  refine lq1_m (fun m v => ∃ j, j + m = n ∧ v = nI j ∧ ∀ i, i < j → (decide (i ≠ k) && bel F (F k).1 (F k).2.1 i) = false) ?_ n 0 ⟨0, by omega, rfl, fun j hj => absurd hj (Nat.not_lt_zero j)⟩
  rintro LL m v ⟨j, hj, rfl, hno⟩ ih
  have step : (decide (j ≠ k) && bel F (F k).1 (F k).2.1 j) = false → j < n → LL (nI j + 1) := by
    intro hf hlt
    refine ih (m - 1) _ (by omega) ⟨j + 1, by omega, nI_1 j, fun i hi => ?_⟩
    rcases Nat.lt_or_ge i j with q | q
    · exact hno i q
    · have e : i = j := by omega
      rw [e]
      exact hf
  refine pk_le n j (fun hc => ?_) (fun hc => ?_)
  · have e : lea F n k = true := by
      unfold lea
      rw [fbl_none (fun i hi => hno i (by omega))]
      simp
    rw [e] at h
    exact h
  refine pk_eq j k (fun q => ?_) (fun q => ?_)
  · exact step (by simp [q]) hc
  · refine ⟨i1, i1, i1, ?_⟩
    refine s_isBelowPlace hs hc k1 (fun l hl => ⟨(k2 l hl).1, by have := (k2 l hl).2; omega⟩) ?_
    refine bI_if (fun g => ?_) (fun g => ?_)
    · exact step (by simp [g]) hc
    · have e : lea F n k = false := by
        unfold lea
        rw [fbl_eq (k := j) hno hc (by simp [g, q])]
        simp
        omega
      rw [e] at h
      exact h
/-- how many of the first n are so -/
def cnt (p : Nat → Bool) : Nat → Nat
  | 0 => 0
  | n + 1 => cnt p n + (if p n then 1 else 0)
theorem cnt_le (p : Nat → Bool) : ∀ n, cnt p n ≤ n
  | 0 => Nat.le_refl 0
  | n + 1 => by
    have ih := cnt_le p n
    unfold cnt
    split <;> omega
theorem s_countLeast {ur : Ob} {F : Nat → Ent} {n : Nat} {sp : Bool} (hs : sR ur F n sp) {post : Int32 → Prop} (h : post (nI (cnt (lea F n) n))) : wp_X2_countLeast ur post := by
  have hn := hs.2.2.1
  unfold wp_X2_countLeast
  rw [hs.1]
  refine lq2_m (fun m x y => ∃ j, j + m = n ∧ x = nI j ∧ y = nI (cnt (lea F n) j)) ?_ n 0 0 ⟨0, by omega, rfl, rfl⟩
  rintro LL m x y ⟨j, hj, rfl, rfl⟩ ih
  refine pk_le n j (fun hc => ?_) (fun hc => ?_)
  · have e : j = n := by omega
    rw [e]
    exact h
  · refine s_isLeast hs hc ?_
    refine bI_if (fun g => ?_) (fun g => ?_)
    · refine ih (m - 1) _ _ (by omega) ⟨j + 1, by omega, nI_1 j, ?_⟩
      rw [cnt, g]
      rfl
    · refine ih (m - 1) _ _ (by omega) ⟨j + 1, by omega, nI_1 j, ?_⟩
      rw [cnt, g]
      exact nI_1 _
/-- the place that is come to after i steps of the way -/
def wayP (F : Nat → Ent) : Nat → Nat → Nat
  | 0, k => k
  | i + 1, k => wayP F i ((F k).2.2.2.1).toNatClampNeg
theorem s_arcOfWay {ur : Ob} {F : Nat → Ent} {n : Nat} {sp : Bool} (hs : sR ur F n sp) {k i : Nat} (hk : k < n) (hi : i < (F k).2.2.2.2) {post : Int32 → Prop} (h : post (F (wayP F i k)).2.2.1) : wp_X2_arcOfWay ur (nI k) (nI i) post := by
  have hn := hs.2.2.1
  have hkk := (hs.2.2.2 k hk).2.2.2.1
  unfold wp_X2_arcOfWay
  refine lq2_m (fun m x y => ∃ s q, s + m = i ∧ q < n ∧ x = nI s ∧ y = nI q ∧ m < (F q).2.2.2.2 ∧ wayP F i k = wayP F m q) ?_ i 0 (nI k) ⟨0, k, by omega, hk, rfl, rfl, hi, rfl⟩
  rintro LL m x y ⟨s, q, hsm, hq, rfl, rfl, hr, hw⟩ ih
  obtain ⟨⟨e1, e2, e3, e4, e5, e6⟩, k1, k2, k3, k4, k5⟩ := hs.2.2.2 q hq
  have i1 : vp_in (nI q) 80 := vp_in_nI (by omega) (by omega)
  simp only [jn]
  rw [nI_clamp (by omega), e4, e5]
  refine pk_le i s (fun hc => ?_) (fun hc => ?_)
  · refine ⟨i1, ?_⟩
    have e : m = 0 := by omega
    rw [e] at hw
    rw [hw] at h
    exact h
  · obtain ⟨j, hj, e7, e8⟩ := k5 (by omega)
    refine ⟨i1, ?_⟩
    rw [e7]
    refine ⟨fun z => absurd z (nI_pos (by omega)), fun _ => ⟨i1, ?_⟩⟩
    refine ih (m - 1) _ _ (by omega) ⟨s + 1, j, by omega, by omega, nI_1 s, rfl, by omega, ?_⟩
    rw [hw]
    have e9 : m = (m - 1) + 1 := by omega
    rw [e9, wayP, e7, nI_clamp (by omega)]
    rfl
