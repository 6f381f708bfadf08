/-! the machine: its words by an arc -/
theorem fa_of_nlt {a b : Int32} (h : ¬ a < b) : b ≤ a := by
  rw [Int32.lt_iff_toInt_lt] at h
  rw [Int32.le_iff_toInt_le]
  omega
theorem s_isAmong {x : Int32} {n : Nat} (hn : n < 2 ^ 31) {post : Int32 → Prop} (h1 : ∀ j, j < n → x = nI j → post 1) (h0 : (∀ j, j < n → x ≠ nI j) → post 0) : wp_X7_isAmong x (nI n) post := by
  unfold wp_X7_isAmong
  refine ⟨fun hc => h0 (fun j hj e => ?_), fun hc => ⟨fun hd => h0 (fun j hj e => ?_), fun hd => ?_⟩⟩
  · rw [e] at hc
    exact nI_pos (by omega) hc
  · rw [e] at hd
    exact nI_ge hj hn hd
  · obtain ⟨j, hj, rfl⟩ := nI_of hc
    refine h1 j ?_ rfl
    rcases Nat.lt_or_ge j n with q | q
    · exact q
    · exact absurd (nI_le q hj) hd
def mR (um : Ob) (N c : Nat) (bg : Nat → Bool) (ar : Nat → Nat → Nat) : Prop :=
  um.1 0 = nI N ∧ um.1 1 = nI c ∧ (∀ k, k < 2 → um.2.1 2 k = bI (bg k)) ∧ ∀ i q, i < c → q < 5 → um.2.1 3 (i * 5 + q) = nI (ar i q)
def mK (N c : Nat) (ar : Nat → Nat → Nat) : Prop :=
  1 ≤ N ∧ N ≤ 8 ∧ c ≤ 20 ∧ ∀ i, i < c → ar i 0 < N ∧ ar i 1 < 3 ∧ ar i 2 < 2 ∧ ar i 3 < 3 ∧ ar i 4 < N
theorem s_part {um : Ob} {N c : Nat} {bg : Nat → Bool} {ar : Nat → Nat → Nat} (hm : mR um N c bg ar) (hk : mK N c ar) {i : Nat} (q : Nat) (hi : i < c) (hq : q < 5) {post : Int32 → Prop} (h : post (nI (ar i q))) : wp_X0_part um (nI i) (nI q) post := by
  have hc := hk.2.2.1
  have e : nI i * 5 + nI q = nI (i * 5 + q) := by
    rw [show (5 : Int32) = nI 5 from rfl, pk_mul, nI_add]
  unfold wp_X0_part
  rw [e, nI_clamp (by omega), hm.2.2.2 i q hi hq]
  exact ⟨vp_in_nI (by omega) (by omega), h⟩
def wwith (b : Bool) (w : List Nat) (a : Nat) : List Nat := ins w (if b then pio w a else w.length) a
theorem wwith_len (b : Bool) (w : List Nat) (a : Nat) : (wwith b w a).length = w.length + 1 := by
  unfold wwith
  apply ins_len
  split
  · exact pio_le w a
  · exact Nat.le_refl _
theorem wwith_lok {b : Bool} {w : List Nat} {a : Nat} (hw : lok w) (ha : a < 3) : lok (wwith b w a) := ins_lok hw ha
theorem bI_ne {b : Bool} (h : ¬ bI b = 0) : b = true := by
  cases b
  · exact absurd rfl h
  · rfl
theorem bI_eq {b : Bool} (h : bI b = 0) : b = false := by
  cases b
  · rfl
  · exact absurd h (by decide)
theorem bI_if {b : Bool} {A B : Prop} (f : b = false → A) (g : b = true → B) : (bI b = 0 → A) ∧ (¬ bI b = 0 → B) := ⟨fun h => f (bI_eq h), fun h => g (bI_ne h)⟩
theorem bI_if2 {b : Bool} {A B : Prop} (f : b = true → A) (g : b = false → B) : (¬ bI b = 0 → A) ∧ (bI b = 0 → B) := ⟨fun h => f (bI_ne h), fun h => g (bI_eq h)⟩
theorem s_wordWith {um : Ob} {N c : Nat} {bg : Nat → Bool} {ar : Nat → Nat → Nat} (hm : mR um N c bg ar) {k a : Nat} (hk : k < 2) (ha : a < 3) {w : List Nat} (hw : lok w) (hl : w.length ≤ 14) {post : Int32 → Prop} (h : post (nI (enc (wwith (bg k) w a)))) : wp_X0_wordWith um (nI k) (nI (enc w)) (nI a) post := by
  unfold wp_X0_wordWith
  refine ⟨vp_in_nI hk (by omega), ?_⟩
  rw [nI_clamp (by omega), hm.2.2.1 k hk]
  simp only [jn]
  refine bI_if (fun e => ?_) (fun e => ?_)
  · refine s_size hw hl ?_
    refine s_with hw hl (Nat.le_refl _) ha ?_
    rw [wwith, e] at h
    exact h
  · refine s_placeInOrder hw hl ha ?_
    refine s_with hw hl (pio_le w a) ha ?_
    rw [wwith, e] at h
    exact h
/-- may a letter be taken off? -/
def canTake (b : Bool) (w : List Nat) (a : Nat) : Bool := decide (fx w a < w.length) && (b || decide (fx w a = 0))
/-- the word behind an arc -/
def behind (b : Bool) (act a : Nat) (w : List Nat) : Option (List Nat) :=
  if act = 1 then some (wwith b w a) else if act = 2 then (if canTake b w a then some (del w (fx w a)) else none) else some w
theorem s_wordBehind {um : Ob} {N c : Nat} {bg : Nat → Bool} {ar : Nat → Nat → Nat} (hm : mR um N c bg ar) (hk : mK N c ar) {i : Nat} (hi : i < c) {w : List Nat} (hw : lok w) (hl : w.length ≤ 14) {post : Int32 → Prop}
    (hs : ∀ v, behind (bg (ar i 2)) (ar i 1) (ar i 3) w = some v → post (nI (enc v))) (hn : behind (bg (ar i 2)) (ar i 1) (ar i 3) w = none → post (-1)) : wp_X0_wordBehind um (nI i) (nI (enc w)) post := by
  obtain ⟨h0, h1, h2, h3, h4⟩ := hk.2.2.2 i hi
  unfold wp_X0_wordBehind
  refine s_part hm hk 2 hi (by omega) ?_
  refine s_part hm hk 3 hi (by omega) ?_
  refine s_part hm hk 1 hi (by omega) ?_
  refine pk_eq (ar i 1) 1 (fun e1 => ?_) (fun e1 => ?_)
  · refine s_wordWith hm h2 h3 hw hl ?_
    exact hs _ (by rw [behind, if_pos e1])
  refine pk_eq (ar i 1) 2 (fun e2 => ?_) (fun e2 => ?_)
  · have hb : behind (bg (ar i 2)) (ar i 1) (ar i 3) w = if canTake (bg (ar i 2)) w (ar i 3) then some (del w (fx w (ar i 3))) else none := by rw [behind, if_neg e1, if_pos e2]
    rw [hb] at hs hn
    refine s_find hw (by omega) h3 (fun hf => ?_) (fun hf => ?_)
    · refine ⟨vp_in_nI h2 (by omega), ?_⟩
      rw [nI_clamp (by omega), hm.2.2.1 _ h2]
      simp only [jn]
      have hgo : canTake (bg (ar i 2)) w (ar i 3) = true → wp_X6_without (nI (enc w)) (nI (fx w (ar i 3))) (fun r => post r) := fun hc => s_without hw (by omega) hf (hs _ (by rw [if_pos hc]))
      have hno : canTake (bg (ar i 2)) w (ar i 3) = false → post (-1) := fun hc => hn (by rw [hc]; rfl)
      refine bI_if (fun e => ?_) (fun e => ?_)
      · refine pk_ne (fx w (ar i 3)) 0 (fun q => ?_) (fun q => ?_)
        · exact ⟨fun _ => hno (by simp [canTake, e, q]), fun z => absurd (by trivial) z⟩
        · exact ⟨fun z => absurd z (by decide), fun _ => hgo (by rw [canTake, q, decide_eq_true (show 0 < w.length by omega)]; simp)⟩
      · refine ⟨fun z => absurd z (nI_pos (by omega)), fun _ => ⟨fun z => absurd z (by decide), fun _ => hgo (by simp [canTake, hf, e])⟩⟩
    · refine ⟨vp_in_nI h2 (by omega), ?_⟩
      rw [nI_clamp (by omega), hm.2.2.1 _ h2]
      simp only [jn]
      have hno : post (-1) := hn (by
        have : canTake (bg (ar i 2)) w (ar i 3) = false := by simp [canTake, hf]
        rw [this]
        rfl)
      refine bI_if (fun e => ?_) (fun e => ?_)
      · exact ⟨fun _ => ⟨fun _ => hno, fun z => absurd (by trivial) z⟩, fun z => absurd z (by decide)⟩
      · exact ⟨fun _ => ⟨fun _ => hno, fun z => absurd (by trivial) z⟩, fun z => absurd (show (-1 : Int32) < 0 by decide) z⟩
  · exact hs _ (by rw [behind, if_neg e1, if_neg e2])
/-- the word ahead of an arc -/
def ahead (b : Bool) (act a : Nat) (w : List Nat) : List Nat :=
  if act = 1 then (if b then (if fx w a < w.length then del w (fx w a) else w) else (if 0 < w.length ∧ w.getD (w.length - 1) 0 = a then del w (w.length - 1) else w))
  else if act = 2 then (if b then wwith true w a else ins w 0 a) else w
theorem ahead_len (b : Bool) (act a : Nat) (w : List Nat) : (ahead b act a w).length ≤ w.length + 1 := by
  unfold ahead
  repeat' split
  · rename_i h
    rw [del_len h]
    omega
  · omega
  · rename_i h
    rw [del_len (by omega)]
    omega
  · omega
  · rw [wwith_len]
    omega
  · rw [ins_len (by omega)]
    omega
  · omega
theorem ahead_lok {b : Bool} {act a : Nat} {w : List Nat} (hw : lok w) (ha : a < 3) : lok (ahead b act a w) := by
  unfold ahead
  repeat' split
  · exact del_lok hw
  · exact hw
  · exact del_lok hw
  · exact hw
  · exact wwith_lok hw ha
  · exact ins_lok hw ha
  · exact hw
theorem behind_len {b : Bool} {act a : Nat} {w v : List Nat} (h : behind b act a w = some v) : v.length ≤ w.length + 1 := by
  unfold behind at h
  split at h
  · cases h
    rw [wwith_len]
    omega
  · split at h
    · split at h
      · rename_i hc
        cases h
        have : fx w a < w.length := by
          unfold canTake at hc
          simp at hc
          exact hc.1
        rw [del_len this]
        omega
      · cases h
    · cases h
      omega
theorem behind_lok {b : Bool} {act a : Nat} {w v : List Nat} (hw : lok w) (ha : a < 3) (h : behind b act a w = some v) : lok v := by
  unfold behind at h
  split at h
  · cases h
    exact wwith_lok hw ha
  · split at h
    · split at h
      · cases h
        exact del_lok hw
      · cases h
    · cases h
      exact hw
theorem s_wordAhead {um : Ob} {N c : Nat} {bg : Nat → Bool} {ar : Nat → Nat → Nat} (hm : mR um N c bg ar) (hk : mK N c ar) {i : Nat} (hi : i < c) {w : List Nat} (hw : lok w) (hl : w.length ≤ 14) {post : Int32 → Prop}
    (h : post (nI (enc (ahead (bg (ar i 2)) (ar i 1) (ar i 3) w)))) : wp_X0_wordAhead um (nI i) (nI (enc w)) post := by
  obtain ⟨h0, h1, h2, h3, h4⟩ := hk.2.2.2 i hi
  unfold wp_X0_wordAhead
  refine s_part hm hk 2 hi (by omega) ?_
  refine s_part hm hk 3 hi (by omega) ?_
  refine s_part hm hk 1 hi (by omega) ?_
  refine pk_eq (ar i 1) 1 (fun e1 => ?_) (fun e1 => ?_)
  · refine ⟨vp_in_nI h2 (by omega), ?_⟩
    rw [nI_clamp (by omega), hm.2.2.1 _ h2]
    simp only [jn]
    rw [ahead, if_pos e1] at h
    refine bI_if (fun e => ?_) (fun e => ?_)
    · rw [e] at h
      refine s_size hw hl ?_
      by_cases hz : w.length = 0
      · rw [hz]
        rw [if_neg (by decide), if_neg (by omega)] at h
        exact ⟨fun _ => h, fun z => absurd (show nI 0 - 1 < (0 : Int32) by decide) z⟩
      · have e5 : nI w.length - 1 = nI (w.length - 1) := pk_sub (b := 1) (by omega)
        rw [e5]
        refine ⟨fun z => absurd z (nI_pos (by omega)), fun _ => ?_⟩
        have hlt : w.length - 1 < w.length := by omega
        have hlk := lok_get hw hlt
        refine s_at hw (by omega) hlt ?_
        refine pk_ne (w.getD (w.length - 1) 0) (ar i 3) (fun q => ?_) (fun q => ?_)
        · rw [if_neg (by decide), if_neg (by omega)] at h
          exact h
        · refine s_without hw (by omega) hlt ?_
          rw [if_neg (by decide), if_pos ⟨by omega, q⟩] at h
          exact h
    · rw [e, if_pos rfl] at h
      refine s_find hw (by omega) h3 (fun hf => ?_) (fun hf => ?_)
      · rw [if_pos hf] at h
        refine ⟨fun z => absurd z (nI_pos (by omega)), fun _ => ?_⟩
        refine s_at hw (by omega) hf ?_
        rw [fx_at w _ hf]
        exact ⟨fun z => absurd (by trivial) z, fun _ => s_without hw (by omega) hf h⟩
      · rw [if_neg (by omega)] at h
        exact ⟨fun _ => h, fun z => absurd (show (-1 : Int32) < 0 by decide) z⟩
  refine pk_eq (ar i 1) 2 (fun e2 => ?_) (fun e2 => ?_)
  · refine ⟨vp_in_nI h2 (by omega), ?_⟩
    rw [nI_clamp (by omega), hm.2.2.1 _ h2]
    rw [ahead, if_neg e1, if_pos e2] at h
    refine bI_if (fun e => ?_) (fun e => ?_)
    · rw [e, if_neg (by decide)] at h
      exact s_with (i := 0) hw hl (by omega) h3 h
    · rw [e, if_pos rfl] at h
      refine s_wordWith hm h2 h3 hw hl ?_
      rw [e]
      exact h
  · rw [ahead, if_neg e1, if_neg e2] at h
    exact h
