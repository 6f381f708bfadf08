/-! the model's words, by place and line -/
theorem ix2 (p k : Nat) : (2 * nI p) + nI k = nI (2 * p + k) := by rw [mul2, nI_add]
theorem s_spot (p k i : Nat) {post : Int32 → Prop} (h : post (nI (22 * p + 11 * k + i))) : wp_X8_spot (nI p) (nI k) (nI i) post := by
  unfold wp_X8_spot
  rw [show (22 : Int32) = nI 22 from rfl, show (11 : Int32) = nI 11 from rfl, pk_mul, pk_mul, nI_add, nI_add]
  exact h
theorem del_get {w : List Nat} {i : Nat} (t : Nat) (hi : i < w.length) : (del w i).getD t 0 = if t < i then w.getD t 0 else w.getD (t + 1) 0 := by
  unfold del
  simp only [List.getD_eq_getElem?_getD, List.getElem?_append, List.length_take, List.getElem?_take, List.getElem?_drop]
  have e : min i w.length = i := by omega
  rw [e]
  by_cases h : t < i
  · rw [if_pos h, if_pos h, if_pos h]
  · rw [if_neg h, if_neg h]
    have e2 : i + 1 + (t - i) = t + 1 := by omega
    rw [e2]
theorem ins_get {w : List Nat} {i a : Nat} (t : Nat) (hi : i ≤ w.length) : (ins w i a).getD t 0 = if t < i then w.getD t 0 else if t = i then a else w.getD (t - 1) 0 := by
  unfold ins
  simp only [List.getD_eq_getElem?_getD, List.getElem?_append, List.length_take, List.getElem?_take]
  have e : min i w.length = i := by omega
  rw [e]
  by_cases h : t < i
  · rw [if_pos h, if_pos h, if_pos h]
  · rw [if_neg h, if_neg h]
    by_cases h2 : t = i
    · subst h2
      simp
    · rw [if_neg h2]
      have e2 : t - i = (t - i - 1) + 1 := by omega
      rw [e2, List.getElem?_cons_succ, List.getElem?_drop]
      have e3 : i + (t - i - 1) = t - 1 := by omega
      rw [e3]
def mdW (u : Ob) (p k : Nat) (w : List Nat) : Prop := u.2.1 14 (2 * p + k) = nI w.length ∧ ∀ i, i < w.length → u.2.1 15 (22 * p + 11 * k + i) = nI (w.getD i 0)
def keepW (u v : Ob) (p k : Nat) : Prop := v.1 = u.1 ∧ v.2.2 = u.2.2 ∧ (∀ j, j ≠ 14 → j ≠ 15 → v.2.1 j = u.2.1 j) ∧ (∀ j, j ≠ 2 * p + k → v.2.1 14 j = u.2.1 14 j) ∧ ∀ j, (j < 22 * p + 11 * k ∨ 22 * p + 11 * k + 11 ≤ j) → v.2.1 15 j = u.2.1 15 j
theorem keepW.rf {u : Ob} {p k : Nat} : keepW u u p k := ⟨rfl, rfl, fun _ _ _ => rfl, fun _ _ => rfl, fun _ _ => rfl⟩
theorem keepW.size {u v : Ob} {p k : Nat} (h : keepW u v p k) (x : Int32) : keepW u (fs_a v 14 (upd (v.2.1 14) (2 * p + k) x)) p k := by
  obtain ⟨h1, h2, h3, h4, h5⟩ := h
  refine ⟨h1, h2, fun j a b => ?_, fun j a => ?_, fun j a => ?_⟩
  · rw [ob_ao _ _ a]
    exact h3 j a b
  · rw [ob_as, up_o _ _ a]
    exact h4 j a
  · rw [ob_ao _ _ (by decide)]
    exact h5 j a
theorem keepW.word {u v : Ob} {p k : Nat} (h : keepW u v p k) {i : Nat} (hi : i < 11) (x : Int32) : keepW u (fs_a v 15 (upd (v.2.1 15) (22 * p + 11 * k + i) x)) p k := by
  obtain ⟨h1, h2, h3, h4, h5⟩ := h
  refine ⟨h1, h2, fun j a b => ?_, fun j a => ?_, fun j a => ?_⟩
  · rw [ob_ao _ _ b]
    exact h3 j a b
  · rw [ob_ao _ _ (by decide)]
    exact h4 j a
  · rw [ob_as, up_o _ _ (by omega)]
    exact h5 j a
theorem mdW.keep {u v : Ob} {p k q m : Nat} {w : List Nat} (h : mdW u q m w) (hk : keepW u v p k) (k2 : k < 2) (m2 : m < 2) (hne : ¬ (q = p ∧ m = k)) (hl : w.length ≤ 11) : mdW v q m w := by
  obtain ⟨-, -, -, h4, h5⟩ := hk
  refine ⟨?_, fun i hi => ?_⟩
  · rw [h4 _ (by omega)]
    exact h.1
  · rw [h5 _ (by omega)]
    exact h.2 i hi
theorem s_takeOut {u : Ob} {p k i : Nat} {w : List Nat} (hp : p < 83) (hk : k < 2) (hw : mdW u p k w) (hl : w.length ≤ 11) (hi : i < w.length) {post : Ob → Prop} (h : ∀ v, keepW u v p k → mdW v p k (del w i) → post v) : wp_X8_takeOut u (nI p) (nI k) (nI i) post := by
  unfold wp_X8_takeOut
  have c1 : (nI (2 * p + k)).toNatClampNeg = 2 * p + k := nI_clamp (by omega)
  have i1 : vp_in (nI (2 * p + k)) 166 := vp_in_nI (by omega) (by omega)
  rw [ix2, c1]
  refine ⟨i1, i1, fun u3 e3 => ?_⟩
  have hs : u.2.1 14 (2 * p + k) - 1 = nI (w.length - 1) := by
    rw [hw.1]
    exact pk_sub (b := 1) (by omega)
  rw [hs] at e3
  refine lq2_m (fun m x v => ∃ j, i ≤ j ∧ j + m = w.length - 1 ∧ x = nI j ∧ keepW u v p k ∧ v.2.1 14 (2 * p + k) = nI (w.length - 1) ∧ (∀ t, t < j → v.2.1 15 (22 * p + 11 * k + t) = nI ((del w i).getD t 0)) ∧ ∀ t, j ≤ t → t < w.length → v.2.1 15 (22 * p + 11 * k + t) = nI (w.getD t 0)) ?_ (w.length - 1 - i) (nI i) u3 ?_
  · rintro LL m x v ⟨j, hij, hjm, rfl, kv, sv, lo, up⟩ ih
    rw [sv]
    refine ⟨i1, ?_⟩
    refine pk_le (w.length - 1) j (fun hc => ?_) (fun hc => ?_)
    · refine h v kv ⟨?_, fun t ht => ?_⟩
      · rw [del_len hi]
        exact sv
      · rw [del_len hi] at ht
        exact lo t (by omega)
    · refine s_spot p k j ?_
      rw [nI_1]
      refine s_spot p k (j + 1) ?_
      refine ⟨vp_in_nI (by omega) (by omega), vp_in_nI (by omega) (by omega), fun v2 e2 => ?_⟩
      rw [nI_clamp (by omega), nI_clamp (by omega)] at e2
      have hx : v.2.1 15 (22 * p + 11 * k + (j + 1)) = nI (w.getD (j + 1) 0) := up (j + 1) (by omega) (by omega)
      rw [hx] at e2
      rw [e2]
      refine ih (m - 1) _ _ (by omega) ⟨j + 1, by omega, by omega, rfl, kv.word (by omega) _, ?_, fun t ht => ?_, fun t h1 h2 => ?_⟩
      · rw [ob_ao _ _ (by decide)]
        exact sv
      · rw [ob_as]
        rcases Nat.lt_or_ge t j with q | q
        · rw [up_o _ _ (by omega)]
          exact lo t q
        · have e : t = j := by omega
          subst e
          rw [up_s, del_get t hi, if_neg (by omega)]
      · rw [ob_as, up_o _ _ (by omega)]
        exact up t (by omega) h2
  · refine ⟨i, Nat.le_refl _, by omega, rfl, ?_, ?_, fun t ht => ?_, fun t h1 h2 => ?_⟩
    · rw [e3]
      exact keepW.rf.size _
    · rw [e3, ob_as, up_s]
    · rw [e3, ob_ao _ _ (by decide), del_get t hi, if_pos ht]
      exact hw.2 t (by omega)
    · rw [e3, ob_ao _ _ (by decide)]
      exact hw.2 t h2
theorem s_putIn {u : Ob} {p k i a : Nat} {w : List Nat} (hp : p < 83) (hk : k < 2) (hw : mdW u p k w) (hl : w.length ≤ 10) (hi : i ≤ w.length) {post : Ob → Prop} (h : ∀ v, keepW u v p k → mdW v p k (ins w i a) → post v) : wp_X8_putIn u (nI p) (nI k) (nI i) (nI a) post := by
  unfold wp_X8_putIn
  have c1 : (nI (2 * p + k)).toNatClampNeg = 2 * p + k := nI_clamp (by omega)
  have i1 : vp_in (nI (2 * p + k)) 166 := vp_in_nI (by omega) (by omega)
  rw [ix2, c1, hw.1]
  refine ⟨i1, ?_⟩
  refine lq2_m (fun m x v => ∃ j, i + m = j ∧ j ≤ w.length ∧ x = nI j ∧ keepW u v p k ∧ v.2.1 14 (2 * p + k) = nI w.length ∧ (∀ t, t ≤ j → t < w.length → v.2.1 15 (22 * p + 11 * k + t) = nI (w.getD t 0)) ∧ ∀ t, j < t → t ≤ w.length → v.2.1 15 (22 * p + 11 * k + t) = nI (w.getD (t - 1) 0)) ?_ (w.length - i) (nI w.length) u ⟨w.length, by omega, Nat.le_refl _, rfl, keepW.rf, hw.1, fun t _ h2 => hw.2 t h2, fun t h1 h2 => by omega⟩
  rintro LL m x v ⟨j, hjm, hj, rfl, kv, sv, lo, up⟩ ih
  refine pk_le j i (fun hc => ?_) (fun hc => ?_)
  · have e : j = i := by omega
    subst e
    refine s_spot p k j ?_
    refine ⟨vp_in_nI (by omega) (by omega), fun v2 e2 => ⟨i1, i1, fun v3 e3 => ?_⟩⟩
    rw [nI_clamp (by omega)] at e2
    have k2 : keepW u v2 p k := by
      rw [e2]
      exact kv.word (by omega) _
    have s2 : v2.2.1 14 (2 * p + k) = nI w.length := by
      rw [e2, ob_ao _ _ (by decide)]
      exact sv
    rw [s2, nI_1] at e3
    refine h v3 ?_ ⟨?_, fun t ht => ?_⟩
    · rw [e3]
      exact k2.size _
    · rw [ins_len hi, e3, ob_as, up_s]
    · rw [ins_len hi] at ht
      rw [e3, ob_ao _ _ (by decide), e2, ob_as, ins_get t hi]
      rcases Nat.lt_trichotomy t j with q | q | q
      · rw [up_o _ _ (by omega), if_pos q]
        exact lo t (by omega) (by omega)
      · subst q
        rw [up_s, if_neg (by omega), if_pos rfl]
      · rw [up_o _ _ (by omega), if_neg (by omega), if_neg (by omega)]
        exact up t q (by omega)
  · refine s_spot p k j ?_
    have e5 : nI j - 1 = nI (j - 1) := pk_sub (b := 1) (by omega)
    rw [e5]
    refine s_spot p k (j - 1) ?_
    refine ⟨vp_in_nI (by omega) (by omega), vp_in_nI (by omega) (by omega), fun v2 e2 => ?_⟩
    rw [nI_clamp (by omega), nI_clamp (by omega), lo (j - 1) (by omega) (by omega)] at e2
    have e6 : nI j + (-1) = nI (j - 1) := sb_m1 (by omega)
    rw [e6, e2]
    refine ih (m - 1) _ _ (by omega) ⟨j - 1, by omega, by omega, rfl, kv.word (by omega) _, ?_, fun t h1 h2 => ?_, fun t h1 h2 => ?_⟩
    · rw [ob_ao _ _ (by decide)]
      exact sv
    · rw [ob_as, up_o _ _ (by omega)]
      exact lo t (by omega) h2
    · rw [ob_as]
      by_cases q : t = j
      · subst q
        rw [up_s]
      · rw [up_o _ _ (by omega)]
        exact up t (by omega) h2
theorem s_inOrder {u : Ob} {p k a : Nat} {w : List Nat} (hp : p < 83) (hk : k < 2) (ha : a < 3) (hw : mdW u p k w) (hok : lok w) (hl : w.length ≤ 11) {post : Int32 → Prop} (h : post (nI (pio w a))) : wp_X8_inOrder u (nI p) (nI k) (nI a) post := by
  unfold wp_X8_inOrder
  have c1 : (nI (2 * p + k)).toNatClampNeg = 2 * p + k := nI_clamp (by omega)
  have i1 : vp_in (nI (2 * p + k)) 166 := vp_in_nI (by omega) (by omega)
  rw [ix2, c1, hw.1]
  refine lq1_m (fun m v => ∃ i, i + m = w.length ∧ v = nI i ∧ pio w a = i + pio (w.drop i) a) ?_ w.length 0 ⟨0, by omega, rfl, by simp⟩
  rintro LL m v ⟨i, hi, rfl, hpi⟩ ih
  refine ⟨i1, ?_⟩
  refine pk_le w.length i (fun hc => ?_) (fun hc => ?_)
  · rw [List.drop_eq_nil_of_le hc] at hpi
    have e : pio w a = i := hpi
    rw [← e]
    exact h
  · refine s_spot p k i ?_
    have h5 := lok_get hok hc
    refine ⟨vp_in_nI (by omega) (by omega), ?_⟩
    rw [nI_clamp (by omega), hw.2 i hc]
    refine pk_lt a (w.getD i 0) (fun hd => ?_) (fun hd => ?_)
    · have e : pio w a = i := by rw [hpi, drop_get hc, pio, if_neg (by omega)]; rfl
      rw [← e]
      exact h
    · refine ih (m - 1) _ (by omega) ⟨i + 1, by omega, nI_1 i, ?_⟩
      rw [hpi, drop_get hc, pio, if_pos (by omega)]
      omega
theorem s_firstOf {u : Ob} {p k a : Nat} {w : List Nat} (hp : p < 83) (hk : k < 2) (ha : a < 3) (hw : mdW u p k w) (hok : lok w) (hl : w.length ≤ 11) {post : Int32 → Prop} (h1 : fx w a < w.length → post (nI (fx w a))) (h0 : fx w a = w.length → post (-1)) : wp_X8_firstOf u (nI p) (nI k) (nI a) post := by
  unfold wp_X8_firstOf
  have c1 : (nI (2 * p + k)).toNatClampNeg = 2 * p + k := nI_clamp (by omega)
  have i1 : vp_in (nI (2 * p + k)) 166 := vp_in_nI (by omega) (by omega)
  rw [ix2, c1, hw.1]
  refine lq1_m (fun m v => ∃ i, i + m = w.length ∧ v = nI i ∧ ∀ j, j < i → w.getD j 0 ≠ a) ?_ w.length 0 ⟨0, by omega, rfl, fun j h => absurd h (Nat.not_lt_zero j)⟩
  rintro LL m v ⟨i, hi, rfl, hn⟩ ih
  refine ⟨i1, ?_⟩
  refine pk_le w.length i (fun hc => ?_) (fun hc => ?_)
  · exact h0 (fx_none (fun j hj => hn j (by omega)))
  · refine s_spot p k i ?_
    have h5 := lok_get hok hc
    refine ⟨vp_in_nI (by omega) (by omega), ?_⟩
    rw [nI_clamp (by omega), hw.2 i hc]
    refine pk_ne (w.getD i 0) a (fun hd => ?_) (fun hd => ?_)
    · refine ih (m - 1) _ (by omega) ⟨i + 1, by omega, nI_1 i, fun j hj => ?_⟩
      rcases Nat.lt_or_ge j i with q | q
      · exact hn j q
      · have e : j = i := by omega
        rw [e]
        exact hd
    · have e := fx_eq hn hc hd
      rw [← e]
      exact h1 (by omega)
