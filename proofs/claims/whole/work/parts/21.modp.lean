/-! the model's places -/
theorem zb_bI (b : Bool) : zb (bI b) := by cases b <;> rfl
def keepP (u v : Ob) (p : Nat) : Prop := v.1 = u.1 ∧ v.2.2 = u.2.2 ∧ (∀ j, j ≠ 13 → j ≠ 14 → j ≠ 15 → v.2.1 j = u.2.1 j) ∧ (∀ j, j ≠ p → v.2.1 13 j = u.2.1 13 j) ∧ (∀ j, j ≠ 2 * p → j ≠ 2 * p + 1 → v.2.1 14 j = u.2.1 14 j) ∧ ∀ j, (j < 22 * p ∨ 22 * p + 22 ≤ j) → v.2.1 15 j = u.2.1 15 j
theorem keepP.rf {u : Ob} {p : Nat} : keepP u u p := ⟨rfl, rfl, fun _ _ _ _ => rfl, fun _ _ => rfl, fun _ _ _ => rfl, fun _ _ => rfl⟩
theorem keepP.trans {u v w : Ob} {p : Nat} (h : keepP u v p) (g : keepP v w p) : keepP u w p := by
  obtain ⟨h1, h2, h3, h4, h5, h6⟩ := h
  obtain ⟨g1, g2, g3, g4, g5, g6⟩ := g
  exact ⟨g1.trans h1, g2.trans h2, fun j a b c => (g3 j a b c).trans (h3 j a b c), fun j a => (g4 j a).trans (h4 j a), fun j a b => (g5 j a b).trans (h5 j a b), fun j a => (g6 j a).trans (h6 j a)⟩
theorem keepW.P {u v : Ob} {p k : Nat} (h : keepW u v p k) (hk : k < 2) : keepP u v p := by
  obtain ⟨h1, h2, h3, h4, h5⟩ := h
  refine ⟨h1, h2, fun j a b c => h3 j b c, fun j _ => ?_, fun j a b => h4 j (by omega), fun j a => h5 j (by omega)⟩
  rw [h3 13 (by decide) (by decide)]
theorem keepP.st (u : Ob) (p : Nat) (x : Int32) : keepP u (fs_a u 13 (upd (u.2.1 13) p x)) p := by
  refine ⟨rfl, rfl, fun j a b c => ob_ao _ _ a, fun j a => ?_, fun j a b => ?_, fun j a => ?_⟩
  · rw [ob_as, up_o _ _ a]
  · rw [ob_ao _ _ (by decide)]
  · rw [ob_ao _ _ (by decide)]
theorem mdW.keepP {u v : Ob} {p q m : Nat} {w : List Nat} (h : mdW u q m w) (hk : keepP u v p) (m2 : m < 2) (hne : q ≠ p) (hl : w.length ≤ 11) : mdW v q m w := by
  obtain ⟨-, -, -, -, h5, h6⟩ := hk
  refine ⟨?_, fun i hi => ?_⟩
  · rw [h5 _ (by omega) (by omega)]
    exact h.1
  · rw [h6 _ (by omega)]
    exact h.2 i hi
theorem keepW_of_size (v : Ob) (p k : Nat) (x : Int32) : keepW v (fs_a v 14 (upd (v.2.1 14) (2 * p + k) x)) p k := keepW.rf.size x
/-- a place: its state and its words -/
def mdP (u : Ob) (p st : Nat) (ws : Nat → List Nat) : Prop := u.2.1 13 p = nI st ∧ ∀ k, k < 2 → mdW u p k (ws k)
def nilW : Nat → List Nat := fun _ => []
theorem s_empty {u : Ob} {p st : Nat} (hp : p < 83) {post : Ob → Prop} (h : ∀ v, keepP u v p → mdP v p st nilW → post v) : wp_X8_empty u (nI p) (nI st) post := by
  unfold wp_X8_empty
  have e1 : (2 * nI p) + 1 = nI (2 * p + 1) := ix2 p 1
  rw [e1, mul2, nI_clamp (by omega), nI_clamp (by omega), nI_clamp (by omega)]
  refine ⟨vp_in_nI (by omega) (by omega), fun u2 e2 => ⟨vp_in_nI (by omega) (by omega), fun u4 e4 => ⟨vp_in_nI (by omega) (by omega), fun u6 e6 => ?_⟩⟩⟩
  have k2 : keepP u u2 p := by rw [e2]; exact keepP.st u p _
  have k4 : keepP u2 u4 p := by rw [e4]; exact (keepW_of_size u2 p 0 0).P (by omega)
  have k6 : keepP u4 u6 p := by rw [e6]; exact (keepW_of_size u4 p 1 0).P (by omega)
  refine h u6 ((k2.trans k4).trans k6) ⟨?_, fun k hk => ⟨?_, fun i hi => absurd hi (Nat.not_lt_zero i)⟩⟩
  · rw [e6, ob_ao _ _ (by decide), e4, ob_ao _ _ (by decide), e2, ob_as, up_s]
  · rcases (show k = 0 ∨ k = 1 by omega) with rfl | rfl
    · rw [e6, ob_as, up_o _ _ (by omega), e4, ob_as]
      exact up_s _ _ _
    · rw [e6, ob_as]
      exact up_s _ _ _
theorem s_copy {u : Ob} {p q st : Nat} {ws : Nat → List Nat} (hp : p < 83) (hq : q < 83) (hne : p ≠ q) (hw : mdP u p st ws) (hl : ∀ k, k < 2 → (ws k).length ≤ 11) {post : Ob → Prop} (h : ∀ v, keepP u v q → mdP v q st ws → post v) : wp_X8_copy u (nI p) (nI q) post := by
  unfold wp_X8_copy
  rw [nI_clamp (by omega), nI_clamp (by omega), hw.1]
  refine ⟨vp_in_nI hp (by omega), vp_in_nI hq (by omega), fun u3 e3 => ?_⟩
  refine lq2_m (fun m x v => ∃ l, l + m = 2 ∧ x = nI l ∧ keepP u v q ∧ v.2.1 13 q = nI st ∧ ∀ k, k < l → mdW v q k (ws k)) ?_ 2 0 u3 ⟨0, rfl, rfl, by rw [e3]; exact keepP.st u q _, by rw [e3, ob_as, up_s], fun k hk => absurd hk (Nat.not_lt_zero k)⟩
  rintro LL m x v ⟨l, hlm, rfl, kv, sv, dn⟩ ih
  refine pk_le 2 l (fun hc => ?_) (fun hc => ?_)
  · exact h v kv ⟨sv, fun k hk => dn k (by omega)⟩
  have hll := hl l (by omega)
  have src : mdW v p l (ws l) := (hw.2 l (by omega)).keepP kv (by omega) hne hll
  rw [ix2, ix2, nI_clamp (by omega), nI_clamp (by omega), src.1]
  refine ⟨vp_in_nI (by omega) (by omega), vp_in_nI (by omega) (by omega), fun u10 e10 => ?_⟩
  have ne14 : 2 * p + l ≠ 2 * q + l := by omega
  refine lq2_m (fun m2 x2 v2 => ∃ i, i + m2 = (ws l).length ∧ x2 = nI i ∧ keepW v v2 q l ∧ v2.2.1 14 (2 * q + l) = nI (ws l).length ∧ ∀ t, t < i → v2.2.1 15 (22 * q + 11 * l + t) = nI ((ws l).getD t 0)) ?_ (ws l).length 0 u10 ⟨0, by omega, rfl, by rw [e10]; exact keepW_of_size v q l _, by rw [e10, ob_as, up_s], fun t ht => absurd ht (Nat.not_lt_zero t)⟩
  rintro LL2 m2 x2 v2 ⟨i, him, rfl, k2, s2, d2⟩ ih2
  have src2 : mdW v2 p l (ws l) := src.keep k2 (by omega) (by omega) (fun z => hne z.1) hll
  rw [src2.1]
  refine ⟨vp_in_nI (by omega) (by omega), ?_⟩
  refine pk_le (ws l).length i (fun hd => ?_) (fun hd => ?_)
  · refine ih (m - 1) _ _ (by omega) ⟨l + 1, by omega, nI_1 l, kv.trans (k2.P (by omega)), ?_, fun k hk => ?_⟩
    · rw [k2.2.2.1 13 (by decide) (by decide)]
      exact sv
    · rcases Nat.lt_or_ge k l with z | z
      · exact (dn k z).keep k2 (by omega) (by omega) (fun y => by omega) (hl k (by omega))
      · have e : k = l := by omega
        subst e
        exact ⟨s2, fun t ht => d2 t (by omega)⟩
  · refine s_spot q l i ?_
    refine s_spot p l i ?_
    refine ⟨vp_in_nI (by omega) (by omega), vp_in_nI (by omega) (by omega), fun u20 e20 => ?_⟩
    rw [nI_clamp (by omega), nI_clamp (by omega), src2.2 i hd] at e20
    refine ih2 (m2 - 1) _ _ (by omega) ⟨i + 1, by omega, nI_1 i, ?_, ?_, fun t ht => ?_⟩
    · rw [e20]
      exact k2.word (by omega) _
    · rw [e20, ob_ao _ _ (by decide)]
      exact s2
    · rw [e20, ob_as]
      rcases Nat.lt_or_ge t i with z | z
      · rw [up_o _ _ (by omega)]
        exact d2 t z
      · have e : t = i := by omega
        subst e
        rw [up_s]
def ginR (w1 w2 : Nat → List Nat) (l : Nat) : Bool := if l = 0 then gin (w1 0) (w2 0) && gin (w1 1) (w2 1) else if l = 1 then gin (w1 1) (w2 1) else true
theorem ginR_step (w1 w2 : Nat → List Nat) {l : Nat} (h : l < 2) : ginR w1 w2 l = (gin (w1 l) (w2 l) && ginR w1 w2 (l + 1)) := by
  rcases (show l = 0 ∨ l = 1 by omega) with rfl | rfl
  · simp [ginR]
  · simp [ginR]
theorem gin_nil (v : List Nat) : gin [] v = true := by cases v <;> rfl
theorem s_isBelow {u : Ob} {p q s1 s2 : Nat} {w1 w2 : Nat → List Nat} (hp : p < 83) (hq : q < 83) (hs1 : s1 < 2 ^ 31) (hs2 : s2 < 2 ^ 31) (h1 : mdP u p s1 w1) (h2 : mdP u q s2 w2) (ok1 : ∀ k, k < 2 → lok (w1 k) ∧ (w1 k).length ≤ 11) (ok2 : ∀ k, k < 2 → lok (w2 k) ∧ (w2 k).length ≤ 11) {post : Int32 → Prop} (h : post (bI (belw s1 w1 s2 w2))) : wp_X8_isBelow u (nI p) (nI q) post := by
  unfold wp_X8_isBelow
  rw [nI_clamp (by omega), nI_clamp (by omega), h1.1, h2.1]
  refine ⟨vp_in_nI hp (by omega), vp_in_nI hq (by omega), ?_⟩
  have main : ∀ b : Bool, belw s1 w1 s2 w2 = (b && ginR w1 w2 0) → ∃ n : Nat, lq2 (fun (LL_5 : Int32 → Int32 → Prop) (v4_6 : Int32) (v3_7 : Int32) =>
      (((2 : Int32) ≤ v4_6) →
        zb v3_7 ∧ post v3_7) ∧ ((¬ (2 : Int32) ≤ v4_6) →
        ((v3_7 = 0) →
          zb v3_7 ∧ post v3_7) ∧ ((¬ v3_7 = 0) →
          ∃ n : Nat, lq2 (fun (LL_10 : Int32 → Int32 → Prop) (v6_11 : Int32) (v5_12 : Int32) =>
            vp_in ((2 * nI q) + v4_6) 166 ∧
            jn (  vp_in ((2 * nI p) + v4_6) 166 ∧
              jn (fun (w_17 : Int32) =>
                LL_5 (v4_6 + 1) w_17) (fun (JJ_16 : Int32 → Prop) =>
                ((¬ v5_12 = (u.2.1 14 ((2 * nI p) + v4_6).toNatClampNeg)) →
                  JJ_16 0) ∧ ((v5_12 = (u.2.1 14 ((2 * nI p) + v4_6).toNatClampNeg)) →
                  JJ_16 1))) (fun (JJ_14 : Prop) =>
              (((u.2.1 14 ((2 * nI q) + v4_6).toNatClampNeg) ≤ v6_11) →
                JJ_14) ∧ ((¬ (u.2.1 14 ((2 * nI q) + v4_6).toNatClampNeg) ≤ v6_11) →
                vp_in ((2 * nI p) + v4_6) 166 ∧
                (((u.2.1 14 ((2 * nI p) + v4_6).toNatClampNeg) ≤ v5_12) →
                  JJ_14) ∧ ((¬ (u.2.1 14 ((2 * nI p) + v4_6).toNatClampNeg) ≤ v5_12) →
                  wp_X8_spot (nI q) v4_6 v6_11 (fun (r_22 : Int32) =>
                  vp_in r_22 1826 ∧
                  wp_X8_spot (nI p) v4_6 v5_12 (fun (r_24 : Int32) =>
                  vp_in r_24 1826 ∧
                  jn (fun (w_27 : Int32) =>
                    LL_10 (v6_11 + 1) (v5_12 + w_27)) (fun (JJ_26 : Int32 → Prop) =>
                    ((¬ (u.2.1 15 r_22.toNatClampNeg) = (u.2.1 15 r_24.toNatClampNeg)) →
                      JJ_26 0) ∧ (((u.2.1 15 r_22.toNatClampNeg) = (u.2.1 15 r_24.toNatClampNeg)) →
                      JJ_26 1)))))))) n 0 0))) n 0 (bI b) := by
    intro b hb
    refine lq2_m (fun m x y => ∃ (l : Nat) (b : Bool), l + m = 2 ∧ x = nI l ∧ y = bI b ∧ belw s1 w1 s2 w2 = (b && ginR w1 w2 l)) ?_ 2 0 (bI b) ⟨0, b, rfl, rfl, rfl, hb⟩
    rintro LL m x y ⟨l, b, hlm, rfl, rfl, hbl⟩ ih
    refine pk_le 2 l (fun hc => ?_) (fun hc => ?_)
    · have e : belw s1 w1 s2 w2 = b := by
        have e2 : l = 2 := by omega
        rw [hbl, e2]
        simp [ginR]
      rw [e] at h
      exact ⟨zb_bI b, h⟩
    refine bI_if (fun e => ?_) (fun e => ?_)
    · have e2 : belw s1 w1 s2 w2 = false := by rw [hbl, e]; rfl
      rw [e2] at h
      rw [e]
      exact ⟨zb_bI false, h⟩
    have a1 := h1.2 l (by omega)
    have a2 := h2.2 l (by omega)
    have b1 := ok1 l (by omega)
    have b2 := ok2 l (by omega)
    rw [ix2, ix2, nI_clamp (by omega), nI_clamp (by omega), a1.1, a2.1]
    refine lq2_m (fun m2 x2 y2 => ∃ i k, i + m2 = (w2 l).length ∧ k ≤ (w1 l).length ∧ x2 = nI i ∧ y2 = nI k ∧ gin (w1 l) (w2 l) = gin ((w1 l).drop k) ((w2 l).drop i)) ?_ (w2 l).length 0 0 ⟨0, 0, by omega, Nat.zero_le _, rfl, rfl, by simp⟩
    rintro LL2 m2 x2 y2 ⟨i, k, him, hk, rfl, rfl, hg⟩ ih2
    have hexit : (gin (w1 l) (w2 l) = decide (k = (w1 l).length)) → vp_in (nI (2 * p + l)) 166 ∧ ((¬ nI k = nI (w1 l).length → LL (nI l + 1) 0) ∧ (nI k = nI (w1 l).length → LL (nI l + 1) 1)) := by
      intro hx
      refine ⟨vp_in_nI (by omega) (by omega), ?_⟩
      have fin : LL (nI l + 1) (bI (gin (w1 l) (w2 l))) := ih (m - 1) _ _ (by omega) ⟨l + 1, gin (w1 l) (w2 l), by omega, nI_1 l, rfl, by rw [hbl, e, ginR_step w1 w2 (by omega)]; rfl⟩
      rw [hx] at fin
      refine pk_ne k (w1 l).length (fun z => ?_) (fun z => ?_)
      · rw [decide_eq_false z] at fin
        exact fin
      · rw [decide_eq_true z] at fin
        exact fin
    refine ⟨vp_in_nI (by omega) (by omega), ?_⟩
    simp only [jn]
    refine pk_le (w2 l).length i (fun hd => ?_) (fun hd => ?_)
    · refine hexit ?_
      rw [hg, List.drop_eq_nil_of_le hd]
      by_cases z : k = (w1 l).length
      · rw [List.drop_eq_nil_of_le (by omega), decide_eq_true z]
        rfl
      · rw [decide_eq_false z, drop_get (w := w1 l) (i := k) (by omega)]
        rfl
    refine ⟨vp_in_nI (by omega) (by omega), ?_⟩
    refine pk_le (w1 l).length k (fun he => ?_) (fun he => ?_)
    · refine hexit ?_
      rw [hg, List.drop_eq_nil_of_le he, gin_nil, decide_eq_true (by omega)]
    refine s_spot q l i ⟨vp_in_nI (by omega) (by omega), ?_⟩
    refine s_spot p l k ⟨vp_in_nI (by omega) (by omega), ?_⟩
    rw [nI_clamp (by omega), nI_clamp (by omega), a1.2 k he, a2.2 i hd]
    have g1 := lok_get b1.1 he
    have g2 := lok_get b2.1 hd
    refine pk_ne ((w2 l).getD i 0) ((w1 l).getD k 0) (fun hf => ?_) (fun hf => ?_)
    · refine ih2 (m2 - 1) _ _ (by omega) ⟨i + 1, k, by omega, hk, nI_1 i, nI_add k 0, ?_⟩
      rw [hg, drop_get (w := w1 l) he, drop_get (w := w2 l) hd, gin, if_neg (fun z => hf z.symm)]
    · refine ih2 (m2 - 1) _ _ (by omega) ⟨i + 1, k + 1, by omega, by omega, nI_1 i, nI_1 k, ?_⟩
      rw [hg, drop_get (w := w1 l) he, drop_get (w := w2 l) hd, gin, if_pos hf.symm]
  simp only [jn] at main ⊢
  refine pk_ne s1 s2 (fun e => ?_) (fun e => ?_)
  · exact main false (by simp [belw, e])
  · exact main true (by simp [belw, e, ginR])
