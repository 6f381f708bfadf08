/-! strict: the model -/
theorem m_codeOf {u : Ob} {p k : Nat} {w : List Nat} (hp : p < 83) (hk : k < 2) (hw : mdW u p k w) (hl : w.length ≤ 10) {post : Int32 → Prop} (h : post (nI (enc w))) : wp_X8_codeOf u (nI p) (nI k) post := by
  unfold wp_X8_codeOf
  rw [ix2, nI_clamp (by omega), hw.1]
  refine ⟨vp_in_nI (by omega) (by omega), ?_⟩
  refine lq2_m (fun m x y => m ≤ w.length ∧ x = nI m - 1 ∧ y = nI (enc (w.drop m))) ?_ w.length (nI w.length - 1) 0 ⟨Nat.le_refl _, rfl, by rw [enc_low0 (Nat.le_refl _)]; rfl⟩
  rintro LL m x y ⟨hm, rfl, rfl⟩ ih
  cases m with
  | zero =>
    refine ⟨fun _ => ?_, fun z => absurd (show nI 0 - 1 < (0 : Int32) by decide) z⟩
    exact h
  | succ i =>
    rw [nI_pred]
    refine ⟨fun z => absurd z (nI_pos (by omega)), fun _ => ?_⟩
    refine s_spot p k i ?_
    refine ⟨vp_in_nI (by omega) (by omega), ?_⟩
    rw [nI_clamp (by omega), hw.2 i (by omega)]
    refine ih i _ _ (by omega) ⟨by omega, (Int32.sub_eq_add_neg _ _).symm, ?_⟩
    rw [show (4 : Int32) = nI 4 from rfl, pk_mul, nI_add, nI_1, drop_get (show i < w.length by omega)]
    congr 1
    simp only [enc]
    omega
theorem enc_q {w : List Nat} {i : Nat} (hw : lok w) (hi : i < w.length) : enc (w.drop i) = w.getD i 0 + 1 + 4 * enc (w.drop (i + 1)) := by
  rw [drop_get hi]
  rfl
theorem m_decode {u : Ob} {p k : Nat} {w : List Nat} (hp : p < 83) (hk : k < 2) (hok : lok w) (hl : w.length ≤ 10) {post : Ob → Prop} (h : ∀ v, keepW u v p k → mdW v p k w → post v) : wp_X8_decode u (nI (enc w)) (nI p) (nI k) post := by
  unfold wp_X8_decode
  have c1 : (nI (2 * p + k)).toNatClampNeg = 2 * p + k := nI_clamp (by omega)
  have i1 : vp_in (nI (2 * p + k)) 166 := vp_in_nI (by omega) (by omega)
  rw [ix2, c1]
  refine ⟨i1, fun u2 e2 => ?_⟩
  refine lq2_m (fun m x v => ∃ i, i + m = w.length ∧ x = nI (enc (w.drop i)) ∧ keepW u v p k ∧ v.2.1 14 (2 * p + k) = nI i ∧ ∀ t, t < i → v.2.1 15 (22 * p + 11 * k + t) = nI (w.getD t 0)) ?_ w.length (nI (enc w)) u2 ⟨0, by omega, rfl, by rw [e2]; exact keepW.rf.size _, by rw [e2, ob_as, up_s]; rfl, fun t ht => absurd ht (Nat.not_lt_zero t)⟩
  rintro LL m x v ⟨i, him, rfl, kv, sv, wv⟩ ih
  have h3 := enc_lt31 (lok_drop hok i) (by rw [List.length_drop]; omega)
  refine pk_le (enc (w.drop i)) 0 (fun hc => ?_) (fun hc => ?_)
  · have h2 := List.drop_eq_nil_iff.mp (enc_zero.mp (show enc (w.drop i) = 0 by omega))
    have ei : i = w.length := by omega
    rw [ei] at sv wv
    exact h v kv ⟨sv, wv⟩
  have hi : i < w.length := by
    rcases Nat.lt_or_ge i w.length with q | q
    · exact q
    · have := enc_low0 q
      omega
  have eq := enc_q hok hi
  have g3 := lok_get hok hi
  have r4 : j_rem (nI (enc (w.drop i))) 4 - 1 = nI (w.getD i 0) := by
    have e4 : j_rem (nI (enc (w.drop i))) 4 = nI (enc (w.drop i) % 4) := pk_rem (d := 4) (by omega) (by omega) (by omega)
    rw [e4, show enc (w.drop i) % 4 = w.getD i 0 + 1 by omega, nI_pred]
  have d4 : nI (enc (w.drop i)) / 4 = nI (enc (w.drop (i + 1))) := by
    have e4 : nI (enc (w.drop i)) / 4 = nI (enc (w.drop i) / 4) := pk_div (d := 4) (by omega) (by omega) (by omega)
    rw [e4]
    congr 1
    omega
  rw [sv, r4, d4]
  refine ⟨i1, ?_⟩
  refine s_spot p k i ?_
  rw [nI_clamp (by omega)]
  refine ⟨vp_in_nI (by omega) (by omega), fun u10 e10 => ⟨i1, i1, fun u13 e13 => ?_⟩⟩
  have s10 : u10.2.1 14 (2 * p + k) = nI i := by
    rw [e10, ob_ao _ _ (by decide)]
    exact sv
  rw [s10, nI_1] at e13
  refine ih (m - 1) _ _ (by omega) ⟨i + 1, by omega, rfl, ?_, ?_, fun t ht => ?_⟩
  · rw [e13]
    refine keepW.size ?_ _
    rw [e10]
    exact kv.word (by omega) _
  · rw [e13, ob_as, up_s]
  · rw [e13, ob_ao _ _ (by decide), e10, ob_as]
    by_cases q : t = i
    · rw [q, up_s]
    · rw [up_o _ _ (by omega)]
      exact wv t (by omega)
theorem rem64 {n : Nat} (h : n < 2 ^ 31) : j_rem (nI n) 64 = nI (n % 64) := pk_rem (d := 64) h (by omega) (by omega)
theorem m_lay {u : Ob} {l : Nat} {p : Plc} (hp : pcK l p) (hl : l ≤ 3) {post : Ob → Prop} (h : ∀ v, keepP u v 80 → mdP v 80 p.1 p.2 → post v) : wp_X8_lay u (nI (cd p)) post := by
  have hlt := cd_lt hp hl
  have w0 := hp.2 0 (by omega)
  have w1 := hp.2 1 (by omega)
  unfold wp_X8_lay
  have e1 : nI (cd p) / 4096 = nI p.1 := by
    have e : nI (cd p) / 4096 = nI (cd p / 4096) := pk_div (d := 4096) (by omega) (by omega) (by omega)
    rw [e, cd_s hp hl]
  have e2 : j_rem (nI (cd p) / 64) 64 = nI (enc (p.2 0)) := by
    have e : nI (cd p) / 64 = nI (cd p / 64) := pk_div (d := 64) (by omega) (by omega) (by omega)
    rw [e, rem64 (by omega), cd_0 hp hl]
  have e3 : j_rem (nI (cd p)) 64 = nI (enc (p.2 1)) := by rw [rem64 (by omega), cd_1 hp hl]
  rw [e1, e2, e3, c80]
  refine ⟨i80, fun u2 q2 => ?_⟩
  have k2 : keepP u u2 80 := by
    rw [q2]
    exact keepP.st u 80 _
  refine m_decode (p := 80) (k := 0) (by omega) (by omega) w0.1 (by omega) (fun u3 k3 m3 => ?_)
  refine m_decode (p := 80) (k := 1) (by omega) (by omega) w1.1 (by omega) (fun u4 k4 m4 => ?_)
  refine h u4 ((k2.trans (k3.P (by omega))).trans (k4.P (by omega))) ⟨?_, fun k hk => ?_⟩
  · rw [k4.2.2.1 13 (by decide) (by decide), k3.2.2.1 13 (by decide) (by decide), q2, ob_as, up_s]
  · rcases (show k = 0 ∨ k = 1 by omega) with rfl | rfl
    · exact m3.keep k4 (by omega) (by omega) (fun y => absurd y.2 (by decide)) (by omega)
    · exact m4
theorem m_wholeCode {u : Ob} {q l : Nat} {p : Plc} (hq : q < 83) (hp : pcK l p) (hl : l ≤ 3) (hm : mdP u q p.1 p.2) {post : Int32 → Prop} (h : post (nI (cd p))) : wp_X8_wholeCode u (nI q) post := by
  unfold wp_X8_wholeCode
  have w0 := hp.2 0 (by omega)
  have w1 := hp.2 1 (by omega)
  rw [nI_clamp (by omega), hm.1]
  refine ⟨vp_in_nI hq (by omega), ?_⟩
  refine m_codeOf (k := 0) hq (by omega) (hm.2 0 (by omega)) (by omega) ?_
  refine m_codeOf (k := 1) hq (by omega) (hm.2 1 (by omega)) (by omega) ?_
  have e1 : (4096 : Int32) * nI p.1 = nI (4096 * p.1) := pk_mul 4096 _
  have e2 : (64 : Int32) * nI (enc (p.2 0)) = nI (64 * enc (p.2 0)) := pk_mul 64 _
  rw [e1, e2, nI_add, nI_add]
  exact h
theorem m_isLong {u : Ob} {p st : Nat} {ws : Nat → List Nat} (hp : p < 83) (hm : mdP u p st ws) (hw : ∀ k, k < 2 → (ws k).length ≤ 11) {l : Nat} (hl : l ≤ 3) {post : Int32 → Prop} (h0 : (ws 0).length ≤ l ∧ (ws 1).length ≤ l → post 0) (h1 : ¬ ((ws 0).length ≤ l ∧ (ws 1).length ≤ l) → post 1) : wp_X8_isLong u (nI p) (nI l) post := by
  unfold wp_X8_isLong
  have a0 := hw 0 (by omega)
  have a1 := hw 1 (by omega)
  have e0 : u.2.1 14 (2 * p) = nI (ws 0).length := (hm.2 0 (by omega)).1
  have e1 : u.2.1 14 (2 * p + 1) = nI (ws 1).length := (hm.2 1 (by omega)).1
  have d1 : nI (2 * p) + 1 = nI (2 * p + 1) := nI_add _ 1
  rw [mul2, d1, nI_clamp (by omega), nI_clamp (by omega), e0, e1]
  refine ⟨vp_in_nI (by omega) (by omega), ?_⟩
  refine pk_lt l (ws 0).length (fun q => h1 (by omega)) (fun q => ⟨vp_in_nI (by omega) (by omega), ?_⟩)
  exact pk_le (ws 1).length l (fun q2 => h0 ⟨q, q2⟩) (fun q2 => h1 (by omega))
theorem m_goes {u : Ob} {N c : Nat} {bg : Nat → Bool} {ar : Nat → Nat → Nat} (hm : dmR u N c bg ar) (hk : mK N c ar) {i l : Nat} (hi : i < c) (hl : l ≤ 3) {p : Plc} (hp : pcK l p) (h80 : mdP u 80 p.1 p.2) {post : Int32 → Ob → Prop} (h0 : nxt bg ar l i p = none → post 0 u) (h1 : ∀ q : Plc, nxt bg ar l i p = some q → ∀ v, keepP u v 80 → mdP v 80 q.1 q.2 → post 1 v) : wp_X8_goes u (nI i) (nI l) post := by
  have hc := hk.2.2.1
  have hN := hk.2.1
  have hst := hp.1
  unfold wp_X8_goes
  have ci : (nI i).toNatClampNeg = i := nI_clamp (by omega)
  obtain ⟨g0, g1, g2, g3, g4⟩ := hk.2.2.2 i hi
  have o0 : u.2.1 3 i = nI (ar i 0) := hm.2.2.2 i 0 hi (by omega)
  have o1 : u.2.1 4 i = nI (ar i 1) := hm.2.2.2 i 1 hi (by omega)
  have o2 : u.2.1 5 i = nI (ar i 2) := hm.2.2.2 i 2 hi (by omega)
  have o3 : u.2.1 6 i = nI (ar i 3) := hm.2.2.2 i 3 hi (by omega)
  have o4 : u.2.1 7 i = nI (ar i 4) := hm.2.2.2 i 4 hi (by omega)
  have i1 : vp_in (nI i) 20 := vp_in_nI (by omega) (by omega)
  have hw := hp.2 (ar i 2) g2
  have wl := h80.2 (ar i 2) g2
  have e160 : (160 : Int32) + nI (ar i 2) = nI (160 + ar i 2) := nI_add 160 _
  have s160 : u.2.1 14 (160 + ar i 2) = nI (p.2 (ar i 2)).length := wl.1
  have j160 : vp_in (nI (160 + ar i 2)) 166 := vp_in_nI (by omega) (by omega)
  have j2 : vp_in (nI (ar i 2)) 2 := vp_in_nI g2 (by omega)
  simp only [jn]
  rw [c80, ci, o0, o1, o2, o3, h80.1, e160, nI_clamp (by omega), nI_clamp (by omega), s160, hm.2.2.1 _ g2]
  refine ⟨i1, i1, i1, i80, ?_⟩
  refine pk_eq (ar i 0) p.1 (fun q => ?_) (fun q => h0 (nxt_st q))
  refine ⟨i1, ?_⟩
  have hlen : ∀ k, k < 2 → (p.2 k).length ≤ 11 := fun k hk2 => by
    have := (hp.2 k hk2).2
    omega
  have rest : ∀ (v : List Nat) (u8 : Ob), behind (bg (ar i 2)) (ar i 1) (ar i 3) (p.2 (ar i 2)) = some v → v.length ≤ l → keepP u u8 80 → mdP u8 80 p.1 (va_up p.2 (ar i 2) v) → vp_in (nI i) 20 ∧ vp_in 80 83 ∧ ∀ u_11 : Ob, u_11 = fs_a u8 13 (upd (u8.2.1 13) 80 (u8.2.1 7 i)) → post 1 u_11 := by
    intro v u8 hv hvl k8 p8
    refine ⟨i1, i80, fun u11 e11 => ?_⟩
    rw [k8.2.2.1 7 (by decide) (by decide) (by decide), o4] at e11
    refine h1 _ (nxt_ok q hv hvl) u11 (k8.trans ?_) ?_
    · rw [e11]
      exact keepP.st u8 80 _
    · rw [e11]
      exact p8.st (ar i 4)
  refine pk_ne (ar i 1) 2 (fun y2 => ⟨i1, ?_⟩) (fun y2 => ?_)
  · refine pk_ne (ar i 1) 1 (fun y1 => ?_) (fun y1 => ⟨j160, ?_⟩)
    · exact rest _ u (by rw [behind, if_neg y1, if_neg y2]) hw.2 keepP.rf (mdP_same h80)
    · have hb : behind (bg (ar i 2)) (ar i 1) (ar i 3) (p.2 (ar i 2)) = some (wwith (bg (ar i 2)) (p.2 (ar i 2)) (ar i 3)) := by rw [behind, if_pos y1]
      have hbl := wwith_len (bg (ar i 2)) (p.2 (ar i 2)) (ar i 3)
      refine pk_lt (p.2 (ar i 2)).length l (fun y3 => ⟨j2, ?_⟩) (fun y3 => h0 (nxt_lg hb (by omega)))
      have put : ∀ k : Nat, k ≤ (p.2 (ar i 2)).length → wwith (bg (ar i 2)) (p.2 (ar i 2)) (ar i 3) = ins (p.2 (ar i 2)) k (ar i 3) → wp_X8_putIn u 80 (nI (ar i 2)) (nI k) (nI (ar i 3)) (fun (u_20 : Ob) => vp_in (nI i) 20 ∧ vp_in 80 83 ∧ ∀ u_11 : Ob, u_11 = fs_a u_20 13 (upd (u_20.2.1 13) 80 (u_20.2.1 7 i)) → post 1 u_11) := by
        intro k hkl he
        refine s_putIn (p := 80) (by decide) g2 wl (by omega) hkl (fun v kv wv => ?_)
        rw [← he] at wv
        exact rest _ v hb (by omega) (kv.P g2) (h80.word g2 hlen kv wv)
      refine bI_if (fun z => ⟨j160, ?_⟩) (fun z => ?_)
      · exact put _ (Nat.le_refl _) (by rw [wwith, z]; rfl)
      · refine s_inOrder (p := 80) (by decide) g2 g3 wl hw.1 (by omega) ?_
        exact put _ (pio_le _ _) (by rw [wwith, z]; rfl)
  · have hb : behind (bg (ar i 2)) (ar i 1) (ar i 3) (p.2 (ar i 2)) = if canTake (bg (ar i 2)) (p.2 (ar i 2)) (ar i 3) then some (del (p.2 (ar i 2)) (fx (p.2 (ar i 2)) (ar i 3))) else none := by rw [behind, if_neg (by omega), if_pos y2]
    refine s_firstOf (p := 80) (by decide) g2 g3 wl hw.1 (by omega) (fun hf => ?_) (fun hf => ?_)
    · refine ⟨fun z => absurd z (nI_pos (by omega)), fun _ => ?_⟩
      have go : canTake (bg (ar i 2)) (p.2 (ar i 2)) (ar i 3) = true → wp_X8_takeOut u 80 (nI (ar i 2)) (nI (fx (p.2 (ar i 2)) (ar i 3))) (fun (u_27 : Ob) => vp_in (nI i) 20 ∧ vp_in 80 83 ∧ ∀ u_11 : Ob, u_11 = fs_a u_27 13 (upd (u_27.2.1 13) 80 (u_27.2.1 7 i)) → post 1 u_11) := by
        intro hct
        rw [hct, if_pos rfl] at hb
        refine s_takeOut (p := 80) (by decide) g2 wl (by omega) hf (fun v kv wv => ?_)
        have hdl := del_len hf
        exact rest _ v hb (by omega) (kv.P g2) (h80.word g2 hlen kv wv)
      refine pk_le (fx (p.2 (ar i 2)) (ar i 3)) 0 (fun y3 => ?_) (fun y3 => ⟨j2, ?_⟩)
      · have y4 : fx (p.2 (ar i 2)) (ar i 3) = 0 := by omega
        exact go (by rw [canTake, y4, decide_eq_true (show 0 < (p.2 (ar i 2)).length by omega)]; simp)
      · refine bI_if2 (fun z => ?_) (fun z => ?_)
        · exact go (by simp [canTake, z, hf])
        · refine h0 (nxt_no ?_)
          have hct : canTake (bg (ar i 2)) (p.2 (ar i 2)) (ar i 3) = false := by
            have y5 : ¬ fx (p.2 (ar i 2)) (ar i 3) = 0 := by omega
            simp [canTake, z, y5]
          rw [hb, hct]
          rfl
    · refine ⟨fun _ => h0 (nxt_no ?_), fun z => absurd (show (-1 : Int32) < 0 by decide) z⟩
      have hct : canTake (bg (ar i 2)) (p.2 (ar i 2)) (ar i 3) = false := by simp [canTake, hf]
      rw [hb, hct]
      rfl
/-- what 'strict' keeps of the model -/
def keepQ (u v : Ob) : Prop := v.1 = u.1 ∧ (∀ j, j ≠ 13 → j ≠ 14 → j ≠ 15 → j ≠ 20 → j ≠ 21 → v.2.1 j = u.2.1 j) ∧ (∀ j, 81 ≤ j → v.2.1 13 j = u.2.1 13 j) ∧ (∀ j, 162 ≤ j → v.2.1 14 j = u.2.1 14 j) ∧ ∀ j, 1782 ≤ j → v.2.1 15 j = u.2.1 15 j
theorem keepQ.rf {u : Ob} : keepQ u u := ⟨rfl, fun _ _ _ _ _ _ => rfl, fun _ _ => rfl, fun _ _ => rfl, fun _ _ => rfl⟩
theorem keepQ.trans {u v w : Ob} (h : keepQ u v) (g : keepQ v w) : keepQ u w :=
  ⟨g.1.trans h.1, fun j a b c d e => (g.2.1 j a b c d e).trans (h.2.1 j a b c d e), fun j a => (g.2.2.1 j a).trans (h.2.2.1 j a), fun j a => (g.2.2.2.1 j a).trans (h.2.2.2.1 j a), fun j a => (g.2.2.2.2 j a).trans (h.2.2.2.2 j a)⟩
theorem keepP.Q {u v : Ob} (h : keepP u v 80) : keepQ u v :=
  ⟨h.1, fun j a b c _ _ => h.2.2.1 j a b c, fun j a => h.2.2.2.1 j (by omega), fun j a => h.2.2.2.2.1 j (by omega) (by omega), fun j a => h.2.2.2.2.2 j (by omega)⟩
theorem keepQ.a (u : Ob) {k : Nat} (hk : k = 20 ∨ k = 21) (f : Nat → Int32) : keepQ u (fs_a u k f) :=
  ⟨rfl, fun j a b c d e => ob_ao _ _ (by omega), fun j a => by rw [ob_ao _ _ (by omega)], fun j a => by rw [ob_ao _ _ (by omega)], fun j a => by rw [ob_ao _ _ (by omega)]⟩
theorem keepQ.P {u v : Ob} (h : keepQ u v) {p st : Nat} {ws : Nat → List Nat} (hp : 81 ≤ p) (hm : mdP u p st ws) : mdP v p st ws := by
  refine ⟨?_, fun k hk => ⟨?_, fun i hi => ?_⟩⟩
  · rw [h.2.2.1 p hp]
    exact hm.1
  · rw [h.2.2.2.1 _ (by omega)]
    exact (hm.2 k hk).1
  · rw [h.2.2.2.2 _ (by omega)]
    exact (hm.2 k hk).2 i hi
theorem keepQ.m {u v : Ob} (h : keepQ u v) {N c : Nat} {bg : Nat → Bool} {ar : Nat → Nat → Nat} (hm : dmR u N c bg ar) : dmR v N c bg ar :=
  hm.cg (by rw [h.1]) (by rw [h.1]) (h.2.1 1 (by decide) (by decide) (by decide) (by decide) (by decide)) (fun q hq => h.2.1 (3 + q) (by omega) (by omega) (by omega) (by omega) (by omega))
theorem keepQ.R {u v : Ob} (h : keepQ u v) {N c : Nat} {bg : Nat → Bool} {ar : Nat → Nat → Nat} {tp : List Nat} {sN : Nat} {wN : Nat → List Nat} {sA : Nat} {wA : Nat → List Nat} {hd : Nat → Bool} {ln sz : Nat → Nat} {it : Nat → Nat → Int32} (hm : MR u N c bg ar tp sN wN sA wA hd ln sz it) : MR v N c bg ar tp sN wN sA wA hd ln sz it :=
  ⟨h.m hm.1, hm.2.1.cg (by rw [h.1]) (h.2.1 8 (by decide) (by decide) (by decide) (by decide) (by decide)), h.P (by decide) hm.2.2.1, h.P (by decide) hm.2.2.2.1, hm.2.2.2.2.cg (h.2.1 22 (by decide) (by decide) (by decide) (by decide) (by decide)) (h.2.1 23 (by decide) (by decide) (by decide) (by decide) (by decide)) (h.2.1 24 (by decide) (by decide) (by decide) (by decide) (by decide))⟩
/-- the queue as the model holds it -/
def qR (u : Ob) (z : Bst) : Prop := (∀ j, j < z.2.2 → u.2.1 20 j = nI (cd (z.1 j)) ∧ u.2.1 21 (cd (z.1 j)) = nI (z.2.1 j)) ∧ ∀ x, x < 32768 → (∀ j, j < z.2.2 → cd (z.1 j) ≠ x) → u.2.1 21 x = -1
theorem qR.P {u v : Ob} {z : Bst} (h : qR u z) (hk : keepP u v 80) : qR v z := by
  have e0 : v.2.1 20 = u.2.1 20 := hk.2.2.1 20 (by decide) (by decide) (by decide)
  have e1 : v.2.1 21 = u.2.1 21 := hk.2.2.1 21 (by decide) (by decide) (by decide)
  unfold qR
  rw [e0, e1]
  exact h
theorem m_strict {u : Ob} {N c : Nat} {bg : Nat → Bool} {ar : Nat → Nat → Nat} {tp : List Nat} {sN : Nat} {wN : Nat → List Nat} {sA : Nat} {wA : Nat → List Nat} {hd : Nat → Bool} {ln sz : Nat → Nat} {it : Nat → Nat → Int32} (h : MR u N c bg ar tp sN wN sA wA hd ln sz it) (hk : mK N c ar) (hpn : plK N sN wN) (hA : plK N sA wA) {x : Int32} {post : Int32 → Ob → Prop}
    (h2 : stN sN wN wA x = 2 → ∀ v, MR v N c bg ar tp sN wN sA wA hd ln sz it → post (oI (strB bg ar x.toNatClampNeg c sN wN sA wA)) v) (h1 : stN sN wN wA x = 1 → post (-2) u) (h0 : stN sN wN wA x = 0 → post (-1) u) : wp_X8_strict u x post := by
  have hN := hk.2.1
  have hc := hk.2.2.1
  have hst := hpn.1
  have hsA := hA.1
  unfold wp_X8_strict
  refine m_in (a := 0) (b := 3) (by decide) (by decide) ?_
  rw [ixr_0]
  refine bI_if2 (fun e => ?_) (fun e => h0 (by rw [stN, e]; rfl))
  obtain ⟨l, hl4, rfl⟩ := ix_t (by decide) e
  have hl : l ≤ 3 := by omega
  unfold stN at h2 h1
  rw [e, nI_clamp (by omega), if_pos rfl] at h2 h1
  refine m_isLong (p := 82) (by decide) h.2.2.1 (plK_len hpn) hl (fun q => ⟨fun y => absurd (by rfl) y, fun _ => ?_⟩) (fun q => ⟨fun _ => h1 (if_neg (fun w => q ⟨w.1, w.2.1⟩)), fun y => absurd y (by decide)⟩)
  refine m_isLong (p := 81) (by decide) h.2.2.2.1 (plK_len hA) hl (fun q2 => ⟨fun _ => ?_, fun y => absurd (by rfl) y⟩) (fun q2 => ⟨fun y => absurd y (by decide), fun _ => h1 (if_neg (fun w => q2 ⟨w.2.2.1, w.2.2.2⟩))⟩)
  have h2 := h2 (if_pos ⟨q.1, q.2, q2.1, q2.2⟩)
  have hp : pcK l (sN, wN) := by
    refine ⟨by show sN < 8; omega, fun k hk2 => ⟨(hpn.2 k hk2).1, ?_⟩⟩
    show (wN k).length ≤ l
    rcases (show k = 0 ∨ k = 1 by omega) with rfl | rfl
    · exact q.1
    · exact q.2
  have hlt := cd_lt hp hl
  refine lq2_m (fun m x w => ∃ i, i + m = 32768 ∧ x = nI i ∧ keepQ u w ∧ ∀ j, j < i → w.2.1 21 j = -1) ?_ 32768 0 u ⟨0, rfl, rfl, keepQ.rf, fun j hj => absurd hj (Nat.not_lt_zero j)⟩
  rintro LL m x w ⟨i, him, rfl, kw, cl⟩ ih
  refine pk_le 32768 i (fun hc1 => ?_) (fun hc1 => ⟨vp_in_nI hc1 (by omega), fun u53 e53 => ?_⟩)
  rotate_left
  · rw [nI_clamp (by omega)] at e53
    refine ih (m - 1) _ _ (by omega) ⟨i + 1, by omega, nI_1 i, ?_, fun j hj => ?_⟩
    · rw [e53]
      exact kw.trans (keepQ.a w (Or.inr rfl) _)
    · rw [e53, ob_as]
      by_cases z : j = i
      · rw [z, up_s]
      · rw [up_o _ _ z]
        exact cl j (by omega)
  have ei : i = 32768 := by omega
  subst ei
  refine m_wholeCode (q := 82) (p := (sN, wN)) (by decide) hp hl (kw.P (by decide) h.2.2.1) ?_
  have c00 : (0 : Int32).toNatClampNeg = 0 := rfl
  have v0 : vp_in 0 32768 := vp_in_nI (n := 0) (N := 32768) (by omega) (by omega)
  rw [c00]
  refine ⟨v0, fun u13 e13 => ⟨v0, ?_⟩⟩
  have f13 : u13.2.1 20 0 = nI (cd (sN, wN)) := by rw [e13, ob_as, up_s]
  rw [f13, nI_clamp (by omega)]
  refine ⟨vp_in_nI hlt (by omega), fun u16 e16 => ?_⟩
  have k16 : keepQ u u16 := by
    rw [e16]
    refine keepQ.trans ?_ (keepQ.a u13 (Or.inr rfl) _)
    rw [e13]
    exact kw.trans (keepQ.a w (Or.inl rfl) _)
  have q16 : qR u16 (b0 sN wN) := by
    refine ⟨fun j hj => ?_, fun x hx no => ?_⟩
    · have hj : j < 1 := hj
      have j0 : j = 0 := by omega
      subst j0
      refine ⟨?_, ?_⟩
      · rw [e16, ob_ao _ _ (by decide)]
        exact f13
      · rw [e16, ob_as]
        show upd (u13.2.1 21) (cd (sN, wN)) 0 (cd (sN, wN)) = _
        rw [up_s]
        rfl
    · have n0 : cd (sN, wN) ≠ x := no 0 (by show 0 < 1; omega)
      rw [e16, ob_as, up_o _ _ (fun y => n0 y.symm), e13, ob_ao _ _ (by decide)]
      exact cl x hx
  refine lq3_m (fun m x y w => ∃ (k : Nat) (z : Bst), k + m = 12800 ∧ x = nI k ∧ y = nI z.2.2 ∧ keepQ u w ∧ qR w z ∧ bOK l z ∧ strB bg ar l c sN wN sA wA = bfs bg ar l c sA wA (12800 - k) k z) ?_ 12800 0 1 u16 ⟨0, b0 sN wN, rfl, rfl, rfl, k16, q16, b0_OK hp, rfl⟩
  rintro LL2 m2 x2 y2 w2 ⟨k, z, hkm, rfl, rfl, kq, hq, hz, he⟩ ih2
  have hn := bOK_n hz hl
  refine pk_le z.2.2 k (fun hd1 => ?_) (fun hd1 => ?_)
  · have e4 : strB bg ar l c sN wN sA wA = none := by
      rw [he]
      cases r : 12800 - k with
      | zero => rfl
      | succ r => rw [bfs, if_neg (by omega)]
    rw [e4] at h2
    exact h2 w2 (kq.R h)
  have hpk := (hz.1 k hd1).1
  have hck := cd_lt hpk hl
  obtain ⟨r, hr⟩ : ∃ r, 12800 - k = r + 1 := ⟨12799 - k, by omega⟩
  have hr2 : 12800 - (k + 1) = r := by omega
  rw [hr, bfs, if_pos hd1] at he
  have ck : (nI k).toNatClampNeg = k := nI_clamp (by omega)
  have vk : vp_in (nI k) 32768 := vp_in_nI (by omega) (by omega)
  have cck : (nI (cd (z.1 k))).toNatClampNeg = cd (z.1 k) := nI_clamp (by omega)
  rw [ck, (hq.1 k hd1).1]
  refine ⟨vk, ?_⟩
  refine m_lay hpk hl (fun w3 k3 p3 => ?_)
  have kq3 := kq.trans k3.Q
  have hq3 := hq.P k3
  have hp3 := hpk.1
  refine s_isBelow (p := 81) (q := 80) (by decide) (by decide) (by omega) (by omega) (kq3.P (by decide) h.2.2.2.1) p3 (fun j hj => ⟨(hA.2 j hj).1, plK_len hA j hj⟩) (fun j hj => ⟨(hpk.2 j hj).1, by have := (hpk.2 j hj).2; omega⟩) ?_
  refine bI_if (fun g => ?_) (fun g => ⟨vk, ?_⟩)
  rotate_left
  · rw [(hq3.1 k hd1).1, cck, (hq3.1 k hd1).2]
    refine ⟨vp_in_nI hck (by omega), ?_⟩
    rw [g, if_pos rfl] at he
    rw [he] at h2
    exact h2 w3 (kq3.R h)
  rw [g, if_neg (by decide)] at he
  refine lq3_m (fun m x y w => ∃ (a : Nat) (y2 : Bst), a + m = c ∧ x = nI a ∧ y = nI y2.2.2 ∧ keepQ u w ∧ qR w y2 ∧ bOK l y2 ∧ bKp k z y2 ∧ bexp bg ar l c k c z = bexp bg ar l c k m y2) ?_ c 0 (nI z.2.2) w3 ⟨0, z, by omega, rfl, rfl, kq3, hq3, hz, bKp.rf k z, rfl⟩
  rintro LL3 m3 x3 y3 w4 ⟨a, y, ham, rfl, rfl, kq4, hq4, hy, ky, hey⟩ ih3
  have o4 := kq4.m h.1
  have hny := bOK_n hy hl
  rw [o4.2.1]
  refine pk_le c a (fun hd2 => ?_) (fun hd2 => ?_)
  · have e5 : m3 = 0 := by omega
    rw [e5] at hey
    have hey : bexp bg ar l c k c z = y := hey
    rw [hey, ← hr2] at he
    exact ih2 (m2 - 1) _ _ _ (by omega) ⟨k + 1, y, by omega, nI_1 k, rfl, kq4, hq4, hy, he⟩
  have hky : k < y.2.2 := Nat.lt_of_lt_of_le hd1 ky.1
  have yp : y.1 k = z.1 k := (ky.2.1 k hd1).1
  obtain ⟨t, rfl⟩ : ∃ t, m3 = t + 1 := ⟨m3 - 1, by omega⟩
  have ea : c - (t + 1) = a := by omega
  rw [bexp, ea] at hey
  obtain ⟨o5, k5⟩ := bstp_K (bg := bg) hk hd2 hy hky
  have k6 := bKp.tr hd1 ky k5
  have qk := hq4.1 k hky
  rw [yp] at qk
  rw [qk.1]
  refine ⟨vk, ?_⟩
  refine m_lay hpk hl (fun w5 k7 p7 => ?_)
  have kq5 := kq4.trans k7.Q
  have hq5 := hq4.P k7
  simp only [jn]
  refine m_goes (kq5.m h.1) hk hd2 hl hpk p7 (fun e6 => ?_) (fun p e6 w6 k8 p8 => ?_)
  · refine ⟨fun _ => ⟨vk, ?_⟩, fun z => absurd (by rfl) z⟩
    have qk5 := hq5.1 k hky
    rw [yp] at qk5
    rw [qk5.1, cck, qk5.2]
    refine ⟨vp_in_nI hck (by omega), fun _ => ?_, fun y9 => absurd (nI_pos' (by have := (hy.1 k hky).2; omega)) y9⟩
    rw [← yp] at e6
    rw [bstp_n e6] at hey
    exact ih3 t _ _ _ (by omega) ⟨a + 1, y, by omega, nI_1 a, rfl, kq5, hq5, hy, ky, hey⟩
  · refine ⟨fun z => absurd z (by decide), fun _ => ?_⟩
    have hpp := nxt_K hk hd2 hpk e6
    have hcp := cd_lt hpp hl
    have kq6 := kq5.trans k8.Q
    have hq6 := hq5.P k8
    refine m_wholeCode (q := 80) (by decide) hpp hl p8 ?_
    have qk6 := hq6.1 k hky
    rw [yp] at qk6
    have vp : vp_in (nI (cd p)) 32768 := vp_in_nI hcp (by omega)
    rw [← yp] at e6
    rw [nI_clamp (show cd p < 2 ^ 31 by omega)]
    refine ⟨vp, ?_⟩
    cases s : sn y.1 y.2.2 (cd p) with
    | true =>
      obtain ⟨j, hj, ej⟩ := sn_t s
      have sj := (hq6.1 j hj).2
      rw [ej] at sj
      rw [sj]
      refine ⟨fun _ => ?_, fun y9 => absurd (nI_pos' (by have := (hy.1 j hj).2; omega)) y9⟩
      rw [bstp_o e6 s] at hey
      exact ih3 t _ _ _ (by omega) ⟨a + 1, y, by omega, nI_1 a, rfl, kq6, hq6, hy, ky, hey⟩
    | false =>
      have no := sn_f s
      have room := bOK_room hy hl hky hpp s
      rw [hq6.2 (cd p) hcp no]
      refine ⟨fun y9 => absurd y9 (by decide), fun _ => ?_⟩
      rw [qk6.1, cck, qk6.2]
      refine ⟨vk, vp_in_nI hck (by omega), vp, fun u42 e42 => ⟨vp_in_nI (by omega) (by omega), fun u44 e44 => ?_⟩⟩
      rw [nI_clamp (by omega)] at e44
      rw [bstp_p e6 s] at hey o5 k6
      refine ih3 t _ _ _ (by omega) ⟨a + 1, bput y k p, by omega, nI_1 a, nI_1 _, ?_, ⟨fun j hj => ?_, fun x9 hx9 no9 => ?_⟩, o5, k6, hey⟩
      · rw [e44]
        refine keepQ.trans ?_ (keepQ.a u42 (Or.inl rfl) _)
        rw [e42]
        exact kq6.trans (keepQ.a w6 (Or.inr rfl) _)
      · have hj : j < y.2.2 + 1 := hj
        show u44.2.1 20 j = nI (cd (va_up y.1 y.2.2 p j)) ∧ u44.2.1 21 (cd (va_up y.1 y.2.2 p j)) = nI (va_up y.2.1 y.2.2 (y.2.1 k + 1) j)
        rw [e44, ob_as, ob_ao _ _ (by decide)]
        by_cases zj : j = y.2.2
        · rw [zj, up_s, va_up_self, va_up_self, e42, ob_as, up_s]
          exact ⟨rfl, nI_1 _⟩
        · rw [up_o _ _ zj, va_up_ne _ _ zj, va_up_ne _ _ zj, e42, ob_ao _ _ (by decide), ob_as, up_o _ _ (no j (by omega))]
          exact hq6.1 j (by omega)
      · have no9 : ∀ j, j < y.2.2 + 1 → cd (va_up y.1 y.2.2 p j) ≠ x9 := no9
        have n1 := no9 y.2.2 (by omega)
        rw [va_up_self] at n1
        rw [e44, ob_ao _ _ (by decide), e42, ob_as, up_o _ _ (fun w => n1 w.symm)]
        refine hq6.2 x9 hx9 (fun j hj => ?_)
        have n2 := no9 j (by omega)
        rw [va_up_ne _ _ (by omega)] at n2
        exact n2
