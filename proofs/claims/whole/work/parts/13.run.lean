/-! the search's run -/
theorem s_sadd {ur : Ob} {F : Nat → Ent} {n : Nat} {sp : Bool} (hs : sR ur F n sp) (hn : n < 80) (e : Ent) (he : eK (va_up F n e) n) (hr : (e.2.2.2.1 = -2 ∧ e.2.2.2.2 = 0) ∨ ∃ k, k < n ∧ e.2.2.2.1 = nI k ∧ e.2.2.2.2 = (F k).2.2.2.2 + 1) {post : Ob → Prop} (h : ∀ v, sR v (va_up F n e) (n + 1) sp → post v) : wp_X2_add ur (nI e.1) (nI (enc (e.2.1 0))) (nI (enc (e.2.1 1))) e.2.2.1 e.2.2.2.1 post := by
  unfold wp_X2_add
  have e0 : ur.1 0 = nI n := hs.1
  have cn : (nI n).toNatClampNeg = n := nI_clamp (by omega)
  have i0 : vp_in (nI n) 80 := vp_in_nI hn (by omega)
  rw [e0, cn]
  refine ⟨i0, fun u2 h2 => ?_⟩
  have f2 : u2.1 0 = nI n := by rw [h2]; exact e0
  rw [f2, cn]
  refine ⟨i0, fun u4 h4 => ?_⟩
  have f4 : u4.1 0 = nI n := by rw [h4]; exact f2
  rw [f4, cn]
  refine ⟨i0, fun u6 h6 => ?_⟩
  have f6 : u6.1 0 = nI n := by rw [h6]; exact f4
  rw [f6, cn]
  refine ⟨i0, fun u8 h8 => ?_⟩
  have f8 : u8.1 0 = nI n := by rw [h8]; exact f6
  rw [f8, cn]
  refine ⟨i0, fun u10 h10 => ?_⟩
  have f10 : u10.1 0 = nI n := by rw [h10]; exact f8
  rw [f10, cn]
  simp only [jn]
  have fin : ∀ w : Int32, w = nI e.2.2.2.2 → vp_in (nI n) 80 ∧ ∀ u14 : Ob, u14 = fs_a u10 2 (upd (u10.2.1 2) n w) → ∀ u15 : Ob, u15 = fs_i u14 0 ((u14.1 0) + 1) → post u15 := by
    intro w hw
    refine ⟨i0, fun u14 h14 u15 h15 => h u15 ?_⟩
    have f14 : u14.1 0 = nI n := by rw [h14]; exact f10
    have f1 : u15.1 1 = ur.1 1 := by rw [h15, ob_io _ _ (by decide), h14, h10, h8, h6, h4, h2]; rfl
    have a2 : u15.2.1 2 = upd (ur.2.1 2) n w := by
      rw [h15]
      show u14.2.1 2 = _
      rw [h14, ob_as, h10, ob_ao _ _ (by decide), h8, ob_ao _ _ (by decide), h6, ob_ao _ _ (by decide), h4, ob_ao _ _ (by decide), h2, ob_ao _ _ (by decide)]
    have a3 : u15.2.1 3 = upd (ur.2.1 3) n (nI e.1) := by
      rw [h15]
      show u14.2.1 3 = _
      rw [h14, ob_ao _ _ (by decide), h10, ob_ao _ _ (by decide), h8, ob_ao _ _ (by decide), h6, ob_ao _ _ (by decide), h4, ob_ao _ _ (by decide), h2, ob_as]
    have a4 : u15.2.1 4 = upd (ur.2.1 4) n (nI (enc (e.2.1 0))) := by
      rw [h15]
      show u14.2.1 4 = _
      rw [h14, ob_ao _ _ (by decide), h10, ob_ao _ _ (by decide), h8, ob_ao _ _ (by decide), h6, ob_ao _ _ (by decide), h4, ob_as, h2, ob_ao _ _ (by decide)]
    have a5 : u15.2.1 5 = upd (ur.2.1 5) n (nI (enc (e.2.1 1))) := by
      rw [h15]
      show u14.2.1 5 = _
      rw [h14, ob_ao _ _ (by decide), h10, ob_ao _ _ (by decide), h8, ob_ao _ _ (by decide), h6, ob_as, h4, ob_ao _ _ (by decide), h2, ob_ao _ _ (by decide)]
    have a6 : u15.2.1 6 = upd (ur.2.1 6) n e.2.2.1 := by
      rw [h15]
      show u14.2.1 6 = _
      rw [h14, ob_ao _ _ (by decide), h10, ob_ao _ _ (by decide), h8, ob_as, h6, ob_ao _ _ (by decide), h4, ob_ao _ _ (by decide), h2, ob_ao _ _ (by decide)]
    have a7 : u15.2.1 7 = upd (ur.2.1 7) n e.2.2.2.1 := by
      rw [h15]
      show u14.2.1 7 = _
      rw [h14, ob_ao _ _ (by decide), h10, ob_as, h8, ob_ao _ _ (by decide), h6, ob_ao _ _ (by decide), h4, ob_ao _ _ (by decide), h2, ob_ao _ _ (by decide)]
    refine ⟨?_, by rw [f1]; exact hs.2.1, by omega, fun k hk => ?_⟩
    · rw [h15, ob_is, f14]
      exact nI_1 n
    · by_cases q : k = n
      · subst q
        refine ⟨?_, he⟩
        unfold eR
        rw [a2, a3, a4, a5, a6, a7, up_s, up_s, up_s, up_s, up_s, up_s, va_up_self]
        exact ⟨rfl, rfl, rfl, rfl, rfl, hw⟩
      · obtain ⟨g1, g2⟩ := hs.2.2.2 k (by omega)
        refine ⟨?_, ?_⟩
        · unfold eR
          rw [a2, a3, a4, a5, a6, a7, up_o _ _ q, up_o _ _ q, up_o _ _ q, up_o _ _ q, up_o _ _ q, up_o _ _ q, va_up_ne _ _ q]
          exact g1
        · unfold eK at g2 ⊢
          rw [va_up_ne _ _ q]
          refine ⟨g2.1, g2.2.1, g2.2.2.1, g2.2.2.2.1, fun z => ?_⟩
          obtain ⟨j, hj, z2, z3⟩ := g2.2.2.2.2 z
          refine ⟨j, hj, z2, ?_⟩
          rw [va_up_ne _ _ (show j ≠ n by omega)]
          exact z3
  rcases hr with ⟨r1, r2⟩ | ⟨k, hk, r1, r2⟩
  · rw [r1]
    refine ⟨fun z => absurd z (by decide), fun _ => ?_⟩
    exact fin 0 (by rw [r2]; rfl)
  · rw [r1]
    refine ⟨fun _ => ⟨vp_in_nI (by omega) (by omega), ?_⟩, fun z => absurd (nI_pos' (by omega)) z⟩
    refine fin _ ?_
    have b2 : u10.2.1 2 k = ur.2.1 2 k := by
      rw [h10, ob_ao _ _ (by decide), h8, ob_ao _ _ (by decide), h6, ob_ao _ _ (by decide), h4, ob_ao _ _ (by decide), h2, ob_ao _ _ (by decide)]
    rw [nI_clamp (by omega), b2, (hs.2.2.2 k hk).1.2.2.2.2.2, r2]
    exact nI_1 _
/-- the words of the place ahead of the k-th found by arc a -/
def lkW (bg : Nat → Bool) (ar : Nat → Nat → Nat) (k a : Nat) (F : Nat → Ent) : Nat → List Nat := fun l => if ar a 2 = l then ahead (bg l) (ar a 1) (ar a 3) ((F k).2.1 l) else (F k).2.1 l
/-- the place ahead is looked at -/
def look (bg : Nat → Bool) (ar : Nat → Nat → Nat) (k a : Nat) (F : Nat → Ent) (n : Nat) : (Nat → Ent) × Nat × Bool :=
  if fbl (bel F (ar a 0) (lkW bg ar k a F)) n < n then (F, n, false)
  else if 80 ≤ n ∨ 10 < (lkW bg ar k a F 0).length ∨ 10 < (lkW bg ar k a F 1).length then (F, n, true)
  else (va_up F n (ar a 0, lkW bg ar k a F, nI a, nI k, (F k).2.2.2.2 + 1), n + 1, false)
theorem lkW_ok {bg : Nat → Bool} {ar : Nat → Nat → Nat} {N c : Nat} (hk : mK N c ar) {k a : Nat} {F : Nat → Ent} (ha : a < c) (hF : eK F k) : ∀ l, l < 2 → lok (lkW bg ar k a F l) ∧ (lkW bg ar k a F l).length ≤ 11 := by
  intro l hl
  obtain ⟨h0, h1, h2, h3, h4⟩ := hk.2.2.2 a ha
  have g := hF.2.1 l hl
  unfold lkW
  split
  · refine ⟨ahead_lok g.1 h3, ?_⟩
    have := ahead_len (bg l) (ar a 1) (ar a 3) ((F k).2.1 l)
    omega
  · exact ⟨g.1, by omega⟩
theorem eK_new {bg : Nat → Bool} {ar : Nat → Nat → Nat} {N c : Nat} (hk : mK N c ar) {k a n : Nat} {F : Nat → Ent} (ha : a < c) (hF : eK F k) (hkn : k < n) (hl : ∀ l, l < 2 → (lkW bg ar k a F l).length ≤ 10) : eK (va_up F n (ar a 0, lkW bg ar k a F, nI a, nI k, (F k).2.2.2.2 + 1)) n := by
  obtain ⟨h0, h1, h2, h3, h4⟩ := hk.2.2.2 a ha
  have hN := hk.2.1
  have hr := hF.2.2.1
  unfold eK
  rw [va_up_self]
  refine ⟨by show ar a 0 < 8; omega, fun l hl2 => ⟨(lkW_ok hk ha hF l hl2).1, hl l hl2⟩, by show (F k).2.2.2.2 + 1 ≤ n; omega, fun z => absurd z (Nat.succ_ne_zero _), fun _ => ⟨k, hkn, rfl, ?_⟩⟩
  rw [va_up_ne _ _ (show k ≠ n by omega)]
theorem s_lookAhead {ur um : Ob} {F : Nat → Ent} {n N c : Nat} {bg : Nat → Bool} {ar : Nat → Nat → Nat} (hs : sR ur F n false) (hm : mR um N c bg ar) (hk : mK N c ar) {a k : Nat} (ha : a < c) (hkn : k < n) {post : Ob → Prop} (h : ∀ v, sR v (look bg ar k a F n).1 (look bg ar k a F n).2.1 (look bg ar k a F n).2.2 → post v) : wp_X2_lookAhead ur um (nI a) (nI k) post := by
  have hn := hs.2.2.1
  obtain ⟨⟨e1, e2, e3, e4, e5, e6⟩, hF⟩ := hs.2.2.2 k hkn
  obtain ⟨h0, h1, h2, h3, h4⟩ := hk.2.2.2 a ha
  have hN := hk.2.1
  have okw := lkW_ok (bg := bg) hk ha hF
  have w0 := hF.2.1 0 (by omega)
  have w1 := hF.2.1 1 (by omega)
  have i1 : vp_in (nI k) 80 := vp_in_nI (by omega) (by omega)
  unfold wp_X2_lookAhead
  refine s_part hm hk 0 ha (by omega) ?_
  refine s_part hm hk 2 ha (by omega) ?_
  simp only [jn]
  rw [nI_clamp (by omega), e2, e3]
  have rest : wp_X2_firstBelow ur (nI (ar a 0)) (nI (enc (lkW bg ar k a F 0))) (nI (enc (lkW bg ar k a F 1))) (fun (r_7 : Int32) =>
      ((r_7 < 0) →
          (((80 : Int32) ≤ (ur.1 0)) →
            ∀ u_10 : Ob, u_10 = fs_i ur 1 1 → post u_10) ∧ ((¬ (80 : Int32) ≤ (ur.1 0)) →
            wp_X6_isLonger (nI (enc (lkW bg ar k a F 0))) 10 (fun (r_12 : Int32) =>
            ((¬ r_12 = 0) →
              ∀ u_10 : Ob, u_10 = fs_i ur 1 1 → post u_10) ∧ ((r_12 = 0) →
              wp_X6_isLonger (nI (enc (lkW bg ar k a F 1))) 10 (fun (r_14 : Int32) =>
              ((r_14 = 0) →
                wp_X2_add ur (nI (ar a 0)) (nI (enc (lkW bg ar k a F 0))) (nI (enc (lkW bg ar k a F 1))) (nI a) (nI k) (fun (u_16 : Ob) =>
                post u_16)) ∧ ((¬ r_14 = 0) →
                ∀ u_10 : Ob, u_10 = fs_i ur 1 1 → post u_10)))))) ∧ ((¬ r_7 < 0) →
        post ur)) := by
    refine s_firstBelow hs (by omega) (fun l hl => ⟨(okw l hl).1, by have := (okw l hl).2; omega⟩) (fun hf => ?_) (fun hf => ?_)
    · refine ⟨fun z => absurd z (nI_pos (by omega)), fun _ => h ur ?_⟩
      rw [look, if_pos hf]
      exact hs
    · have spent : (80 ≤ n ∨ 10 < (lkW bg ar k a F 0).length ∨ 10 < (lkW bg ar k a F 1).length) → ∀ u_10 : Ob, u_10 = fs_i ur 1 1 → post u_10 := by
        intro hc u10 h10
        refine h u10 ?_
        rw [look, if_neg (by omega), if_pos hc]
        refine ⟨?_, ?_, hn, fun j hj => ?_⟩
        · rw [h10, ob_io _ _ (by decide)]
          exact hs.1
        · rw [h10, ob_is]
          rfl
        · have g := hs.2.2.2 j hj
          refine ⟨?_, g.2⟩
          rw [h10]
          exact g.1
      refine ⟨fun _ => ?_, fun z => absurd (show (-1 : Int32) < 0 by decide) z⟩
      rw [hs.1]
      refine pk_le 80 n (fun hc => spent (Or.inl hc)) (fun hc => ?_)
      refine s_isLonger (k := 10) (okw 0 (by omega)).1 (by have := (okw 0 (by omega)).2; omega) (by omega) (fun l0 => ?_) (fun l0 => ?_)
      · refine ⟨fun z => absurd (by trivial) z, fun _ => ?_⟩
        refine s_isLonger (k := 10) (okw 1 (by omega)).1 (by have := (okw 1 (by omega)).2; omega) (by omega) (fun l1 => ?_) (fun l1 => ?_)
        · refine ⟨fun _ => ?_, fun z => absurd (by trivial) z⟩
          refine s_sadd hs (by omega) (ar a 0, lkW bg ar k a F, nI a, nI k, (F k).2.2.2.2 + 1) (eK_new hk ha hF hkn (fun l hl => ?_)) (Or.inr ⟨k, hkn, rfl, rfl⟩) (fun v hv => h v ?_)
          · rcases (show l = 0 ∨ l = 1 by omega) with rfl | rfl
            · exact l0
            · exact l1
          · rw [look, if_neg (by omega), if_neg (by omega)]
            exact hv
        · exact ⟨fun z => absurd z (by decide), fun _ => spent (Or.inr (Or.inr l1))⟩
      · exact ⟨fun _ => spent (Or.inr (Or.inl l0)), fun z => absurd z (by decide)⟩
  have c0 : ar a 2 = 0 → lkW bg ar k a F 0 = ahead (bg (ar a 2)) (ar a 1) (ar a 3) ((F k).2.1 0) := fun z => by simp [lkW, z]
  have c0' : ar a 2 ≠ 0 → lkW bg ar k a F 0 = (F k).2.1 0 := fun z => by simp [lkW, z]
  have c1 : ar a 2 = 1 → lkW bg ar k a F 1 = ahead (bg (ar a 2)) (ar a 1) (ar a 3) ((F k).2.1 1) := fun z => by simp [lkW, z]
  have c1' : ar a 2 ≠ 1 → lkW bg ar k a F 1 = (F k).2.1 1 := fun z => by simp [lkW, z]
  refine pk_ne (ar a 2) 0 (fun z => ?_) (fun z => ?_)
  · refine ⟨i1, ?_⟩
    rw [c0' z] at rest
    refine pk_ne (ar a 2) 1 (fun y => ⟨i1, ?_⟩) (fun y => ⟨i1, ?_⟩)
    · rw [c1' y] at rest
      exact rest
    · refine s_wordAhead hm hk ha w1.1 (by omega) ?_
      rw [← c1 y]
      exact rest
  · refine ⟨i1, ?_⟩
    refine s_wordAhead hm hk ha w0.1 (by omega) ?_
    rw [← c0 z]
    refine pk_ne (ar a 2) 1 (fun y => ⟨i1, ?_⟩) (fun y => by omega)
    rw [c1' y] at rest
    exact rest
/-- the arcs from c - r on, for the k-th found -/
def srIn (bg : Nat → Bool) (ar : Nat → Nat → Nat) (c k : Nat) : Nat → (Nat → Ent) → Nat → (Nat → Ent) × Nat × Bool
  | 0, F, n => (F, n, false)
  | r + 1, F, n => if ar (c - (r + 1)) 4 = (F k).1 then (if (look bg ar k (c - (r + 1)) F n).2.2 then look bg ar k (c - (r + 1)) F n else srIn bg ar c k r (look bg ar k (c - (r + 1)) F n).1 (look bg ar k (c - (r + 1)) F n).2.1) else srIn bg ar c k r F n
/-- those found from 80 - r on -/
def srOut (bg : Nat → Bool) (ar : Nat → Nat → Nat) (c : Nat) : Nat → (Nat → Ent) → Nat → (Nat → Ent) × Nat × Bool
  | 0, F, n => (F, n, false)
  | r + 1, F, n => if 80 - (r + 1) < n then (if (srIn bg ar c (80 - (r + 1)) c F n).2.2 then srIn bg ar c (80 - (r + 1)) c F n else srOut bg ar c r (srIn bg ar c (80 - (r + 1)) c F n).1 (srIn bg ar c (80 - (r + 1)) c F n).2.1) else (F, n, false)
def srch (bg : Nat → Bool) (ar : Nat → Nat → Nat) (c sA : Nat) (wA : Nat → List Nat) : (Nat → Ent) × Nat × Bool := srOut bg ar c 80 (va_up (fun _ => (0, nilW0, 0, 0, 0)) 0 (sA, wA, -2, -2, 0)) 1
/-- the search's outcome as the class holds it -/
def sOut (ur : Ob) (z : (Nat → Ent) × Nat × Bool) : Prop := sR ur z.1 z.2.1 z.2.2
theorem look_n (bg : Nat → Bool) (ar : Nat → Nat → Nat) (k a : Nat) (F : Nat → Ent) (n : Nat) : n ≤ (look bg ar k a F n).2.1 := by
  unfold look
  split
  · exact Nat.le_refl _
  · split
    · exact Nat.le_refl _
    · exact Nat.le_succ _
theorem look_k (bg : Nat → Bool) (ar : Nat → Nat → Nat) (k a : Nat) (F : Nat → Ent) {n j : Nat} (hj : j < n) : (look bg ar k a F n).1 j = F j := by
  unfold look
  split
  · rfl
  · split
    · rfl
    · exact va_up_ne _ _ (show j ≠ n by omega)
theorem s_run {ur um ug : Ob} {N c sA : Nat} {bg : Nat → Bool} {ar : Nat → Nat → Nat} {wA : Nat → List Nat} (hm : mR um N c bg ar) (hk : mK N c ar) (hg : ug.1 0 = nI sA) (hgw : ∀ l, l < 2 → ug.2.1 1 l = nI (enc (wA l))) (hsA : sA < 8) (hwA : ∀ l, l < 2 → lok (wA l) ∧ (wA l).length ≤ 10) {post : Ob → Prop} (h : ∀ v, sOut v (srch bg ar c sA wA) → post v) : wp_X2_run ur um ug post := by
  have hc := hk.2.2.1
  unfold wp_X2_run
  intro u1 h1 u2 h2
  have z0 : ug.2.1 1 (0 : Int32).toNatClampNeg = nI (enc (wA 0)) := hgw 0 (by omega)
  have z1 : ug.2.1 1 (1 : Int32).toNatClampNeg = nI (enc (wA 1)) := hgw 1 (by omega)
  rw [z0, z1, hg, hm.2.1]
  refine ⟨in0_2, in1_2, ?_⟩
  have s0 : sR u2 (fun _ => (0, nilW0, 0, 0, 0)) 0 false := by
    refine ⟨?_, ?_, by omega, fun k hk => absurd hk (Nat.not_lt_zero k)⟩
    · rw [h2, ob_io _ _ (by decide), h1, ob_is]
      rfl
    · rw [h2, ob_is]
      rfl
  have k0 : eK (va_up (fun _ => ((0, nilW0, 0, 0, 0) : Ent)) 0 (sA, wA, -2, -2, 0)) 0 := by
    unfold eK
    rw [va_up_self]
    exact ⟨hsA, hwA, Nat.le_refl _, fun _ => rfl, fun z => absurd z (Nat.lt_irrefl 0)⟩
  refine s_sadd s0 (by omega) (sA, wA, -2, -2, 0) k0 (Or.inl ⟨rfl, rfl⟩) (fun u5 s5 => ?_)
  refine lq2_m (fun m x v => ∃ (k : Nat) (F : Nat → Ent) (n : Nat) (sp : Bool), k + m = 80 ∧ x = nI k ∧ sR v F n sp ∧ srch bg ar c sA wA = (if sp then (F, n, true) else srOut bg ar c m F n)) ?_ 80 0 u5 ⟨0, _, 1, false, rfl, rfl, s5, rfl⟩
  rintro LL m x v ⟨k, F, n, sp, hkm, rfl, hs, he⟩ ih
  have hn := hs.2.2.1
  rw [hs.1, hs.2.1]
  have done : srch bg ar c sA wA = (F, n, sp) → post v := fun q => h v (by rw [q]; exact hs)
  refine pk_le 80 k (fun hc1 => ?_) (fun hc1 => ?_)
  · refine done ?_
    cases sp
    · have e : m = 0 := by omega
      rw [he, e]
      rfl
    · exact he
  refine pk_le n k (fun hc2 => ?_) (fun hc2 => ?_)
  · refine done ?_
    cases sp
    · have e : m = (m - 1) + 1 := by omega
      rw [he, e, if_neg (by decide), srOut, if_neg (by omega)]
    · exact he
  cases sp with
  | true => exact ⟨fun _ => done he, fun z => absurd z (by decide)⟩
  | false =>
    refine ⟨fun z => absurd (by trivial) z, fun _ => ?_⟩
    have em : m = (m - 1) + 1 := by omega
    have ek : 80 - ((m - 1) + 1) = k := by omega
    rw [if_neg (by decide), em, srOut, ek, if_pos hc2] at he
    refine lq2_m (fun m2 x2 v2 => ∃ (a : Nat) (F2 : Nat → Ent) (n2 : Nat) (sp2 : Bool), a + m2 = c ∧ x2 = nI a ∧ sR v2 F2 n2 sp2 ∧ k < n2 ∧ srIn bg ar c k c F n = (if sp2 then (F2, n2, true) else srIn bg ar c k m2 F2 n2)) ?_ c 0 v ⟨0, F, n, false, by omega, rfl, hs, hc2, rfl⟩
    rintro LL2 m2 x2 v2 ⟨a, F2, n2, sp2, ham, rfl, hs2, hk2, he2⟩ ih2
    have hn2 := hs2.2.2.1
    rw [hs2.2.1]
    have out : srIn bg ar c k c F n = (F2, n2, sp2) → LL (nI k + 1) v2 := by
      intro q
      refine ih (m - 1) _ _ (by omega) ⟨k + 1, F2, n2, sp2, by omega, nI_1 k, hs2, ?_⟩
      rw [he, q]
      cases sp2 <;> rfl
    refine pk_le c a (fun hd => ?_) (fun hd => ?_)
    · refine out ?_
      cases sp2
      · have e : m2 = 0 := by omega
        rw [he2, e]
        rfl
      · exact he2
    cases sp2 with
    | true => exact ⟨fun _ => out he2, fun z => absurd z (by decide)⟩
    | false =>
      refine ⟨fun z => absurd (by trivial) z, fun _ => ?_⟩
      have em2 : m2 = (m2 - 1) + 1 := by omega
      have ea : c - ((m2 - 1) + 1) = a := by omega
      rw [if_neg (by decide), em2, srIn, ea] at he2
      obtain ⟨g0, g1, g2, g3, g4⟩ := hk.2.2.2 a hd
      obtain ⟨⟨e1, -⟩, hF2⟩ := hs2.2.2.2 k hk2
      have hN := hk.2.1
      have hb := hF2.1
      refine s_part hm hk 4 hd (by omega) ?_
      rw [nI_clamp (by omega), e1]
      refine ⟨vp_in_nI (by omega) (by omega), ?_⟩
      refine pk_ne (ar a 4) (F2 k).1 (fun q => ?_) (fun q => ?_)
      · rw [if_neg q] at he2
        exact ih2 (m2 - 1) _ _ (by omega) ⟨a + 1, F2, n2, false, by omega, nI_1 a, hs2, hk2, he2⟩
      · rw [if_pos q] at he2
        refine s_lookAhead hs2 hm hk hd hk2 (fun v3 hs3 => ?_)
        have hn3 := look_n bg ar k a F2 n2
        refine ih2 (m2 - 1) _ _ (by omega) ⟨a + 1, _, _, _, by omega, nI_1 a, hs3, by omega, ?_⟩
        rw [he2]
        by_cases y : (look bg ar k a F2 n2).2.2 = true
        · rw [if_pos y, if_pos y]
          rw [show look bg ar k a F2 n2 = ((look bg ar k a F2 n2).1, (look bg ar k a F2 n2).2.1, (look bg ar k a F2 n2).2.2) from rfl, y]
        · rw [if_neg y, if_neg y]
