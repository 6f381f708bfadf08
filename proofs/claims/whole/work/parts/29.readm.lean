/-! read: the model -/
theorem getD_end {tp : List Nat} {a : Nat} (h : tp.length ≤ a) : tp.getD a 0 = 0 := by
  simp [List.getD_eq_getElem?_getD, List.getElem?_eq_none h]
theorem m_next {u : Ob} {tp : List Nat} (ht : dtR u tp) (hk : tpK tp) {a : Nat} (ha : u.1 10 = nI a) (hl : a ≤ tp.length) {post : Int32 → Ob → Prop} (h : ∀ v : Ob, v.2 = u.2 → (∀ j, j ≠ 10 → v.1 j = u.1 j) → v.1 10 = nI (skp tp a) → post (nI (tp.getD (skp tp a) 0)) v) : wp_X8_next u post := by
  have hL := hk.1
  unfold wp_X8_next
  refine lq1_m (fun m v => ∃ b, b + m = tp.length ∧ v.2 = u.2 ∧ (∀ j, j ≠ 10 → v.1 j = u.1 j) ∧ v.1 10 = nI b ∧ skp tp b = skp tp a) ?_ (tp.length - a) u ⟨a, by omega, rfl, fun _ _ => rfl, ha, rfl⟩
  rintro LL m v ⟨b, hb, v2, v1, v10, he⟩ ih
  simp only [jn]
  rw [v1 9 (by decide), v10, ht.1]
  rw [← he] at h
  refine pk_le tp.length b (fun hc => ?_) (fun hc => ?_)
  · rw [skp_end hc] at h
    refine ⟨fun _ => ?_, fun z => absurd (nI_le hc (by omega)) z⟩
    rw [getD_end hc] at h
    exact h v v2 v1 v10
  · rw [nI_clamp (by omega), v2, ht.2 b hc]
    have hb2 := hk.2 b hc
    have i1 : vp_in (nI b) 130 := vp_in_nI (by omega) (by omega)
    refine ⟨i1, ?_⟩
    refine pk_ne (tp.getD b 0) 32 (fun z => ?_) (fun z => ?_)
    · rw [skp_no hc z] at h
      exact ⟨fun y => absurd y (nI_ge hc (by omega)), fun _ => ⟨i1, h v v2 v1 v10⟩⟩
    · intro u9 e9
      refine ih (m - 1) _ (by omega) ⟨b + 1, by omega, ?_, fun j hj => ?_, ?_, ?_⟩
      · rw [e9]
        exact v2
      · rw [e9, ob_io _ _ hj]
        exact v1 j hj
      · rw [e9, ob_is]
        exact nI_1 b
      · rw [← skp_yes hc z]
        exact he
/-- one sign, where nothing was wrong so far -/
def psd (tp : List Nat) (s : Bool × Nat) (f m : Nat) : Nat × Bool × Nat :=
  if s.1 then (0, true, skp tp s.2) else
  match one tp s.2 f m with
  | none => (0, true, skp tp s.2)
  | some (k, p) => (k, false, p)
def acm (tp : List Nat) (s : Bool × Nat) : Nat × Bool × Nat :=
  if s.1 then (0, true, skp tp s.2) else
  match actO tp s.2 with
  | none => (0, true, skp tp s.2)
  | some (k, p) => (k, false, p)
theorem psd_w (tp : List Nat) (a f m : Nat) : psd tp (true, a) f m = (0, true, skp tp a) := rfl
theorem psd_n {tp : List Nat} {a f m : Nat} (h : one tp a f m = none) : psd tp (false, a) f m = (0, true, skp tp a) := by
  simp [psd, h]
theorem psd_s {tp : List Nat} {a f m k p : Nat} (h : one tp a f m = some (k, p)) : psd tp (false, a) f m = (k, false, p) := by
  simp [psd, h]
theorem acm_w (tp : List Nat) (a : Nat) : acm tp (true, a) = (0, true, skp tp a) := rfl
theorem acm_n {tp : List Nat} {a : Nat} (h : actO tp a = none) : acm tp (false, a) = (0, true, skp tp a) := by
  simp [acm, h]
theorem acm_s {tp : List Nat} {a k p : Nat} (h : actO tp a = some (k, p)) : acm tp (false, a) = (k, false, p) := by
  simp [acm, h]
theorem psd_b (tp : List Nat) (s : Bool × Nat) (hs : s.2 ≤ tp.length) (f m : Nat) (hm : 1 ≤ m) : (psd tp s f m).1 < m ∧ (psd tp s f m).2.2 ≤ tp.length := by
  obtain ⟨b, a⟩ := s
  have hle := skp_le (tp := tp) (a := a) hs
  cases b
  · cases e : one tp a f m with
    | none =>
      rw [psd_n e]
      exact ⟨hm, hle⟩
    | some kp =>
      obtain ⟨k, p⟩ := kp
      obtain ⟨c1, c2, c3, c4⟩ := one_some e
      rw [psd_s e]
      exact ⟨c3, by show p ≤ _; omega⟩
  · exact ⟨hm, hle⟩
theorem acm_b (tp : List Nat) (s : Bool × Nat) (hs : s.2 ≤ tp.length) : (acm tp s).1 < 3 ∧ (acm tp s).2.2 ≤ tp.length := by
  obtain ⟨b, a⟩ := s
  have hle := skp_le (tp := tp) (a := a) hs
  cases b
  · cases e : actO tp a with
    | none =>
      rw [acm_n e]
      exact ⟨by show 0 < 3; omega, hle⟩
    | some kp =>
      obtain ⟨k, p⟩ := kp
      obtain ⟨c1, c2, c3⟩ := actO_lt e
      rw [acm_s e]
      exact ⟨c1, by show p ≤ _; omega⟩
  · exact ⟨by show 0 < 3; omega, hle⟩
/-- an arc, as the model reads it -/
def mA (tp : List Nat) (N : Nat) (s1 s2 s3 s4 s5 : Nat × Bool × Nat) (a : Nat) : Prop :=
  s1 = psd tp (false, a) 48 N ∧ s2 = acm tp s1.2 ∧ s3 = (if s2.1 = 0 then (0, s2.2) else psd tp s2.2 97 3) ∧ s4 = (if s2.1 = 0 then (0, s3.2) else psd tp s3.2 48 2) ∧ s5 = psd tp s4.2 48 N
theorem wr3 {tp : List Nat} {N p : Nat} {s2 s3 s4 s5 : Nat × Bool × Nat} (hp : skp tp p = p) (h2 : s2.2 = (true, p)) (h3 : s3 = (if s2.1 = 0 then (0, s2.2) else psd tp s2.2 97 3)) (h4 : s4 = (if s2.1 = 0 then (0, s3.2) else psd tp s3.2 48 2)) (h5 : s5 = psd tp s4.2 48 N) : s5.2 = (true, p) := by
  have w : ∀ f m, psd tp (true, p) f m = (0, true, p) := fun f m => by rw [psd_w, hp]
  have e3 : s3.2 = (true, p) := by
    rw [h3, h2]
    split
    · rfl
    · rw [w]
  have e4 : s4.2 = (true, p) := by
    rw [h4, e3]
    split
    · rfl
    · rw [w]
  rw [h5, e4, w]
theorem mA_prA {tp : List Nat} {N a : Nat} {s1 s2 s3 s4 s5 : Nat × Bool × Nat} (h : mA tp N s1 s2 s3 s4 s5 a) : prA tp N a = if s5.2.1 then .inl s5.2.2 else .inr (ar5 s1.1 s2.1 s4.1 s3.1 s5.1, s5.2.2) := by
  obtain ⟨h1, h2, h3, h4, h5⟩ := h
  cases e1 : one tp a 48 N with
  | none =>
    rw [psd_n e1] at h1
    rw [h1] at h2
    have i := skp_idem tp a
    have h2 : s2 = (0, true, skp tp a) := by rw [h2, acm_w, i]
    have e5 := wr3 i (by rw [h2]) h3 h4 h5
    rw [prA_n e1, e5]
    rfl
  | some kp =>
    obtain ⟨f, p⟩ := kp
    rw [psd_s e1] at h1
    rw [h1] at h2
    rw [prA_s e1]
    cases e2 : actO tp p with
    | none =>
      rw [acm_n e2] at h2
      have e5 := wr3 (skp_idem tp p) (by rw [h2]) h3 h4 h5
      rw [prC_n e2, e5]
      rfl
    | some kp =>
      obtain ⟨act, p2⟩ := kp
      rw [acm_s e2] at h2
      rw [prC_s e2]
      have b2 : s2.1 = act := by rw [h2]
      have q2 : s2.2 = (false, p2) := by rw [h2]
      rw [b2, q2] at h3
      rw [b2] at h4
      by_cases z : act = 0
      · rw [if_pos z] at h3 h4 ⊢
        rw [h3] at h4
        have b3 : s3.1 = 0 := by rw [h3]
        have b4 : s4.1 = 0 := by rw [h4]
        have q4 : s4.2 = (false, p2) := by rw [h4]
        rw [q4] at h5
        have b1 : s1.1 = f := by rw [h1]
        rw [b1, b2, b3, b4, z]
        cases e5 : one tp p2 48 N with
        | none =>
          rw [psd_n e5] at h5
          rw [prT_n e5, h5]
          rfl
        | some kp =>
          obtain ⟨t, q⟩ := kp
          rw [psd_s e5] at h5
          rw [prT_s e5, h5]
          rfl
      · rw [if_neg z] at h3 h4 ⊢
        cases e3 : one tp p2 97 3 with
        | none =>
          rw [psd_n e3] at h3
          have i := skp_idem tp p2
          have q3 : s3.2 = (true, skp tp p2) := by rw [h3]
          rw [q3, psd_w, i] at h4
          have q4 : s4.2 = (true, skp tp p2) := by rw [h4]
          rw [q4, psd_w, i] at h5
          rw [prL_n e3, h5]
          rfl
        | some kp =>
          obtain ⟨x, p3⟩ := kp
          rw [psd_s e3] at h3
          have q3 : s3.2 = (false, p3) := by rw [h3]
          have b3 : s3.1 = x := by rw [h3]
          rw [q3] at h4
          cases e4 : one tp p3 48 2 with
          | none =>
            rw [psd_n e4] at h4
            have q4 : s4.2 = (true, skp tp p3) := by rw [h4]
            rw [q4, psd_w, skp_idem] at h5
            rw [prL_m e3 e4, h5]
            rfl
          | some kp =>
            obtain ⟨l, p4⟩ := kp
            rw [psd_s e4] at h4
            have q4 : s4.2 = (false, p4) := by rw [h4]
            have b4 : s4.1 = l := by rw [h4]
            rw [q4] at h5
            have b1 : s1.1 = f := by rw [h1]
            rw [prL_s e3 e4, b1, b2, b3, b4]
            cases e5 : one tp p4 48 N with
            | none =>
              rw [psd_n e5] at h5
              rw [prT_n e5, h5]
              rfl
            | some kp =>
              obtain ⟨t, q⟩ := kp
              rw [psd_s e5] at h5
              rw [prT_s e5, h5]
              rfl
theorem bI_10 {b : Bool} {A B : Prop} (f : b = true → A) (g : b = false → B) : (¬ bI b = 0 → A) ∧ (bI b = 0 → B) := bI_if2 f g
theorem tp_lt {tp : List Nat} (hk : tpK tp) (a : Nat) : tp.getD a 0 < 200 := by
  by_cases h : a < tp.length
  · have := hk.2 a h
    omega
  · rw [getD_end (by omega)]
    omega
/-- what 'passed' and 'act' keep -/
def kpM (u v : Ob) (s : Bool × Nat) : Prop := v.2 = u.2 ∧ (∀ j, j ≠ 10 → j ≠ 11 → v.1 j = u.1 j) ∧ v.1 10 = nI s.2 ∧ v.1 11 = bI s.1
theorem m_passed {u : Ob} {tp : List Nat} (ht : dtR u tp) (hk : tpK tp) {s : Bool × Nat} (ha : u.1 10 = nI s.2) (hb : u.1 11 = bI s.1) (hl : s.2 ≤ tp.length) {f m : Nat} (hf : 1 ≤ f) (hf2 : f < 200) (hm : m < 200) {post : Int32 → Ob → Prop} (h : ∀ v, kpM u v (psd tp s f m).2 → post (nI (psd tp s f m).1) v) : wp_X8_passed u (nI f) (nI m) post := by
  obtain ⟨b, a⟩ := s
  have ha : u.1 10 = nI a := ha
  have hb : u.1 11 = bI b := hb
  have hl : a ≤ tp.length := hl
  have hlt := tp_lt hk (skp tp a)
  unfold wp_X8_passed
  refine m_next ht hk ha hl (fun v v2 v1 v10 => ?_)
  simp only [jn]
  have wrong : psd tp (b, a) f m = (0, true, skp tp a) → ∀ u4 : Ob, u4 = fs_i v 11 1 → post 0 u4 := by
    intro e u4 e4
    rw [e] at h
    refine h u4 ⟨?_, fun j j1 j2 => ?_, ?_, ?_⟩
    · rw [e4]
      exact v2
    · rw [e4, ob_io _ _ j2]
      exact v1 j j1
    · rw [e4, ob_io _ _ (by decide)]
      exact v10
    · rw [e4, ob_is]
      rfl
  rw [v1 11 (by decide), hb]
  refine bI_if2 (fun z => ?_) (fun z => ?_)
  · exact wrong (by rw [z]; rfl)
  · refine m_in0 (by omega) ?_
    rw [ix_sub hlt hf2]
    refine bI_if2 (fun g => ?_) (fun g => ?_)
    · have g := of_decide_eq_true g
      have hc : skp tp a < tp.length := by
        rcases Nat.lt_or_ge (skp tp a) tp.length with q | q
        · exact q
        · have := getD_end q
          omega
      have e : one tp a f m = some (tp.getD (skp tp a) 0 - f, skp tp a + 1) := by rw [one, if_pos ⟨hc, g⟩]
      rw [z, psd_s e] at h
      intro u8 e8
      have e9 : nI (tp.getD (skp tp a) 0) - nI f = nI (tp.getD (skp tp a) 0 - f) := pk_sub (by omega)
      rw [e9]
      refine h u8 ⟨?_, fun j j1 j2 => ?_, ?_, ?_⟩
      · rw [e8]
        exact v2
      · rw [e8, ob_io _ _ j1]
        exact v1 j j1
      · rw [e8, ob_is, v10]
        exact nI_1 _
      · rw [e8, ob_io _ _ (by decide), v1 11 (by decide), hb, z]
    · have g := of_decide_eq_false g
      exact wrong (by rw [z, psd_n (by rw [one, if_neg (fun q => g q.2)])])
theorem m_act {u : Ob} {tp : List Nat} (ht : dtR u tp) (hk : tpK tp) {s : Bool × Nat} (ha : u.1 10 = nI s.2) (hb : u.1 11 = bI s.1) (hl : s.2 ≤ tp.length) {post : Int32 → Ob → Prop} (h : ∀ v, kpM u v (acm tp s).2 → post (nI (acm tp s).1) v) : wp_X8_act u post := by
  obtain ⟨b, a⟩ := s
  have ha : u.1 10 = nI a := ha
  have hb : u.1 11 = bI b := hb
  have hl : a ≤ tp.length := hl
  have hlt := tp_lt hk (skp tp a)
  unfold wp_X8_act
  refine m_next ht hk ha hl (fun v v2 v1 v10 => ?_)
  simp only [jn]
  have wrong : acm tp (b, a) = (0, true, skp tp a) → ∀ u4 : Ob, u4 = fs_i v 11 1 → post 0 u4 := by
    intro e u4 e4
    rw [e] at h
    refine h u4 ⟨?_, fun j j1 j2 => ?_, ?_, ?_⟩
    · rw [e4]
      exact v2
    · rw [e4, ob_io _ _ j2]
      exact v1 j j1
    · rw [e4, ob_io _ _ (by decide)]
      exact v10
    · rw [e4, ob_is]
      rfl
  rw [v1 11 (by decide), hb]
  have good : ∀ k, k < 3 → actO tp a = some (k, skp tp a + 1) → (((¬ bI b = 0) → ∀ u_6 : Ob, u_6 = fs_i v 11 1 → post 0 u_6) ∧ ((bI b = 0) → (((0 : Int32) ≤ nI k) → ∀ u_9 : Ob, u_9 = fs_i v 10 ((v.1 10) + 1) → post (nI k) u_9) ∧ ((¬ (0 : Int32) ≤ nI k) → ∀ u_6 : Ob, u_6 = fs_i v 11 1 → post 0 u_6))) := by
    intro k hk3 e
    refine bI_if2 (fun z => wrong (by rw [z]; rfl)) (fun z => ⟨fun _ u9 e9 => ?_, fun y => absurd (nI_pos' (by omega)) y⟩)
    rw [z, acm_s e] at h
    refine h u9 ⟨?_, fun j j1 j2 => ?_, ?_, ?_⟩
    · rw [e9]
      exact v2
    · rw [e9, ob_io _ _ j1]
      exact v1 j j1
    · rw [e9, ob_is, v10]
      exact nI_1 _
    · rw [e9, ob_io _ _ (by decide), v1 11 (by decide), hb, z]
  have hc : tp.getD (skp tp a) 0 ≠ 0 → skp tp a < tp.length := by
    intro z
    rcases Nat.lt_or_ge (skp tp a) tp.length with q | q
    · exact q
    · exact absurd (getD_end q) z
  refine pk_ne (tp.getD (skp tp a) 0) 45 (fun z => ?_) (fun z => good 0 (by omega) (by rw [actO, if_pos (hc (by omega)), if_pos z]))
  refine pk_ne (tp.getD (skp tp a) 0) 33 (fun z2 => ?_) (fun z2 => good 1 (by omega) (by rw [actO, if_pos (hc (by omega)), if_neg z, if_pos z2]))
  refine pk_ne (tp.getD (skp tp a) 0) 63 (fun z3 => ?_) (fun z3 => good 2 (by omega) (by rw [actO, if_pos (hc (by omega)), if_neg z, if_neg z2, if_pos z3]))
  have no : actO tp a = none := by
    unfold actO
    by_cases c : skp tp a < tp.length
    · rw [if_pos c, if_neg z, if_neg z2, if_neg z3]
    · rw [if_neg c]
  refine bI_if2 (fun y => wrong (by rw [y]; rfl)) (fun y => ⟨fun q => absurd q (by decide), fun _ => wrong (by rw [y, acm_n no])⟩)
/-- what 'read' keeps of the model until its end -/
def kpD (u v : Ob) : Prop := (∀ j, j ≠ 10 → j ≠ 11 → v.1 j = u.1 j) ∧ ∀ j, j ≠ 12 → v.2.1 j = u.2.1 j
theorem kpD.M {u v w : Ob} {s : Bool × Nat} (h : kpD u v) (g : kpM v w s) : kpD u w := by
  refine ⟨fun j j1 j2 => ?_, fun j j1 => ?_⟩
  · rw [g.2.1 j j1 j2]
    exact h.1 j j1 j2
  · rw [g.1]
    exact h.2 j j1
theorem kpD.W {u v w : Ob} {i : Nat} {x : Int32} (h : kpD u v) (e : w = fs_a v 12 (upd (v.2.1 12) i x)) : kpD u w := by
  refine ⟨fun j j1 j2 => ?_, fun j j1 => ?_⟩
  · rw [e]
    exact h.1 j j1 j2
  · rw [e, ob_ao _ _ j1]
    exact h.2 j j1
theorem kpD.T {u v : Ob} (h : kpD u v) {tp : List Nat} (ht : dtR u tp) : dtR v tp := ht.cg (h.1 9 (by decide) (by decide)) (h.2 8 (by decide))
theorem MR.rd {u v w : Ob} {N c : Nat} {bg : Nat → Bool} {ar : Nat → Nat → Nat} {tp : List Nat} {sN : Nat} {wN : Nat → List Nat} {sA : Nat} {wA : Nat → List Nat} {hd : Nat → Bool} {ln sz : Nat → Nat} {it : Nat → Nat → Int32} (h : MR u N c bg ar tp sN wN sA wA hd ln sz it) (hk : kpD u v) (e : w = fs_i v 9 0) : MR w N c bg ar [] sN wN sA wA hd ln sz it := by
  have k1 : ∀ j, j ≠ 9 → j ≠ 10 → j ≠ 11 → w.1 j = u.1 j := fun j j1 j2 j3 => by
    rw [e, ob_io _ _ j1]
    exact hk.1 j j2 j3
  have k2 : ∀ j, j ≠ 12 → w.2.1 j = u.2.1 j := fun j j1 => by
    rw [e]
    exact hk.2 j j1
  obtain ⟨b1, b2, b3, b4, b5⟩ := h
  exact ⟨b1.cg (k1 0 (by decide) (by decide) (by decide)) (k1 2 (by decide) (by decide) (by decide)) (k2 1 (by decide)) (fun q hq => k2 (3 + q) (by omega)), ⟨by rw [e, ob_is]; rfl, fun i hi => absurd hi (Nat.not_lt_zero i)⟩, b3.cg (k2 13 (by decide)) (k2 14 (by decide)) (k2 15 (by decide)), b4.cg (k2 13 (by decide)) (k2 14 (by decide)) (k2 15 (by decide)), b5.cg (k2 22 (by decide)) (k2 23 (by decide)) (k2 24 (by decide))⟩
theorem MR.cnt0 {u v : Ob} {N c : Nat} {bg : Nat → Bool} {ar : Nat → Nat → Nat} {tp : List Nat} {sN : Nat} {wN : Nat → List Nat} {sA : Nat} {wA : Nat → List Nat} {hd : Nat → Bool} {ln sz : Nat → Nat} {it : Nat → Nat → Int32} (h : MR u N c bg ar tp sN wN sA wA hd ln sz it) (e : v = fs_i u 2 0) : MR v N 0 bg ar tp sN wN sA wA hd ln sz it := by
  have k1 : ∀ j, j ≠ 2 → v.1 j = u.1 j := fun j j1 => by rw [e, ob_io _ _ j1]
  have k2 : v.2 = u.2 := by
    rw [e]
    rfl
  obtain ⟨b1, b2, b3, b4, b5⟩ := h
  refine ⟨⟨?_, by rw [e, ob_is]; rfl, fun k hk => ?_, fun i q hi => absurd hi (Nat.not_lt_zero i)⟩, b2.cg (k1 9 (by decide)) (by rw [k2]), b3.cg (by rw [k2]) (by rw [k2]) (by rw [k2]), b4.cg (by rw [k2]) (by rw [k2]) (by rw [k2]), b5.cg (by rw [k2]) (by rw [k2]) (by rw [k2])⟩
  · rw [k1 0 (by decide)]
    exact b1.1
  · rw [k2]
    exact b1.2.2.1 k hk
theorem m_read {u : Ob} {N c : Nat} {bg : Nat → Bool} {ar : Nat → Nat → Nat} {tp : List Nat} {sN : Nat} {wN : Nat → List Nat} {sA : Nat} {wA : Nat → List Nat} {hd : Nat → Bool} {ln sz : Nat → Nat} {it : Nat → Nat → Int32} (h : MR u N c bg ar tp sN wN sA wA hd ln sz it) (hA : ∀ k, k < 2 → (wA k).length ≤ 11) (hk : mK N c ar) (hp : tpK tp) {post : Int32 → Ob → Prop}
    (h1 : ∀ n R, prS tp N 20 0 0 ar = .inr (n, R) → ∀ v sM wM, (1 ≤ n → sM = 0 ∧ wM = nilW0) → 1 ≤ n → MR v N n bg R [] sM wM sA wA hd ln sz it → post (nI n) v)
    (h0 : ∀ p, prS tp N 20 0 0 ar = .inl p → ∀ v, MR v N c bg ar [] sN wN sA wA hd ln sz it → post (-20 - nI p) v) : wp_X8_read u post := by
  have hL := hp.1
  have hN1 := hk.1
  have hN8 := hk.2.1
  unfold wp_X8_read
  intro u1 e1 u2 e2
  have kd2 : kpD u u2 := by
    refine ⟨fun j j1 j2 => ?_, fun j _ => ?_⟩
    · rw [e2, ob_io _ _ j2, e1, ob_io _ _ j1]
    · rw [e2, e1]
      rfl
  have a2 : u2.1 10 = nI 0 := by
    rw [e2, ob_io _ _ (by decide), e1, ob_is]
    rfl
  have b2 : u2.1 11 = bI false := by
    rw [e2, ob_is]
    rfl
  refine lq3_m (fun m x y w => ∃ (k a : Nat) (R : Nat → Nat → Nat), y = nI k ∧ k ≤ 20 ∧ kpD u w ∧ w.1 10 = nI a ∧ a ≤ tp.length ∧ (∀ j, j < k → gdAt N (w.2.1 12) (5 * j) = true ∧ arAt (w.2.1 12) (5 * j) = R j) ∧ ((x = 1 ∧ k + m = 21 ∧ k < 20 ∧ w.1 11 = bI false ∧ prS tp N 20 0 0 ar = prS tp N (20 - k) k a R) ∨ (x = 0 ∧ w.1 11 = bI true ∧ prS tp N 20 0 0 ar = .inl a) ∨ (x = 0 ∧ w.1 11 = bI false ∧ skp tp a = a ∧ 1 ≤ k ∧ prS tp N 20 0 0 ar = if a < tp.length then .inl a else .inr (k, R)))) ?_ 21 1 0 u2 ⟨0, 0, ar, rfl, by omega, kd2, a2, Nat.zero_le _, fun j hj => absurd hj (Nat.not_lt_zero j), Or.inl ⟨rfl, rfl, by omega, b2, rfl⟩⟩
  rintro LL m x y w ⟨k, a, R, rfl, hk20, kd, wa, hl, hR, hor⟩ ih
  have tw := kd.T h.2.1
  rcases hor with ⟨rfl, hm, hk2, w11, he⟩ | ⟨rfl, w11, he⟩ | ⟨rfl, w11, hsk, hk1, he⟩
  · refine ⟨fun z => absurd z (by decide), fun _ => ?_⟩
    have wN0 : ∀ v, kpD u v → v.1 0 = nI N := fun v hv => by
      rw [hv.1 0 (by decide) (by decide)]
      exact h.1.1
    have d0 : (5 : Int32) * nI k = nI (5 * k) := pk_mul 5 k
    have d1 : nI (5 * k) + 1 = nI (5 * k + 1) := nI_add (5 * k) 1
    have d2 : nI (5 * k) + 2 = nI (5 * k + 2) := nI_add (5 * k) 2
    have d3 : nI (5 * k) + 3 = nI (5 * k + 3) := nI_add (5 * k) 3
    have d4 : nI (5 * k) + 4 = nI (5 * k + 4) := nI_add (5 * k) 4
    have i0 : vp_in (nI (5 * k)) 100 := vp_in_nI (by omega) (by omega)
    have i1 : vp_in (nI (5 * k + 1)) 100 := vp_in_nI (by omega) (by omega)
    have i2 : vp_in (nI (5 * k + 2)) 100 := vp_in_nI (by omega) (by omega)
    have i3 : vp_in (nI (5 * k + 3)) 100 := vp_in_nI (by omega) (by omega)
    have i4 : vp_in (nI (5 * k + 4)) 100 := vp_in_nI (by omega) (by omega)
    have c0 : (nI (5 * k)).toNatClampNeg = 5 * k := nI_clamp (by omega)
    have c1 : (nI (5 * k + 1)).toNatClampNeg = 5 * k + 1 := nI_clamp (by omega)
    have c2 : (nI (5 * k + 2)).toNatClampNeg = 5 * k + 2 := nI_clamp (by omega)
    have c3 : (nI (5 * k + 3)).toNatClampNeg = 5 * k + 3 := nI_clamp (by omega)
    have c4 : (nI (5 * k + 4)).toNatClampNeg = 5 * k + 4 := nI_clamp (by omega)
    rw [d0, d1, d2, d3, d4, c0, c1, c2, c3, c4, wN0 w kd]
    simp only [jn]
    obtain ⟨s1, hs1⟩ : ∃ s, s = psd tp (false, a) 48 N := ⟨_, rfl⟩
    obtain ⟨bs1, ls1⟩ := psd_b tp (false, a) hl 48 N hN1
    rw [← hs1] at bs1 ls1
    refine m_passed (s := (false, a)) (f := 48) (m := N) tw hp wa w11 hl (by omega) (by omega) (by omega) (fun v29 k29 => ?_)
    rw [← hs1] at k29 ⊢
    refine ⟨i0, fun u31 e31 => ?_⟩
    have kd31 : kpD u u31 := (kd.M k29).W e31
    have p31 : u31.1 10 = nI s1.2.2 := by
      rw [e31]
      exact k29.2.2.1
    have q31 : u31.1 11 = bI s1.2.1 := by
      rw [e31]
      exact k29.2.2.2
    obtain ⟨s2, hs2⟩ : ∃ s, s = acm tp s1.2 := ⟨_, rfl⟩
    obtain ⟨bs2, ls2⟩ := acm_b tp s1.2 ls1
    rw [← hs2] at bs2 ls2
    refine m_act (s := s1.2) (kd31.T h.2.1) hp p31 q31 ls1 (fun v33 k33 => ?_)
    rw [← hs2] at k33 ⊢
    refine ⟨i1, fun u35 e35 => ?_⟩
    have kd35 : kpD u u35 := (kd31.M k33).W e35
    have p35 : u35.1 10 = nI s2.2.2 := by
      rw [e35]
      exact k33.2.2.1
    have q35 : u35.1 11 = bI s2.2.1 := by
      rw [e35]
      exact k33.2.2.2
    have r35 : u35.2.1 12 = upd (upd (w.2.1 12) (5 * k) (nI s1.1)) (5 * k + 1) (nI s2.1) := by rw [e35, ob_as, k33.1, e31, ob_as, k29.1]
    obtain ⟨s3, hs3⟩ : ∃ s, s = (if s2.1 = 0 then (0, s2.2) else psd tp s2.2 97 3) := ⟨_, rfl⟩
    obtain ⟨s4, hs4⟩ : ∃ s, s = (if s2.1 = 0 then (0, s3.2) else psd tp s3.2 48 2) := ⟨_, rfl⟩
    obtain ⟨s5, hs5⟩ : ∃ s, s = psd tp s4.2 48 N := ⟨_, rfl⟩
    have big := mA_prA (s1 := s1) (s2 := s2) (s3 := s3) (s4 := s4) (s5 := s5) ⟨hs1, hs2, hs3, hs4, hs5⟩
    have bs3 : s3.1 < 3 ∧ s3.2.2 ≤ tp.length := by
      rw [hs3]
      split
      · exact ⟨by show 0 < 3; omega, ls2⟩
      · exact psd_b tp s2.2 ls2 97 3 (by omega)
    have bs4 : s4.1 < 2 ∧ s4.2.2 ≤ tp.length := by
      rw [hs4]
      split
      · exact ⟨by show 0 < 2; omega, bs3.2⟩
      · exact psd_b tp s3.2 bs3.2 48 2 (by omega)
    have bs5 : s5.1 < N ∧ s5.2.2 ≤ tp.length := by
      rw [hs5]
      exact psd_b tp s4.2 bs4.2 48 N hN1
    have tail : ∀ (u40 : Ob), kpD u u40 → u40.2.1 12 = upd (u35.2.1 12) (5 * k + 3) (nI s3.1) → ∀ u43 : Ob, kpM u40 u43 s4.2 → vp_in (nI (5 * k + 2)) 100 ∧ ∀ u_45 : Ob, u_45 = fs_a u43 12 (upd (u43.2.1 12) (5 * k + 2) (nI s4.1)) →
          wp_X8_passed u_45 48 (u_45.1 0) (fun (r_46 : Int32) (u_47 : Ob) =>
          vp_in (nI (5 * k + 4)) 100 ∧ ∀ u_49 : Ob, u_49 = fs_a u_47 12 (upd (u_47.2.1 12) (5 * k + 4) r_46) →
            ((¬ (u_49.1 11) = 0) →
              ((True) → ∀ u_55 : Ob, u_55 = fs_i u_49 10 ((u_49.1 10) + 0) → LL 0 (nI k + 1) u_55) ∧ ((¬ True) → ∀ u_55 : Ob, u_55 = fs_i u_49 10 ((u_49.1 10) + 1) → LL 0 (nI k + 1) u_55)) ∧ (((u_49.1 11) = 0) →
              wp_X8_next u_49 (fun (r_58 : Int32) (u_59 : Ob) =>
              ((¬ r_58 = 59) →
                ((True) → ∀ u_55 : Ob, u_55 = fs_i u_59 10 ((u_59.1 10) + 0) → LL 0 (nI k + 1) u_55) ∧ ((¬ True) → ∀ u_55 : Ob, u_55 = fs_i u_59 10 ((u_59.1 10) + 1) → LL 0 (nI k + 1) u_55)) ∧ ((r_58 = 59) →
                (((20 : Int32) ≤ (nI k + 1)) →
                  ((True) → ∀ u_55 : Ob, u_55 = fs_i u_59 10 ((u_59.1 10) + 0) → LL 0 (nI k + 1) u_55) ∧ ((¬ True) → ∀ u_55 : Ob, u_55 = fs_i u_59 10 ((u_59.1 10) + 1) → LL 0 (nI k + 1) u_55)) ∧ ((¬ (20 : Int32) ≤ (nI k + 1)) →
                  (((1 : Int32) = 0) → ∀ u_55 : Ob, u_55 = fs_i u_59 10 ((u_59.1 10) + 0) → LL 1 (nI k + 1) u_55) ∧ ((¬ (1 : Int32) = 0) → ∀ u_55 : Ob, u_55 = fs_i u_59 10 ((u_59.1 10) + 1) → LL 1 (nI k + 1) u_55)))))) := by
      intro u40 kd40 r40 u43 k43
      refine ⟨i2, fun u45 e45 => ?_⟩
      have kd45 : kpD u u45 := (kd40.M k43).W e45
      have p45 : u45.1 10 = nI s4.2.2 := by
        rw [e45]
        exact k43.2.2.1
      have q45 : u45.1 11 = bI s4.2.1 := by
        rw [e45]
        exact k43.2.2.2
      rw [wN0 u45 kd45]
      refine m_passed (s := s4.2) (f := 48) (m := N) (kd45.T h.2.1) hp p45 q45 bs4.2 (by omega) (by omega) (by omega) (fun v47 k47 => ?_)
      rw [← hs5] at k47 ⊢
      refine ⟨i4, fun u49 e49 => ?_⟩
      have kd49 : kpD u u49 := (kd45.M k47).W e49
      have p49 : u49.1 10 = nI s5.2.2 := by
        rw [e49]
        exact k47.2.2.1
      have q49 : u49.1 11 = bI s5.2.1 := by
        rw [e49]
        exact k47.2.2.2
      have r49 : u49.2.1 12 = upd (upd (upd (upd (upd (w.2.1 12) (5 * k) (nI s1.1)) (5 * k + 1) (nI s2.1)) (5 * k + 3) (nI s3.1)) (5 * k + 2) (nI s4.1)) (5 * k + 4) (nI s5.1) := by
        rw [e49, ob_as, k47.1, e45, ob_as, k43.1, r40, r35]
      have row : gdAt N (u49.2.1 12) (5 * k) = true ∧ arAt (u49.2.1 12) (5 * k) = ar5 s1.1 s2.1 s4.1 s3.1 s5.1 := by
        refine gdAt_mk bs1 bs2 bs4.1 bs3.1 bs5.1 hN8 ?_ ?_ ?_ (fun _ => ⟨?_, ?_⟩) (fun z => ⟨?_, ?_⟩)
        · rw [r49, up_o _ _ (by omega), up_o _ _ (by omega), up_o _ _ (by omega), up_o _ _ (by omega), up_s]
        · rw [r49, up_o _ _ (by omega), up_o _ _ (by omega), up_o _ _ (by omega), up_s]
        · rw [r49, up_s]
        · rw [r49, up_o _ _ (by omega), up_s]
        · rw [r49, up_o _ _ (by omega), up_o _ _ (by omega), up_s]
        · rw [hs4, if_pos z]
        · rw [hs3, if_pos z]
      have rows : ∀ j, j < k + 1 → gdAt N (u49.2.1 12) (5 * j) = true ∧ arAt (u49.2.1 12) (5 * j) = va_up R k (ar5 s1.1 s2.1 s4.1 s3.1 s5.1) j := by
        intro j hj
        by_cases z : j = k
        · rw [z, va_up_self]
          exact row
        · rw [va_up_ne _ _ z]
          have cg := gdAt_cg (N := N) (f := u49.2.1 12) (g := w.2.1 12) (i := 5 * j) (fun q hq => by
            rw [r49, up_o _ _ (by omega), up_o _ _ (by omega), up_o _ _ (by omega), up_o _ _ (by omega), up_o _ _ (by omega)])
          rw [cg.1, cg.2]
          exact hR j (by omega)
      obtain ⟨r, hr⟩ : ∃ r, 20 - k = r + 1 := ⟨19 - k, by omega⟩
      rw [hr] at he
      rw [q49, nI_1]
      refine bI_if2 (fun z => ⟨fun _ u55 e55 => ?_, fun y => absurd trivial y⟩) (fun z => ?_)
      · refine ih 0 _ _ _ (by omega) ⟨k + 1, s5.2.2, va_up R k (ar5 s1.1 s2.1 s4.1 s3.1 s5.1), rfl, by omega, ?_, ?_, bs5.2, fun j hj => ?_, Or.inr (Or.inl ⟨rfl, ?_, ?_⟩)⟩
        · refine ⟨fun j j1 j2 => ?_, fun j j1 => ?_⟩
          · rw [e55, ob_io _ _ j1]
            exact kd49.1 j j1 j2
          · rw [e55]
            exact kd49.2 j j1
        · rw [e55, ob_is, p49]
          exact nI_add _ 0
        · rw [e55]
          exact rows j hj
        · rw [e55, ob_io _ _ (by decide), q49, z]
        · rw [z, if_pos rfl] at big
          rw [he, prS_l big]
      · rw [z, if_neg (by decide)] at big
        rw [prS_r big] at he
        have hle := skp_le bs5.2
        refine m_next (kd49.T h.2.1) hp p49 bs5.2 (fun v59 k59 j59 p59 => ?_)
        have kd59 : kpD u v59 := by
          refine ⟨fun j j1 j2 => ?_, fun j j1 => ?_⟩
          · rw [j59 j j1]
            exact kd49.1 j j1 j2
          · rw [k59]
            exact kd49.2 j j1
        have q59 : v59.1 11 = bI false := by rw [j59 11 (by decide), q49, z]
        have stop : (skp tp s5.2.2 < tp.length → ¬ (tp.getD (skp tp s5.2.2) 0 = 59 ∧ k + 1 ≠ 20)) → ∀ u55 : Ob, u55 = fs_i v59 10 ((v59.1 10) + 0) → LL 0 (nI (k + 1)) u55 := by
          intro y u55 e55
          refine ih 0 _ _ _ (by omega) ⟨k + 1, skp tp s5.2.2, va_up R k (ar5 s1.1 s2.1 s4.1 s3.1 s5.1), rfl, by omega, ?_, ?_, hle, fun j hj => ?_, Or.inr (Or.inr ⟨rfl, ?_, skp_idem _ _, by omega, ?_⟩)⟩
          · refine ⟨fun j j1 j2 => ?_, fun j j1 => ?_⟩
            · rw [e55, ob_io _ _ j1]
              exact kd59.1 j j1 j2
            · rw [e55]
              exact kd59.2 j j1
          · rw [e55, ob_is, p59]
            exact nI_add _ 0
          · rw [e55]
            show gdAt N (v59.2.1 12) (5 * j) = true ∧ arAt (v59.2.1 12) (5 * j) = _
            rw [k59]
            exact rows j hj
          · rw [e55, ob_io _ _ (by decide), q59]
          · rw [he]
            by_cases y2 : skp tp s5.2.2 < tp.length
            · rw [if_pos y2, if_pos y2, if_neg (y y2)]
            · rw [if_neg y2, if_neg y2]
        have hlt := tp_lt hp (skp tp s5.2.2)
        refine pk_ne (tp.getD (skp tp s5.2.2) 0) 59 (fun y => ⟨fun _ => stop (fun _ q => y q.1), fun y2 => absurd trivial y2⟩) (fun y => ?_)
        refine pk_le 20 (k + 1) (fun y2 => ⟨fun _ => stop (fun _ q => q.2 (by omega)), fun y3 => absurd trivial y3⟩) (fun y2 => ⟨fun y3 => absurd y3 (by decide), fun _ u55 e55 => ?_⟩)
        have hc : skp tp s5.2.2 < tp.length := by
          rcases Nat.lt_or_ge (skp tp s5.2.2) tp.length with q | q
          · exact q
          · have := getD_end q
            omega
        rw [if_pos hc, if_pos ⟨y, by omega⟩] at he
        refine ih (r + 1) _ _ _ (by omega) ⟨k + 1, skp tp s5.2.2 + 1, va_up R k (ar5 s1.1 s2.1 s4.1 s3.1 s5.1), rfl, by omega, ?_, ?_, by omega, fun j hj => ?_, Or.inl ⟨rfl, by omega, by omega, ?_, ?_⟩⟩
        · refine ⟨fun j j1 j2 => ?_, fun j j1 => ?_⟩
          · rw [e55, ob_io _ _ j1]
            exact kd59.1 j j1 j2
          · rw [e55]
            exact kd59.2 j j1
        · rw [e55, ob_is, p59]
          exact nI_1 _
        · rw [e55]
          show gdAt N (v59.2.1 12) (5 * j) = true ∧ arAt (v59.2.1 12) (5 * j) = _
          rw [k59]
          exact rows j hj
        · rw [e55, ob_io _ _ (by decide), q59]
        · rw [he, show 20 - (k + 1) = r by omega]
    have kme : ∀ (v : Ob) (s : Bool × Nat), v.1 10 = nI s.2 → v.1 11 = bI s.1 → kpM v v s := fun v s g1 g2 => ⟨rfl, fun _ _ _ => rfl, g1, g2⟩
    refine pk_ne s2.1 0 (fun z => ?_) (fun z => ?_)
    · rw [if_neg z] at hs3 hs4
      refine m_passed (s := s2.2) (f := 97) (m := 3) (kd35.T h.2.1) hp p35 q35 ls2 (by omega) (by omega) (by omega) (fun v67 k67 => ?_)
      rw [← hs3] at k67 ⊢
      refine ⟨i3, fun u40 e40 => ?_⟩
      have kd40 : kpD u u40 := (kd35.M k67).W e40
      have p40 : u40.1 10 = nI s3.2.2 := by
        rw [e40]
        exact k67.2.2.1
      have q40 : u40.1 11 = bI s3.2.1 := by
        rw [e40]
        exact k67.2.2.2
      have r40 : u40.2.1 12 = upd (u35.2.1 12) (5 * k + 3) (nI s3.1) := by rw [e40, ob_as, k67.1]
      refine pk_ne s2.1 0 (fun _ => ?_) (fun z2 => absurd z2 z)
      refine m_passed (s := s3.2) (f := 48) (m := 2) (kd40.T h.2.1) hp p40 q40 bs3.2 (by omega) (by omega) (by omega) (fun v64 k64 => ?_)
      rw [← hs4] at k64 ⊢
      exact tail u40 kd40 r40 v64 k64
    · rw [if_pos z] at hs3 hs4
      have t3 : s3.1 = 0 := by rw [hs3]
      have t4 : s4.1 = 0 := by rw [hs4]
      have w3 : s3.2 = s2.2 := by rw [hs3]
      have w4 : s4.2 = s2.2 := by rw [hs4, w3]
      refine ⟨i3, fun u40 e40 => ?_⟩
      have kd40 : kpD u u40 := kd35.W e40
      refine pk_ne s2.1 0 (fun z2 => absurd z z2) (fun _ => ?_)
      have r40 : u40.2.1 12 = upd (u35.2.1 12) (5 * k + 3) (nI s3.1) := by
        rw [e40, ob_as, t3]
        rfl
      have g := tail u40 kd40 r40 u40 (kme u40 s4.2 (by rw [w4, e40]; exact p35) (by rw [w4, e40]; exact q35))
      rw [t4] at g
      exact g
  · refine ⟨fun _ => ?_, fun z => absurd (by rfl) z⟩
    simp only [jn]
    rw [w11, wa]
    refine ⟨fun z => absurd z (by decide), fun _ u11 e11 => ⟨fun z => absurd z (by decide), fun _ => ?_⟩⟩
    exact h0 a he u11 (h.rd kd e11)
  · refine ⟨fun _ => ?_, fun z => absurd (by rfl) z⟩
    simp only [jn]
    rw [w11]
    refine ⟨fun _ => ?_, fun z => absurd (by rfl) z⟩
    refine m_next tw hp wa hl (fun v27 k27 j27 p27 => ?_)
    rw [hsk] at p27 ⊢
    have kd27 : kpD u v27 := by
      refine ⟨fun j j1 j2 => ?_, fun j j1 => ?_⟩
      · rw [j27 j j1]
        exact kd.1 j j1 j2
      · rw [k27]
        exact kd.2 j j1
    intro u11 e11
    have M11 := h.rd kd27 e11
    rw [p27]
    by_cases hc : a < tp.length
    · rw [if_pos hc] at he
      have hb := hp.2 a hc
      exact ⟨fun z => absurd z (nI_ne0 (by omega) (by omega)), fun _ => h0 a he u11 M11⟩
    · rw [if_neg hc] at he
      rw [getD_end (by omega)]
      refine ⟨fun _ u13 e13 => ?_, fun z => absurd (by rfl) z⟩
      have M13 := M11.cnt0 e13
      have r13 : u13.2.1 12 = w.2.1 12 := by
        rw [e13]
        show u11.2.1 12 = _
        rw [e11]
        show v27.2.1 12 = _
        rw [k27]
      refine lq2_m (fun m2 v2 z => ∃ (i sM : Nat) (wM : Nat → List Nat), i + m2 = k ∧ v2 = nI i ∧ (1 ≤ i → sM = 0 ∧ wM = nilW0) ∧ MR z N i bg (addA ar 0 (w.2.1 12) 0 i) [] sM wM sA wA hd ln sz it ∧ z.2.1 12 = w.2.1 12) ?_ k 0 u13 ⟨0, sN, wN, by omega, rfl, fun q => by omega, M13, r13⟩
      rintro LL2 m2 v2 z ⟨i, sM, wM, hi, rfl, hsw, hz, rz⟩ ih2
      refine pk_le k i (fun hd => ?_) (fun hd => ?_)
      · have ei : i = k := by omega
        subst ei
        refine h1 i R he z sM wM hsw hk1 ⟨dmR_cg hz.1 rfl (fun j hj => ?_), hz.2⟩
        rw [addA_at i j hj]
        exact (hR j hj).2
      · have d0 : (5 : Int32) * nI i = nI (5 * i) := pk_mul 5 i
        have d1 : nI (5 * i) + 1 = nI (5 * i + 1) := nI_add (5 * i) 1
        have d2 : nI (5 * i) + 2 = nI (5 * i + 2) := nI_add (5 * i) 2
        have d3 : nI (5 * i) + 3 = nI (5 * i + 3) := nI_add (5 * i) 3
        have d4 : nI (5 * i) + 4 = nI (5 * i + 4) := nI_add (5 * i) 4
        rw [d0, d1, d2, d3, d4, nI_clamp (by omega), nI_clamp (by omega), nI_clamp (by omega), nI_clamp (by omega), nI_clamp (by omega), rz]
        refine ⟨vp_in_nI (by omega) (by omega), vp_in_nI (by omega) (by omega), vp_in_nI (by omega) (by omega), vp_in_nI (by omega) (by omega), vp_in_nI (by omega) (by omega), ?_⟩
        have gi := (hR i hd).1
        refine m_put hz hA hN8 (by omega) gi (fun y hy ry => ih2 (m2 - 1) _ _ (by omega) ⟨i + 1, 0, nilW0, by omega, nI_1 i, fun _ => ⟨rfl, rfl⟩, ?_, ry.trans rz⟩)
        unfold addA
        rw [Nat.zero_add, Nat.zero_add]
        exact hy
