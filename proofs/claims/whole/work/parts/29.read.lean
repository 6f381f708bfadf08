/-! read: the tape as arcs -/
/-- how many blanks are in front -/
def bl : List Nat → Nat
  | [] => 0
  | b :: w => if b = 32 then bl w + 1 else 0
def skp (tp : List Nat) (a : Nat) : Nat := a + bl (tp.drop a)
theorem bl_le : ∀ w : List Nat, bl w ≤ w.length
  | [] => Nat.le_refl 0
  | b :: w => by
    have ih := bl_le w
    unfold bl
    split
    · simp only [List.length_cons]
      omega
    · exact Nat.zero_le _
theorem bl_at : ∀ w : List Nat, bl w < w.length → w.getD (bl w) 0 ≠ 32
  | [], h => absurd h (Nat.not_lt_zero _)
  | b :: w, h => by
    by_cases z : b = 32
    · have e : bl (b :: w) = bl w + 1 := by rw [bl, if_pos z]
      rw [e] at h ⊢
      simp only [List.length_cons] at h
      simpa using bl_at w (by omega)
    · have e : bl (b :: w) = 0 := by rw [bl, if_neg z]
      rw [e]
      simpa using z
theorem skp_end {tp : List Nat} {a : Nat} (h : tp.length ≤ a) : skp tp a = a := by
  unfold skp
  rw [List.drop_eq_nil_of_le h]
  rfl
theorem skp_no {tp : List Nat} {a : Nat} (h : a < tp.length) (z : tp.getD a 0 ≠ 32) : skp tp a = a := by
  unfold skp
  rw [drop_get h, bl, if_neg z]
  rfl
theorem skp_yes {tp : List Nat} {a : Nat} (h : a < tp.length) (z : tp.getD a 0 = 32) : skp tp a = skp tp (a + 1) := by
  unfold skp
  rw [drop_get h, bl, if_pos z]
  omega
theorem skp_le {tp : List Nat} {a : Nat} (h : a ≤ tp.length) : skp tp a ≤ tp.length := by
  have := bl_le (tp.drop a)
  rw [List.length_drop] at this
  unfold skp
  omega
theorem skp_at {tp : List Nat} {a : Nat} (h : skp tp a < tp.length) : tp.getD (skp tp a) 0 ≠ 32 := by
  have h2 := bl_at (tp.drop a)
  unfold skp at h ⊢
  rw [List.length_drop] at h2
  have h3 := h2 (by omega)
  rw [List.getD_eq_getElem?_getD, List.getElem?_drop] at h3
  rw [List.getD_eq_getElem?_getD]
  exact h3
theorem skp_idem (tp : List Nat) (a : Nat) : skp tp (skp tp a) = skp tp a := by
  by_cases h : skp tp a < tp.length
  · exact skp_no h (skp_at h)
  · exact skp_end (by omega)
/-- one sign of some that lie side by side: which one, and the place behind it -/
def one (tp : List Nat) (a f m : Nat) : Option (Nat × Nat) := if skp tp a < tp.length ∧ f ≤ tp.getD (skp tp a) 0 ∧ tp.getD (skp tp a) 0 < f + m then some (tp.getD (skp tp a) 0 - f, skp tp a + 1) else none
theorem one_some {tp : List Nat} {a f m k p : Nat} (h : one tp a f m = some (k, p)) : skp tp a < tp.length ∧ tp.getD (skp tp a) 0 = f + k ∧ k < m ∧ p = skp tp a + 1 := by
  unfold one at h
  split at h
  · rename_i c
    have h := Option.some.inj h
    have h1 := (Prod.mk.inj h).1
    have h2 := (Prod.mk.inj h).2
    omega
  · cases h
theorem one_none {tp : List Nat} {a f m : Nat} (h : one tp a f m = none) : ¬ (skp tp a < tp.length ∧ f ≤ tp.getD (skp tp a) 0 ∧ tp.getD (skp tp a) 0 < f + m) := by
  unfold one at h
  split at h
  · cases h
  · assumption
theorem one_idem (tp : List Nat) (a f m : Nat) : one tp (skp tp a) f m = one tp a f m := by
  unfold one
  rw [skp_idem]
def actO (tp : List Nat) (a : Nat) : Option (Nat × Nat) := if skp tp a < tp.length then (if tp.getD (skp tp a) 0 = 45 then some (0, skp tp a + 1) else if tp.getD (skp tp a) 0 = 33 then some (1, skp tp a + 1) else if tp.getD (skp tp a) 0 = 63 then some (2, skp tp a + 1) else none) else none
theorem actO_lt {tp : List Nat} {a k p : Nat} (h : actO tp a = some (k, p)) : k < 3 ∧ p = skp tp a + 1 ∧ skp tp a < tp.length := by
  unfold actO at h
  split at h
  · rename_i c
    split at h
    · have h := Option.some.inj h
      have h1 := (Prod.mk.inj h).1
      have h2 := (Prod.mk.inj h).2
      omega
    · split at h
      · have h := Option.some.inj h
        have h1 := (Prod.mk.inj h).1
        have h2 := (Prod.mk.inj h).2
        omega
      · split at h
        · have h := Option.some.inj h
          have h1 := (Prod.mk.inj h).1
          have h2 := (Prod.mk.inj h).2
          omega
        · cases h
  · cases h
/-- the five numbers of an arc -/
def ar5 (f act l x t : Nat) : Nat → Nat := fun q => if q = 0 then f else if q = 1 then act else if q = 2 then l else if q = 3 then x else t
def prT (tp : List Nat) (N f act l x a : Nat) : Nat ⊕ ((Nat → Nat) × Nat) :=
  match one tp a 48 N with
  | none => .inl (skp tp a)
  | some (t, p) => .inr (ar5 f act l x t, p)
def prL (tp : List Nat) (N f act a : Nat) : Nat ⊕ ((Nat → Nat) × Nat) :=
  match one tp a 97 3 with
  | none => .inl (skp tp a)
  | some (x, p) =>
    match one tp p 48 2 with
    | none => .inl (skp tp p)
    | some (l, q) => prT tp N f act l x q
def prC (tp : List Nat) (N f a : Nat) : Nat ⊕ ((Nat → Nat) × Nat) :=
  match actO tp a with
  | none => .inl (skp tp a)
  | some (act, p) => if act = 0 then prT tp N f 0 0 0 p else prL tp N f act p
/-- an arc: where it is wrong; or the arc, and the place behind it -/
def prA (tp : List Nat) (N a : Nat) : Nat ⊕ ((Nat → Nat) × Nat) :=
  match one tp a 48 N with
  | none => .inl (skp tp a)
  | some (f, p) => prC tp N f p
/-- the text: where it is wrong; or how many arcs, and the arcs -/
def prS (tp : List Nat) (N : Nat) : Nat → Nat → Nat → (Nat → Nat → Nat) → Nat ⊕ (Nat × (Nat → Nat → Nat))
  | 0, _, a, _ => .inl a
  | r + 1, k, a, R =>
    match prA tp N a with
    | .inl p => .inl p
    | .inr (x, p) => if skp tp p < tp.length then (if tp.getD (skp tp p) 0 = 59 ∧ k + 1 ≠ 20 then prS tp N r (k + 1) (skp tp p + 1) (va_up R k x) else .inl (skp tp p)) else .inr (k + 1, va_up R k x)
theorem prS_l {tp : List Nat} {N r k a p : Nat} {R : Nat → Nat → Nat} (h : prA tp N a = .inl p) : prS tp N (r + 1) k a R = .inl p := by
  simp only [prS, h]
theorem prS_r {tp : List Nat} {N r k a p : Nat} {x : Nat → Nat} {R : Nat → Nat → Nat} (h : prA tp N a = .inr (x, p)) : prS tp N (r + 1) k a R = if skp tp p < tp.length then (if tp.getD (skp tp p) 0 = 59 ∧ k + 1 ≠ 20 then prS tp N r (k + 1) (skp tp p + 1) (va_up R k x) else .inl (skp tp p)) else .inr (k + 1, va_up R k x) := by
  simp only [prS, h]
theorem gd_mk {N f act l x t : Nat} (hf : f < N) (ha : act < 3) (hl : l < 2) (hx : x < 3) (ht : t < N) (hN : N ≤ 8) {x3 x4 : Int32} (h1 : act ≠ 0 → x3 = nI l ∧ x4 = nI x) (h0 : act = 0 → l = 0 ∧ x = 0) : gdA N (nI f) (nI act) x3 x4 (nI t) = true ∧ arN (nI f) (nI act) x3 x4 (nI t) = ar5 f act l x t := by
  have c1 : (nI f).toNatClampNeg = f := nI_clamp (by omega)
  have c2 : (nI act).toNatClampNeg = act := nI_clamp (by omega)
  have c5 : (nI t).toNatClampNeg = t := nI_clamp (by omega)
  by_cases z : act = 0
  · obtain ⟨rfl, rfl⟩ := h0 z
    subst z
    have z0 : nI 0 = 0 := rfl
    refine ⟨?_, ?_⟩
    · unfold gdA
      rw [ix_nI (by omega), ix_nI (by omega), ix_nI (by omega), decide_eq_true hf, decide_eq_true ha, decide_eq_true ht, decide_eq_true z0]
      rfl
    · funext q
      unfold arN ar5
      rw [c1, c2, c5, if_pos z0, if_pos z0]
  · obtain ⟨rfl, rfl⟩ := h1 z
    have z0 : ¬ nI act = 0 := nI_ne0 (by omega) (by omega)
    have c3 : (nI l).toNatClampNeg = l := nI_clamp (by omega)
    have c4 : (nI x).toNatClampNeg = x := nI_clamp (by omega)
    refine ⟨?_, ?_⟩
    · unfold gdA
      rw [ix_nI (by omega), ix_nI (by omega), ix_nI (by omega), ix_nI (by omega), ix_nI (by omega), decide_eq_true hf, decide_eq_true ha, decide_eq_true ht, decide_eq_true hl, decide_eq_true hx, decide_eq_false z0]
      rfl
    · funext q
      unfold arN ar5
      rw [c1, c2, c5, if_neg z0, if_neg z0, c3, c4]
theorem gdAt_cg {N : Nat} {f g : Nat → Int32} {i : Nat} (h : ∀ q, q < 5 → f (i + q) = g (i + q)) : gdAt N f i = gdAt N g i ∧ arAt f i = arAt g i := by
  have h0 : f i = g i := h 0 (by omega)
  have h1 := h 1 (by omega)
  have h2 := h 2 (by omega)
  have h3 := h 3 (by omega)
  have h4 := h 4 (by omega)
  unfold gdAt arAt
  rw [h0, h1, h2, h3, h4]
  exact ⟨rfl, rfl⟩
theorem gdAt_mk {N f act l x t : Nat} (hf : f < N) (ha : act < 3) (hl : l < 2) (hx : x < 3) (ht : t < N) (hN : N ≤ 8) {g : Nat → Int32} {i : Nat} (g0 : g i = nI f) (g1 : g (i + 1) = nI act) (g4 : g (i + 4) = nI t) (h1 : act ≠ 0 → g (i + 2) = nI l ∧ g (i + 3) = nI x) (h0 : act = 0 → l = 0 ∧ x = 0) : gdAt N g i = true ∧ arAt g i = ar5 f act l x t := by
  unfold gdAt arAt
  rw [g0, g1, g4]
  exact gd_mk hf ha hl hx ht hN h1 h0
theorem allG_of {N : Nat} {f : Nat → Int32} : ∀ n, (∀ k, k < n → gdAt N f (5 * k) = true) → allG N f 0 n = true
  | 0, _ => rfl
  | n + 1, h => by
    unfold allG
    rw [allG_of n (fun k hk => h k (by omega)), Nat.zero_add, h n (by omega)]
    rfl
theorem addA_at {ar : Nat → Nat → Nat} {f : Nat → Int32} : ∀ n k, k < n → addA ar 0 f 0 n k = arAt f (5 * k)
  | 0, k, hk => absurd hk (Nat.not_lt_zero k)
  | n + 1, k, hk => by
    unfold addA
    rw [Nat.zero_add, Nat.zero_add]
    by_cases z : k = n
    · rw [z, va_up_self]
    · rw [va_up_ne _ _ z]
      exact addA_at n k (by omega)
theorem mR_cg {um : Ob} {N c c2 : Nat} {bg : Nat → Bool} {ar ar2 : Nat → Nat → Nat} (h : mR um N c bg ar) (hc : c = c2) (e : ∀ i, i < c2 → ar i = ar2 i) : mR um N c2 bg ar2 := by
  subst hc
  refine ⟨h.1, h.2.1, h.2.2.1, fun i q hi hq => ?_⟩
  rw [← e i hi]
  exact h.2.2.2 i q hi hq
theorem dmR_cg {u : Ob} {N c c2 : Nat} {bg : Nat → Bool} {ar ar2 : Nat → Nat → Nat} (h : dmR u N c bg ar) (hc : c = c2) (e : ∀ i, i < c2 → ar i = ar2 i) : dmR u N c2 bg ar2 := by
  subst hc
  refine ⟨h.1, h.2.1, h.2.2.1, fun i q hi hq => ?_⟩
  rw [← e i hi]
  exact h.2.2.2 i q hi hq
theorem mK_rd {N : Nat} (h1 : 1 ≤ N) (hN : N ≤ 8) {f : Nat → Int32} {R : Nat → Nat → Nat} {n : Nat} (hn : n ≤ 20) (h : ∀ k, k < n → gdAt N f (5 * k) = true ∧ arAt f (5 * k) = R k) : mK N n R := by
  refine ⟨h1, hN, hn, fun i hi => ?_⟩
  obtain ⟨a, b⟩ := h i hi
  obtain ⟨g1, g2, g3, g4, g5⟩ := gdA_t hN a
  rw [← b]
  exact ⟨g1.2, g2.2, g3.2, g4.2, g5.2⟩
/-! the class -/
def kpT (u v : Ob) (p : Nat) : Prop := v.1 0 = u.1 0 ∧ v.2 = u.2 ∧ v.1 3 = nI p
def kpR (u v : Ob) (p i : Nat) : Prop := v.1 0 = u.1 0 ∧ v.2.1 2 = u.2.1 2 ∧ (∀ j, j < i → v.2.1 1 j = u.2.1 1 j) ∧ v.1 3 = nI p
def kpX (u v : Ob) (p i : Nat) : Prop := v.1 0 = u.1 0 ∧ v.2.1 2 = u.2.1 2 ∧ (∀ j, j ≠ i + 2 → j ≠ i + 3 → v.2.1 1 j = u.2.1 1 j) ∧ v.1 3 = nI p
theorem tpR_k {u v : Ob} {tp : List Nat} (h : tpR u tp) (h0 : v.1 0 = u.1 0) (h2 : v.2.1 2 = u.2.1 2) : tpR v tp := by
  refine ⟨by rw [h0]; exact h.1, fun i hi => ?_⟩
  rw [h2]
  exact h.2 i hi
theorem s_skip {u : Ob} {tp : List Nat} (ht : tpR u tp) (hk : tpK tp) {a : Nat} (ha : u.1 3 = nI a) (hl : a ≤ tp.length) {post : Ob → Prop} (h : ∀ v, kpT u v (skp tp a) → post v) : wp_X4_skipBlanks u post := by
  have hL := hk.1
  unfold wp_X4_skipBlanks
  refine lq1_m (fun m v => ∃ b, b + m = tp.length ∧ kpT u v b ∧ skp tp b = skp tp a) ?_ (tp.length - a) u ⟨a, by omega, ⟨rfl, rfl, ha⟩, rfl⟩
  rintro LL m v ⟨b, hb, ⟨v0, v2, v3⟩, he⟩ ih
  rw [v0, v3, ht.1]
  refine pk_le tp.length b (fun hc => ?_) (fun hc => ?_)
  · rw [← he, skp_end hc] at h
    exact h v ⟨v0, v2, v3⟩
  rw [nI_clamp (by omega), v2, ht.2 b hc]
  have hb2 := hk.2 b hc
  refine ⟨vp_in_nI (by omega) (by omega), ?_⟩
  refine pk_ne (tp.getD b 0) 32 (fun z => ?_) (fun z => ?_)
  · rw [← he, skp_no hc z] at h
    exact h v ⟨v0, v2, v3⟩
  · intro u6 e6
    refine ih (m - 1) _ (by omega) ⟨b + 1, by omega, ⟨?_, ?_, ?_⟩, ?_⟩
    · rw [e6, ob_io _ _ (by decide)]
      exact v0
    · rw [e6]
      exact v2
    · rw [e6, ob_is]
      exact nI_1 b
    · rw [← skp_yes hc z]
      exact he
theorem ix_sub {B f m : Nat} (hB : B < 200) (hf : f < 200) : ix (nI B - nI f) m = decide (f ≤ B ∧ B < f + m) := by
  unfold ix
  rw [pk_sub_toInt (by omega) (by omega)]
  exact decide_eq_decide.mpr (by omega)
theorem s_oneOf {u : Ob} {tp : List Nat} (ht : tpR u tp) (hk : tpK tp) {a : Nat} (ha : u.1 3 = nI a) (hl : a ≤ tp.length) {f m : Nat} (hf : f < 200) (hm : m < 200) {post : Int32 → Ob → Prop} (h1 : ∀ k p, one tp a f m = some (k, p) → k < m → p ≤ tp.length → ∀ v, kpT u v p → post (nI k) v) (h0 : one tp a f m = none → ∀ v, kpT u v (skp tp a) → post (-1) v) : wp_X4_oneOf u (nI f) (nI m) post := by
  have hL := hk.1
  have hle := skp_le hl
  unfold wp_X4_oneOf
  refine s_skip ht hk ha hl (fun v hv => ?_)
  obtain ⟨v0, v2, v3⟩ := id hv
  rw [v0, v3, ht.1]
  refine pk_le tp.length (skp tp a) (fun hc => ?_) (fun hc => ?_)
  · exact h0 (by rw [one, if_neg (by omega)]) v hv
  have hb := hk.2 _ hc
  rw [nI_clamp (by omega), v2, ht.2 _ hc]
  refine ⟨vp_in_nI (by omega) (by omega), ?_⟩
  refine c_among (by omega) ?_
  rw [ix_sub (by omega) hf]
  refine bI_if2 (fun g => ?_) (fun g => ?_)
  · have g := of_decide_eq_true g
    intro u6 e6
    have f3 : u6.1 3 = nI (skp tp a + 1) := by
      rw [e6, ob_is]
      exact nI_1 _
    have f2 : u6.2 = u.2 := by
      rw [e6]
      exact v2
    have f0 : u6.1 0 = u.1 0 := by
      rw [e6, ob_io _ _ (by decide)]
      exact v0
    rw [f3, nI_pred, nI_clamp (by omega), f2, ht.2 _ hc]
    refine ⟨vp_in_nI (by omega) (by omega), ?_⟩
    have e9 : nI (tp.getD (skp tp a) 0) - nI f = nI (tp.getD (skp tp a) 0 - f) := pk_sub (by omega)
    rw [e9]
    exact h1 _ _ (by rw [one, if_pos ⟨hc, g⟩]) (by omega) (by omega) u6 ⟨f0, f2, f3⟩
  · have g := of_decide_eq_false g
    exact h0 (by rw [one, if_neg (fun q => g q.2)]) v hv
theorem s_parseAct {u : Ob} {tp : List Nat} (ht : tpR u tp) (hk : tpK tp) {a : Nat} (ha : u.1 3 = nI a) (hl : a ≤ tp.length) {post : Int32 → Ob → Prop} (h1 : ∀ k p, actO tp a = some (k, p) → k < 3 → p ≤ tp.length → ∀ v, kpT u v p → post (nI k) v) (h0 : actO tp a = none → ∀ v, kpT u v (skp tp a) → post (-1) v) : wp_X4_parseAct u post := by
  unfold wp_X4_parseAct
  have z1 : ¬ (-1 : Int32) = 0 := by decide
  refine s_oneOf (f := 45) (m := 1) ht hk ha hl (by omega) (by omega) (fun k p e1 k1 p1 v hv => ?_) (fun e1 v hv => ?_)
  · obtain ⟨c1, c2, -, c4⟩ := one_some e1
    have k0 : k = 0 := by omega
    subst k0
    exact ⟨fun z => absurd (by rfl) z, fun _ => h1 0 p (by rw [actO, if_pos c1, if_pos c2, c4]) (by omega) p1 v hv⟩
  have n1 := one_none e1
  refine ⟨fun _ => ?_, fun z => absurd z z1⟩
  refine s_oneOf (f := 33) (m := 1) (tpR_k ht hv.1 (by rw [hv.2.1])) hk hv.2.2 (skp_le hl) (by omega) (by omega) (fun k p e2 k1 p1 w hw => ?_) (fun e2 w hw => ?_)
  · rw [one_idem] at e2
    obtain ⟨c1, c2, -, c4⟩ := one_some e2
    have k0 : k = 0 := by omega
    subst k0
    exact ⟨fun z => absurd (by rfl) z, fun _ => h1 1 p (by rw [actO, if_pos c1, if_neg (by omega), if_pos c2, c4]) (by omega) p1 w ⟨hw.1.trans hv.1, hw.2.1.trans hv.2.1, hw.2.2⟩⟩
  rw [one_idem] at e2
  have n2 := one_none e2
  have hw3 : w.1 3 = nI (skp tp a) := by
    rw [hw.2.2, skp_idem]
  have hw0 : w.1 0 = u.1 0 := hw.1.trans hv.1
  have hw2 : w.2 = u.2 := hw.2.1.trans hv.2.1
  refine ⟨fun _ => ?_, fun z => absurd z z1⟩
  refine s_oneOf (f := 63) (m := 1) (tpR_k ht hw0 (by rw [hw2])) hk hw3 (skp_le hl) (by omega) (by omega) (fun k p e3 k1 p1 y hy => ?_) (fun e3 y hy => ?_)
  · rw [one_idem] at e3
    obtain ⟨c1, c2, -, c4⟩ := one_some e3
    have k0 : k = 0 := by omega
    subst k0
    exact ⟨fun z => absurd (by rfl) z, fun _ => h1 2 p (by rw [actO, if_pos c1, if_neg (by omega), if_neg (by omega), if_pos c2, c4]) (by omega) p1 y ⟨hy.1.trans hw0, hy.2.1.trans hw2, hy.2.2⟩⟩
  rw [one_idem] at e3
  have n3 := one_none e3
  refine ⟨fun _ => ?_, fun z => absurd z z1⟩
  refine h0 ?_ y ⟨hy.1.trans hw0, hy.2.1.trans hw2, by rw [hy.2.2, skp_idem]⟩
  unfold actO
  by_cases c : skp tp a < tp.length
  · rw [if_pos c, if_neg (by omega), if_neg (by omega), if_neg (by omega)]
  · rw [if_neg c]
theorem s_parseLL {u : Ob} {tp : List Nat} (ht : tpR u tp) (hk : tpK tp) {a : Nat} (ha : u.1 3 = nI a) (hl : a ≤ tp.length) {i : Nat} (hi : i + 5 ≤ 100) {post : Int32 → Ob → Prop}
    (h1 : ∀ x p l q, one tp a 97 3 = some (x, p) → one tp p 48 2 = some (l, q) → x < 3 → l < 2 → q ≤ tp.length → ∀ v, kpX u v q i → v.2.1 1 (i + 3) = nI x → v.2.1 1 (i + 2) = nI l → post 1 v)
    (h0 : ∀ q, ((one tp a 97 3 = none ∧ q = skp tp a) ∨ ∃ x p, one tp a 97 3 = some (x, p) ∧ one tp p 48 2 = none ∧ q = skp tp p) → q ≤ tp.length → ∀ v, kpX u v q i → post 0 v) : wp_X4_parseLetterAndLine u (nI i) post := by
  unfold wp_X4_parseLetterAndLine
  have d3 : nI i + 3 = nI (i + 3) := nI_add i 3
  have d2 : nI i + 2 = nI (i + 2) := nI_add i 2
  have i3 : vp_in (nI (i + 3)) 100 := vp_in_nI (by omega) (by omega)
  have i2 : vp_in (nI (i + 2)) 100 := vp_in_nI (by omega) (by omega)
  have k3 : (nI (i + 3)).toNatClampNeg = i + 3 := nI_clamp (by omega)
  have k2 : (nI (i + 2)).toNatClampNeg = i + 2 := nI_clamp (by omega)
  rw [d3, d2, k3, k2]
  refine s_oneOf (f := 97) (m := 3) ht hk ha hl (by omega) (by omega) (fun x p e1 x1 p1 v hv => ?_) (fun e1 v hv => ?_)
  · refine ⟨i3, fun u4 e4 => ⟨i3, ?_⟩⟩
    have r3 : u4.2.1 1 (i + 3) = nI x := by rw [e4, ob_as, up_s]
    rw [r3]
    refine ⟨fun _ => ?_, fun z => absurd (nI_pos' (by omega)) z⟩
    have f0 : u4.1 0 = u.1 0 := by
      rw [e4]
      exact hv.1
    have f2 : u4.2.1 2 = u.2.1 2 := by rw [e4, ob_ao _ _ (by decide), hv.2.1]
    have f3 : u4.1 3 = nI p := by
      rw [e4]
      exact hv.2.2
    refine s_oneOf (f := 48) (m := 2) (tpR_k ht f0 f2) hk f3 p1 (by omega) (by omega) (fun l q e2 l1 q1 w hw => ?_) (fun e2 w hw => ?_)
    · refine ⟨i2, fun u10 e10 => ⟨i2, ?_⟩⟩
      have r2 : u10.2.1 1 (i + 2) = nI l := by rw [e10, ob_as, up_s]
      have a10 : u10.2.1 1 = upd (upd (u.2.1 1) (i + 3) (nI x)) (i + 2) (nI l) := by rw [e10, ob_as, hw.2.1, e4, ob_as, hv.2.1]
      rw [r2]
      refine ⟨fun z => absurd z (nI_pos (by omega)), fun _ => h1 x p l q e1 e2 x1 l1 q1 u10 ⟨?_, ?_, fun j j2 j3 => ?_, ?_⟩ ?_ r2⟩
      · rw [e10]
        show w.1 0 = _
        rw [hw.1, f0]
      · rw [e10, ob_ao _ _ (by decide), hw.2.1, f2]
      · rw [a10, up_o _ _ j2, up_o _ _ j3]
      · rw [e10]
        exact hw.2.2
      · rw [a10, up_o _ _ (by omega), up_s]
    · refine ⟨i2, fun u10 e10 => ⟨i2, ?_⟩⟩
      have r2 : u10.2.1 1 (i + 2) = -1 := by rw [e10, ob_as, up_s]
      have a10 : u10.2.1 1 = upd (upd (u.2.1 1) (i + 3) (nI x)) (i + 2) (-1) := by rw [e10, ob_as, hw.2.1, e4, ob_as, hv.2.1]
      rw [r2]
      refine ⟨fun _ => h0 (skp tp p) (Or.inr ⟨x, p, e1, e2, rfl⟩) (skp_le p1) u10 ⟨?_, ?_, fun j j2 j3 => ?_, ?_⟩, fun z => absurd (by decide) z⟩
      · rw [e10]
        show w.1 0 = _
        rw [hw.1, f0]
      · rw [e10, ob_ao _ _ (by decide), hw.2.1, f2]
      · rw [a10, up_o _ _ j2, up_o _ _ j3]
      · rw [e10]
        exact hw.2.2
  · refine ⟨i3, fun u4 e4 => ⟨i3, ?_⟩⟩
    have r3 : u4.2.1 1 (i + 3) = -1 := by rw [e4, ob_as, up_s]
    rw [r3]
    refine ⟨fun z => absurd z (by decide), fun _ => h0 (skp tp a) (Or.inl ⟨e1, rfl⟩) (skp_le hl) u4 ⟨?_, ?_, fun j j2 j3 => ?_, ?_⟩⟩
    · rw [e4]
      exact hv.1
    · rw [e4, ob_ao _ _ (by decide), hv.2.1]
    · rw [e4, ob_as, up_o _ _ j3, hv.2.1]
    · rw [e4]
      exact hv.2.2
theorem prA_n {tp : List Nat} {N a : Nat} (h : one tp a 48 N = none) : prA tp N a = .inl (skp tp a) := by
  simp only [prA, h]
theorem prA_s {tp : List Nat} {N a f p : Nat} (h : one tp a 48 N = some (f, p)) : prA tp N a = prC tp N f p := by
  simp only [prA, h]
theorem prC_n {tp : List Nat} {N f a : Nat} (h : actO tp a = none) : prC tp N f a = .inl (skp tp a) := by
  simp only [prC, h]
theorem prC_s {tp : List Nat} {N f a act p : Nat} (h : actO tp a = some (act, p)) : prC tp N f a = if act = 0 then prT tp N f 0 0 0 p else prL tp N f act p := by
  simp only [prC, h]
theorem prT_n {tp : List Nat} {N f act l x a : Nat} (h : one tp a 48 N = none) : prT tp N f act l x a = .inl (skp tp a) := by
  simp only [prT, h]
theorem prT_s {tp : List Nat} {N f act l x a t p : Nat} (h : one tp a 48 N = some (t, p)) : prT tp N f act l x a = .inr (ar5 f act l x t, p) := by
  simp only [prT, h]
theorem prL_n {tp : List Nat} {N f act a : Nat} (h : one tp a 97 3 = none) : prL tp N f act a = .inl (skp tp a) := by
  simp only [prL, h]
theorem prL_m {tp : List Nat} {N f act a x p : Nat} (h : one tp a 97 3 = some (x, p)) (h2 : one tp p 48 2 = none) : prL tp N f act a = .inl (skp tp p) := by
  simp only [prL, h, h2]
theorem prL_s {tp : List Nat} {N f act a x p l q : Nat} (h : one tp a 97 3 = some (x, p)) (h2 : one tp p 48 2 = some (l, q)) : prL tp N f act a = prT tp N f act l x q := by
  simp only [prL, h, h2]
theorem s_parseArc {u : Ob} {tp : List Nat} (ht : tpR u tp) (hk : tpK tp) {a : Nat} (ha : u.1 3 = nI a) (hl : a ≤ tp.length) {N : Nat} (hN : N ≤ 8) {i : Nat} (hi : i + 5 ≤ 100) {post : Int32 → Ob → Prop}
    (h1 : ∀ x p, prA tp N a = .inr (x, p) → p ≤ tp.length → ∀ v, kpR u v p i → gdAt N (v.2.1 1) i = true → arAt (v.2.1 1) i = x → post 1 v)
    (h0 : ∀ p, prA tp N a = .inl p → p ≤ tp.length → ∀ v, kpR u v p i → post 0 v) : wp_X4_parseArc u (nI i) (nI N) post := by
  unfold wp_X4_parseArc
  have d0 : nI i + 0 = nI i := nI_add i 0
  have d1 : nI i + 1 = nI (i + 1) := nI_add i 1
  have d4 : nI i + 4 = nI (i + 4) := nI_add i 4
  have i0 : vp_in (nI i) 100 := vp_in_nI (by omega) (by omega)
  have i1 : vp_in (nI (i + 1)) 100 := vp_in_nI (by omega) (by omega)
  have i4 : vp_in (nI (i + 4)) 100 := vp_in_nI (by omega) (by omega)
  have k0 : (nI i).toNatClampNeg = i := nI_clamp (by omega)
  have k1 : (nI (i + 1)).toNatClampNeg = i + 1 := nI_clamp (by omega)
  have k4 : (nI (i + 4)).toNatClampNeg = i + 4 := nI_clamp (by omega)
  rw [d0, d1, d4, k0, k1, k4]
  refine s_oneOf (f := 48) (m := N) ht hk ha hl (by omega) (by omega) (fun f p e1 f1 p1 v hv => ?_) (fun e1 v hv => ?_)
  · refine ⟨i0, fun u4 e4 => ⟨i0, ?_⟩⟩
    have r0 : u4.2.1 1 i = nI f := by rw [e4, ob_as, up_s]
    rw [r0]
    refine ⟨fun _ => ?_, fun z => absurd (nI_pos' (by omega)) z⟩
    have f0 : u4.1 0 = u.1 0 := by
      rw [e4]
      exact hv.1
    have f2 : u4.2.1 2 = u.2.1 2 := by rw [e4, ob_ao _ _ (by decide), hv.2.1]
    have f3 : u4.1 3 = nI p := by
      rw [e4]
      exact hv.2.2
    refine s_parseAct (tpR_k ht f0 f2) hk f3 p1 (fun act p2 e2 a2 q2 w hw => ?_) (fun e2 w hw => ?_)
    · refine ⟨i1, fun u10 e10 => ⟨fun z => absurd z (nI_pos (by omega)), fun _ => ?_⟩⟩
      simp only [jn]
      have a10 : u10.2.1 1 = upd (upd (u.2.1 1) i (nI f)) (i + 1) (nI act) := by rw [e10, ob_as, hw.2.1, e4, ob_as, hv.2.1]
      have g0 : u10.1 0 = u.1 0 := by
        rw [e10]
        show w.1 0 = _
        rw [hw.1, f0]
      have g2 : u10.2.1 2 = u.2.1 2 := by rw [e10, ob_ao _ _ (by decide), hw.2.1, f2]
      have g3 : u10.1 3 = nI p2 := by
        rw [e10]
        exact hw.2.2
      have pT : ∀ (l x p3 : Nat) (w3 : Ob), p3 ≤ tp.length → kpX u10 w3 p3 i → (act ≠ 0 → w3.2.1 1 (i + 2) = nI l ∧ w3.2.1 1 (i + 3) = nI x) → (act = 0 → l = 0 ∧ x = 0) → l < 2 → x < 3 → prA tp N a = prT tp N f act l x p3 → wp_X4_oneOf w3 48 (nI N) (fun (r_14 : Int32) (u_15 : Ob) =>
          vp_in (nI (i + 4)) 100 ∧ ∀ u_17 : Ob, u_17 = fs_a u_15 1 (upd (u_15.2.1 1) (i + 4) r_14) →
          vp_in (nI (i + 4)) 100 ∧
          (((u_17.2.1 1 (i + 4)) < 0) →
            post 0 u_17) ∧ ((¬ (u_17.2.1 1 (i + 4)) < 0) →
            post 1 u_17)) := by
        intro l x p3 w3 hp3 hx hlx hlx0 l2 x3 he
        obtain ⟨x0, x2, xr, x3'⟩ := hx
        refine s_oneOf (f := 48) (m := N) (tpR_k ht (x0.trans g0) (x2.trans g2)) hk x3' hp3 (by omega) (by omega) (fun t q e5 t1 q1 y hy => ?_) (fun e5 y hy => ?_)
        · refine ⟨i4, fun u17 e17 => ⟨i4, ?_⟩⟩
          have r4 : u17.2.1 1 (i + 4) = nI t := by rw [e17, ob_as, up_s]
          rw [r4]
          refine ⟨fun z => absurd z (nI_pos (by omega)), fun _ => ?_⟩
          have a17 : ∀ j, j ≠ i + 4 → u17.2.1 1 j = w3.2.1 1 j := fun j hj => by rw [e17, ob_as, up_o _ _ hj, hy.2.1]
          have q0 : u17.2.1 1 i = nI f := by rw [a17 i (by omega), xr i (by omega) (by omega), a10, up_o _ _ (by omega), up_s]
          have q1' : u17.2.1 1 (i + 1) = nI act := by rw [a17 (i + 1) (by omega), xr (i + 1) (by omega) (by omega), a10, up_s]
          obtain ⟨m1, m2⟩ := gdAt_mk (N := N) (g := u17.2.1 1) (i := i) f1 a2 l2 x3 t1 hN q0 q1' r4 (fun z => by
            rw [a17 (i + 2) (by omega), a17 (i + 3) (by omega)]
            exact hlx z) hlx0
          refine h1 _ q (by rw [he, prT_s e5]) q1 u17 ⟨?_, ?_, fun j hj => ?_, ?_⟩ m1 m2
          · rw [e17]
            show y.1 0 = _
            rw [hy.1, x0, g0]
          · rw [e17, ob_ao _ _ (by decide), hy.2.1, x2, g2]
          · rw [a17 j (by omega), xr j (by omega) (by omega), a10, up_o _ _ (by omega), up_o _ _ (by omega)]
          · rw [e17]
            exact hy.2.2
        · refine ⟨i4, fun u17 e17 => ⟨i4, ?_⟩⟩
          have r4 : u17.2.1 1 (i + 4) = -1 := by rw [e17, ob_as, up_s]
          rw [r4]
          refine ⟨fun _ => ?_, fun z => absurd (by decide) z⟩
          have a17 : ∀ j, j ≠ i + 4 → u17.2.1 1 j = w3.2.1 1 j := fun j hj => by rw [e17, ob_as, up_o _ _ hj, hy.2.1]
          refine h0 (skp tp p3) (by rw [he, prT_n e5]) (skp_le hp3) u17 ⟨?_, ?_, fun j hj => ?_, ?_⟩
          · rw [e17]
            show y.1 0 = _
            rw [hy.1, x0, g0]
          · rw [e17, ob_ao _ _ (by decide), hy.2.1, x2, g2]
          · rw [a17 j (by omega), xr j (by omega) (by omega), a10, up_o _ _ (by omega), up_o _ _ (by omega)]
          · rw [e17]
            exact hy.2.2
      refine pk_eq act 0 (fun z => ?_) (fun z => ?_)
      · refine pT 0 0 p2 u10 q2 ⟨rfl, rfl, fun _ _ _ => rfl, g3⟩ (fun z2 => absurd z z2) (fun _ => ⟨rfl, rfl⟩) (by omega) (by omega) ?_
        rw [prA_s e1, prC_s e2, if_pos z, z]
      · refine s_parseLL (tpR_k ht g0 g2) hk g3 q2 hi (fun x p3 l p4 e3 e5 x1 l1 p5 w3 hw3 r3 r2 => ⟨fun _ => ?_, fun z2 => absurd z2 (by decide)⟩) (fun q hq ql w3 hw3 => ⟨fun z2 => absurd (by rfl) z2, fun _ => ?_⟩)
        · refine pT l x p4 w3 p5 hw3 (fun _ => ⟨r2, r3⟩) (fun z2 => absurd z2 z) l1 x1 ?_
          rw [prA_s e1, prC_s e2, if_neg z, prL_s e3 e5]
        · refine h0 q ?_ ql w3 ⟨?_, ?_, fun j hj => ?_, hw3.2.2.2⟩
          · rw [prA_s e1, prC_s e2, if_neg z]
            rcases hq with ⟨e3, rfl⟩ | ⟨x, p3, e3, e5, rfl⟩
            · rw [prL_n e3]
            · rw [prL_m e3 e5]
          · rw [hw3.1, g0]
          · rw [hw3.2.1, g2]
          · rw [hw3.2.2.1 j (by omega) (by omega), a10, up_o _ _ (by omega), up_o _ _ (by omega)]
    · refine ⟨i1, fun u10 e10 => ⟨fun _ => ?_, fun z => absurd (by decide) z⟩⟩
      refine h0 (skp tp p) (by rw [prA_s e1, prC_n e2]) (skp_le p1) u10 ⟨?_, ?_, fun j hj => ?_, ?_⟩
      · rw [e10]
        show w.1 0 = _
        rw [hw.1, f0]
      · rw [e10, ob_ao _ _ (by decide), hw.2.1, f2]
      · rw [e10, ob_as, up_o _ _ (by omega), hw.2.1, e4, ob_as, up_o _ _ (by omega), hv.2.1]
      · rw [e10]
        exact hw.2.2
  · refine ⟨i0, fun u4 e4 => ⟨i0, ?_⟩⟩
    have r0 : u4.2.1 1 i = -1 := by rw [e4, ob_as, up_s]
    rw [r0]
    refine ⟨fun z => absurd z (by decide), fun _ => h0 (skp tp a) (prA_n e1) (skp_le hl) u4 ⟨?_, ?_, fun j hj => ?_, ?_⟩⟩
    · rw [e4]
      exact hv.1
    · rw [e4, ob_ao _ _ (by decide), hv.2.1]
    · rw [e4, ob_as, up_o _ _ (by omega), hv.2.1]
    · rw [e4]
      exact hv.2.2
theorem mul5 (k : Nat) : nI k * 5 = nI (5 * k) := by
  rw [Nat.mul_comm]
  exact pk_mul k 5
theorem s_parse {ut : Ob} {tp : List Nat} (ht : tpR ut tp) (hk : tpK tp) {N : Nat} (hN : N ≤ 8) (ar : Nat → Nat → Nat) {post : Int32 → Ob → Prop}
    (h1 : ∀ n R, prS tp N 20 0 0 ar = .inr (n, R) → 1 ≤ n → n ≤ 20 → ∀ v, (∀ k, k < n → gdAt N (v.2.1 1) (5 * k) = true ∧ arAt (v.2.1 1) (5 * k) = R k) → post (nI n) v)
    (h0 : ∀ p, prS tp N 20 0 0 ar = .inl p → p ≤ 130 → ∀ v, post (-20 - nI p) v) : wp_X4_parse ut (nI N) post := by
  have hL := hk.1
  unfold wp_X4_parse
  intro u1 e1
  have t1 : tpR u1 tp := tpR_k ht (by rw [e1, ob_io _ _ (by decide)]) (by rw [e1]; rfl)
  have s1 : u1.1 3 = nI 0 := by
    rw [e1, ob_is]
    rfl
  refine lq2_m (fun m x v => ∃ (k a : Nat) (R : Nat → Nat → Nat), k + m = 20 ∧ x = nI k ∧ a ≤ tp.length ∧ tpR v tp ∧ v.1 3 = nI a ∧ (∀ j, j < k → gdAt N (v.2.1 1) (5 * j) = true ∧ arAt (v.2.1 1) (5 * j) = R j) ∧ prS tp N 20 0 0 ar = prS tp N m k a R) ?_ 20 0 u1 ⟨0, 0, ar, rfl, rfl, Nat.zero_le _, t1, s1, fun j hj => absurd hj (Nat.not_lt_zero j), rfl⟩
  rintro LL m x v ⟨k, a, R, hkm, rfl, hl, hv, ha, hR, he⟩ ih
  refine pk_le 20 k (fun hc => ?_) (fun hc => ?_)
  · have e : m = 0 := by omega
    rw [e] at he
    rw [ha]
    exact h0 a he (by omega) v
  obtain ⟨r, rfl⟩ : ∃ r, m = r + 1 := ⟨m - 1, by omega⟩
  rw [mul5]
  refine s_parseArc hv hk ha hl hN (by omega) (fun x p e2 pl w hw hg hr => ?_) (fun p e2 pl w hw => ?_)
  · refine ⟨fun _ => ?_, fun z => absurd z (by decide)⟩
    rw [prS_r e2] at he
    have tw : tpR w tp := tpR_k hv hw.1 hw.2.1
    refine s_skip tw hk hw.2.2.2 pl (fun y hy => ?_)
    obtain ⟨y0, y2, y3⟩ := id hy
    have ty : tpR y tp := tpR_k tw y0 (by rw [y2])
    have rows : ∀ j, j < k + 1 → gdAt N (y.2.1 1) (5 * j) = true ∧ arAt (y.2.1 1) (5 * j) = va_up R k x j := by
      intro j hj
      rw [y2]
      by_cases z : j = k
      · rw [z, va_up_self]
        exact ⟨hg, hr⟩
      · rw [va_up_ne _ _ z]
        have c := gdAt_cg (N := N) (f := w.2.1 1) (g := v.2.1 1) (i := 5 * j) (fun q hq => hw.2.2.1 _ (by omega))
        rw [c.1, c.2]
        exact hR j (by omega)
    rw [y3, ty.1]
    have hle := skp_le pl
    refine pk_lt (skp tp p) tp.length (fun hd => ?_) (fun hd => ?_)
    · rw [nI_clamp (by omega), ty.2 _ hd]
      refine ⟨vp_in_nI (by omega) (by omega), ?_⟩
      simp only [jn]
      rw [if_pos hd] at he
      have hb := hk.2 _ hd
      have bad : ¬ (tp.getD (skp tp p) 0 = 59 ∧ k + 1 ≠ 20) → post (-20 - nI (skp tp p)) y := by
        intro z
        rw [if_neg z] at he
        exact h0 _ he (by omega) y
      refine pk_ne (tp.getD (skp tp p) 0) 59 (fun z => bad (fun q => z q.1)) (fun z => ?_)
      rw [nI_1]
      refine pk_ne (k + 1) 20 (fun z2 => ?_) (fun z2 => bad (fun q => q.2 z2))
      rw [if_pos ⟨z, z2⟩] at he
      intro u15 e15
      refine ih r _ _ (by omega) ⟨k + 1, skp tp p + 1, va_up R k x, by omega, rfl, by omega, ?_, ?_, fun j hj => ?_, he⟩
      · exact tpR_k ty (by rw [e15, ob_io _ _ (by decide)]) (by rw [e15]; rfl)
      · rw [e15, ob_is]
        exact nI_1 _
      · rw [e15]
        exact rows j hj
    · rw [nI_1]
      rw [if_neg (by omega)] at he
      exact h1 (k + 1) _ he (by omega) (by omega) y rows
  · refine ⟨fun z => absurd (by rfl) z, fun _ => ?_⟩
    rw [prS_l e2] at he
    rw [hw.2.2.2]
    exact h0 p he (by omega) w
theorem neg20 : ∀ p, p < 131 → (-20 : Int32) - nI p ≤ 0 := by decide +kernel
theorem c_read {uf um ut uh : Ob} {N c : Nat} {bg : Nat → Bool} {ar : Nat → Nat → Nat} {tp : List Nat} (hm : mR um N c bg ar) (hk : mK N c ar) (ht : tpR ut tp) (hp : tpK tp) {post : Int32 → Ob → Ob → Ob → Ob → Prop}
    (h1 : ∀ n R, prS tp N 20 0 0 ar = .inr (n, R) → mK N n R → ∀ vf vm vt vh, vf.1 7 = 0 → mR vm N n bg R → tpR vt [] → plR vh 0 nilW0 → post (nI n) vf vm vt vh)
    (h0 : ∀ p, prS tp N 20 0 0 ar = .inl p → ∀ vt, tpR vt [] → post (-20 - nI p) uf um vt uh) : wp_X7_read uf um ut uh post := by
  unfold wp_X7_read
  rw [hm.1]
  refine s_parse ht hp hk.2.1 ar (fun n R e n1 n2 v hv ut3 e3 => ?_) (fun p e p1 v ut3 e3 => ?_)
  · have t3 : tpR ut3 [] := ⟨by rw [e3, ob_is]; rfl, fun i hi => absurd hi (Nat.not_lt_zero i)⟩
    refine ⟨fun z => absurd z (nI_nle (by omega) (by omega)), fun _ => ?_⟩
    unfold wp_X0_replace
    intro u1 e1
    have m1 : mR u1 N 0 bg ar := by
      refine ⟨?_, ?_, fun k hk2 => ?_, fun i q hi => absurd hi (Nat.not_lt_zero i)⟩
      · rw [e1, ob_io _ _ (by decide)]
        exact hm.1
      · rw [e1, ob_is]
        rfl
      · rw [e1]
        exact hm.2.2.1 k hk2
    have q3 : ut3.2.1 1 = v.2.1 1 := by
      rw [e3]
      rfl
    refine s_addAll (i := 0) (M := 100) (n := n) (c := 0) (g := v.2.1 1) m1 hk.2.1 (by omega) (fun j _ => by rw [q3]) (by omega) (allG_of n (fun k hk2 => (hv k hk2).1)) (by omega) (fun vm hvm => ?_)
    refine s_startAgain (fun vf vh f7 hh => ?_)
    refine h1 n R e (mK_rd hk.1 hk.2.1 n2 hv) vf vm ut3 vh f7 (mR_cg hvm (Nat.zero_add n) (fun i hi => ?_)) t3 hh
    rw [addA_at n i hi]
    exact (hv i hi).2
  · have t3 : tpR ut3 [] := ⟨by rw [e3, ob_is]; rfl, fun i hi => absurd hi (Nat.not_lt_zero i)⟩
    exact ⟨fun _ => h0 p e ut3 t3, fun z => absurd (neg20 p (by omega)) z⟩
