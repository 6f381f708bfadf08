/-! strict: places breadth first -/
abbrev Plc : Type := Nat × (Nat → List Nat)
def cd (p : Plc) : Nat := 4096 * p.1 + 64 * enc (p.2 0) + enc (p.2 1)
def pcK (l : Nat) (p : Plc) : Prop := p.1 < 8 ∧ ∀ k, k < 2 → lok (p.2 k) ∧ (p.2 k).length ≤ l
theorem enc64 {w : List Nat} (h : lok w) (hl : w.length ≤ 3) : enc w < 64 := by
  have h1 := enc_lt h
  have h2 : 4 ^ w.length ≤ 4 ^ 3 := Nat.pow_le_pow_right (by decide) hl
  have h3 : (4 : Nat) ^ 3 = 64 := by decide
  omega
theorem pcK.e {l : Nat} {p : Plc} (h : pcK l p) (hl : l ≤ 3) : p.1 < 8 ∧ enc (p.2 0) < 64 ∧ enc (p.2 1) < 64 :=
  ⟨h.1, enc64 (h.2 0 (by omega)).1 (Nat.le_trans (h.2 0 (by omega)).2 hl), enc64 (h.2 1 (by omega)).1 (Nat.le_trans (h.2 1 (by omega)).2 hl)⟩
theorem cd_lt {l : Nat} {p : Plc} (h : pcK l p) (hl : l ≤ 3) : cd p < 32768 := by
  have := h.e hl
  unfold cd
  omega
theorem cd_s {l : Nat} {p : Plc} (h : pcK l p) (hl : l ≤ 3) : cd p / 4096 = p.1 := by
  have := h.e hl
  unfold cd
  omega
theorem cd_0 {l : Nat} {p : Plc} (h : pcK l p) (hl : l ≤ 3) : cd p / 64 % 64 = enc (p.2 0) := by
  have := h.e hl
  unfold cd
  omega
theorem cd_1 {l : Nat} {p : Plc} (h : pcK l p) (hl : l ≤ 3) : cd p % 64 = enc (p.2 1) := by
  have := h.e hl
  unfold cd
  omega
/-- a word of at most three letters as a number below 40 -/
def rkw : List Nat → Nat
  | [] => 0
  | [a] => 1 + a
  | [a, b] => 4 + 3 * a + b
  | a :: b :: c :: _ => 13 + 9 * a + 3 * b + c
theorem w3_cases {w : List Nat} (h : lok w) (hl : w.length ≤ 3) : w = [] ∨ (∃ a, a < 3 ∧ w = [a]) ∨ (∃ a b, a < 3 ∧ b < 3 ∧ w = [a, b]) ∨ ∃ a b c, a < 3 ∧ b < 3 ∧ c < 3 ∧ w = [a, b, c] := by
  cases w with
  | nil => exact Or.inl rfl
  | cons a w =>
    have h1 := lok_cons.mp h
    cases w with
    | nil => exact Or.inr (Or.inl ⟨a, h1.1, rfl⟩)
    | cons b w =>
      have h2 := lok_cons.mp h1.2
      cases w with
      | nil => exact Or.inr (Or.inr (Or.inl ⟨a, b, h1.1, h2.1, rfl⟩))
      | cons c w =>
        have h3 := lok_cons.mp h2.2
        cases w with
        | nil => exact Or.inr (Or.inr (Or.inr ⟨a, b, c, h1.1, h2.1, h3.1, rfl⟩))
        | cons d w =>
          simp only [List.length_cons] at hl
          omega
theorem rkw_lt {w : List Nat} (h : lok w) (hl : w.length ≤ 3) : rkw w < 40 := by
  rcases w3_cases h hl with rfl | ⟨a, ha, rfl⟩ | ⟨a, b, ha, hb, rfl⟩ | ⟨a, b, c, ha, hb, hc, rfl⟩
  · show 0 < 40
    omega
  · show 1 + a < 40
    omega
  · show 4 + 3 * a + b < 40
    omega
  · show 13 + 9 * a + 3 * b + c < 40
    omega
theorem rkw_enc {w v : List Nat} (h : lok w) (hl : w.length ≤ 3) (g : lok v) (gl : v.length ≤ 3) (e : rkw w = rkw v) : enc w = enc v := by
  rcases w3_cases h hl with rfl | ⟨a, ha, rfl⟩ | ⟨a, b, ha, hb, rfl⟩ | ⟨a, b, c, ha, hb, hc, rfl⟩ <;>
  rcases w3_cases g gl with rfl | ⟨x, hx, rfl⟩ | ⟨x, y, hx, hy, rfl⟩ | ⟨x, y, z, hx, hy, hz, rfl⟩ <;>
  simp only [rkw] at e <;> simp only [enc] <;> omega
def rk (p : Plc) : Nat := 1600 * p.1 + 40 * rkw (p.2 0) + rkw (p.2 1)
theorem rk_lt {l : Nat} {p : Plc} (h : pcK l p) (hl : l ≤ 3) : rk p < 12800 := by
  have h1 := rkw_lt (h.2 0 (by omega)).1 (Nat.le_trans (h.2 0 (by omega)).2 hl)
  have h2 := rkw_lt (h.2 1 (by omega)).1 (Nat.le_trans (h.2 1 (by omega)).2 hl)
  have h3 := h.1
  unfold rk
  omega
theorem rk_cd {l : Nat} {p q : Plc} (h : pcK l p) (g : pcK l q) (hl : l ≤ 3) (e : rk p = rk q) : cd p = cd q := by
  have h1 := rkw_lt (h.2 0 (by omega)).1 (Nat.le_trans (h.2 0 (by omega)).2 hl)
  have h2 := rkw_lt (h.2 1 (by omega)).1 (Nat.le_trans (h.2 1 (by omega)).2 hl)
  have g1 := rkw_lt (g.2 0 (by omega)).1 (Nat.le_trans (g.2 0 (by omega)).2 hl)
  have g2 := rkw_lt (g.2 1 (by omega)).1 (Nat.le_trans (g.2 1 (by omega)).2 hl)
  unfold rk at e
  have e0 : rkw (p.2 0) = rkw (q.2 0) := by omega
  have e1 : rkw (p.2 1) = rkw (q.2 1) := by omega
  have es : p.1 = q.1 := by omega
  have f0 := rkw_enc (h.2 0 (by omega)).1 (Nat.le_trans (h.2 0 (by omega)).2 hl) (g.2 0 (by omega)).1 (Nat.le_trans (g.2 0 (by omega)).2 hl) e0
  have f1 := rkw_enc (h.2 1 (by omega)).1 (Nat.le_trans (h.2 1 (by omega)).2 hl) (g.2 1 (by omega)).1 (Nat.le_trans (g.2 1 (by omega)).2 hl) e1
  unfold cd
  rw [es, f0, f1]
/-- more than m numbers below m can't be apart -/
theorem pgn : ∀ (m n : Nat) (f : Nat → Nat), (∀ i, i < n → f i < m) → (∀ i j, i < n → j < n → f i = f j → i = j) → n ≤ m
  | 0, n, f, h, _ => by
    rcases Nat.eq_zero_or_pos n with q | q
    · omega
    · exact absurd (h 0 q) (Nat.not_lt_zero _)
  | m + 1, n, f, h, hi => by
    by_cases hx : ∃ i, i < n ∧ f i = m
    · obtain ⟨i0, h0, e0⟩ := hx
      have key := pgn m (n - 1) (fun j => if j = i0 then f (n - 1) else f j) (fun j hj => ?_) (fun a b ha hb e => ?_)
      · omega
      · show (if j = i0 then f (n - 1) else f j) < m
        by_cases z : j = i0
        · rw [if_pos z]
          have h1 := h (n - 1) (by omega)
          have h2 : f (n - 1) ≠ m := fun q => by
            have := hi (n - 1) i0 (by omega) h0 (by rw [q, e0])
            omega
          omega
        · rw [if_neg z]
          have h1 := h j (by omega)
          have h2 : f j ≠ m := fun q => z (hi j i0 (by omega) h0 (by rw [q, e0]))
          omega
      · have e : (if a = i0 then f (n - 1) else f a) = (if b = i0 then f (n - 1) else f b) := e
        by_cases za : a = i0
        · by_cases zb : b = i0
          · omega
          · rw [if_pos za, if_neg zb] at e
            have := hi (n - 1) b (by omega) (by omega) e
            omega
        · by_cases zb : b = i0
          · rw [if_neg za, if_pos zb] at e
            have := hi a (n - 1) (by omega) (by omega) e
            omega
          · rw [if_neg za, if_neg zb] at e
            exact hi a b (by omega) (by omega) e
    · have key := pgn m n f (fun i hi2 => by
        have h1 := h i hi2
        have h2 : f i ≠ m := fun q => hx ⟨i, hi2, q⟩
        omega) hi
      omega
/-- the queue, the steps by places of the queue, how many -/
abbrev Bst : Type := (Nat → Plc) × (Nat → Nat) × Nat
def bOK (l : Nat) (z : Bst) : Prop := (∀ j, j < z.2.2 → pcK l (z.1 j) ∧ z.2.1 j ≤ j) ∧ ∀ i j, i < z.2.2 → j < z.2.2 → cd (z.1 i) = cd (z.1 j) → i = j
theorem bOK_n {l : Nat} {z : Bst} (h : bOK l z) (hl : l ≤ 3) : z.2.2 ≤ 12800 :=
  pgn 12800 z.2.2 (fun j => rk (z.1 j)) (fun i hi => rk_lt (h.1 i hi).1 hl) (fun i j hi hj e => h.2 i j hi hj (rk_cd (h.1 i hi).1 (h.1 j hj).1 hl e))
def sn (Q : Nat → Plc) (n x : Nat) : Bool := decide (fbl (fun j => decide (cd (Q j) = x)) n < n)
theorem sn_t {Q : Nat → Plc} {n x : Nat} (h : sn Q n x = true) : ∃ j, j < n ∧ cd (Q j) = x := by
  have h := of_decide_eq_true h
  have h2 := fbl_yes _ _ h
  exact ⟨_, h, of_decide_eq_true h2⟩
theorem sn_f {Q : Nat → Plc} {n x : Nat} (h : sn Q n x = false) : ∀ j, j < n → cd (Q j) ≠ x := by
  have h := of_decide_eq_false h
  have h2 := fbl_le (fun j => decide (cd (Q j) = x)) n
  intro j hj
  exact of_decide_eq_false (fbl_no (fun j => decide (cd (Q j) = x)) n j (by omega))
/-- one more at the end -/
def bput (z : Bst) (h : Nat) (p : Plc) : Bst := (va_up z.1 z.2.2 p, va_up z.2.1 z.2.2 (z.2.1 h + 1), z.2.2 + 1)
theorem bOK_put {l : Nat} {z : Bst} (hz : bOK l z) {h : Nat} (hh : h < z.2.2) {p : Plc} (hp : pcK l p) (hn : sn z.1 z.2.2 (cd p) = false) : bOK l (bput z h p) := by
  have no := sn_f hn
  refine ⟨fun j hj => ?_, fun i j hi hj e => ?_⟩
  · have hj : j < z.2.2 + 1 := hj
    show pcK l (va_up z.1 z.2.2 p j) ∧ va_up z.2.1 z.2.2 (z.2.1 h + 1) j ≤ j
    by_cases q : j = z.2.2
    · rw [q, va_up_self, va_up_self]
      have := (hz.1 h hh).2
      exact ⟨hp, by omega⟩
    · rw [va_up_ne _ _ q, va_up_ne _ _ q]
      exact hz.1 j (by omega)
  · have hi : i < z.2.2 + 1 := hi
    have hj : j < z.2.2 + 1 := hj
    have e : cd (va_up z.1 z.2.2 p i) = cd (va_up z.1 z.2.2 p j) := e
    by_cases qi : i = z.2.2
    · by_cases qj : j = z.2.2
      · omega
      · rw [qi, va_up_self, va_up_ne _ _ qj] at e
        exact absurd e.symm (no j (by omega))
    · by_cases qj : j = z.2.2
      · rw [qj, va_up_self, va_up_ne _ _ qi] at e
        exact absurd e (no i (by omega))
      · rw [va_up_ne _ _ qi, va_up_ne _ _ qj] at e
        exact hz.2 i j (by omega) (by omega) e
/-- the place behind an arc, without losing -/
def nxt (bg : Nat → Bool) (ar : Nat → Nat → Nat) (l a : Nat) (p : Plc) : Option Plc :=
  if ar a 0 = p.1 then
    match behind (bg (ar a 2)) (ar a 1) (ar a 3) (p.2 (ar a 2)) with
    | none => none
    | some v => if v.length ≤ l then some (ar a 4, va_up p.2 (ar a 2) v) else none
  else none
theorem nxt_st {bg : Nat → Bool} {ar : Nat → Nat → Nat} {l a : Nat} {p : Plc} (h : ¬ ar a 0 = p.1) : nxt bg ar l a p = none := by rw [nxt, if_neg h]
theorem nxt_no {bg : Nat → Bool} {ar : Nat → Nat → Nat} {l a : Nat} {p : Plc} (h : behind (bg (ar a 2)) (ar a 1) (ar a 3) (p.2 (ar a 2)) = none) : nxt bg ar l a p = none := by
  unfold nxt
  rw [h]
  split <;> rfl
theorem nxt_lg {bg : Nat → Bool} {ar : Nat → Nat → Nat} {l a : Nat} {p : Plc} {v : List Nat} (h : behind (bg (ar a 2)) (ar a 1) (ar a 3) (p.2 (ar a 2)) = some v) (hv : ¬ v.length ≤ l) : nxt bg ar l a p = none := by
  unfold nxt
  rw [h]
  split
  · exact if_neg hv
  · rfl
theorem nxt_ok {bg : Nat → Bool} {ar : Nat → Nat → Nat} {l a : Nat} {p : Plc} {v : List Nat} (h0 : ar a 0 = p.1) (h : behind (bg (ar a 2)) (ar a 1) (ar a 3) (p.2 (ar a 2)) = some v) (hv : v.length ≤ l) : nxt bg ar l a p = some (ar a 4, va_up p.2 (ar a 2) v) := by
  unfold nxt
  rw [if_pos h0, h]
  exact if_pos hv
theorem nxt_K {bg : Nat → Bool} {ar : Nat → Nat → Nat} {N c l a : Nat} {p q : Plc} (hk : mK N c ar) (ha : a < c) (hp : pcK l p) (h : nxt bg ar l a p = some q) : pcK l q := by
  obtain ⟨g0, g1, g2, g3, g4⟩ := hk.2.2.2 a ha
  have hN := hk.2.1
  by_cases h0 : ar a 0 = p.1
  · cases e : behind (bg (ar a 2)) (ar a 1) (ar a 3) (p.2 (ar a 2)) with
    | none =>
      rw [nxt_no e] at h
      cases h
    | some v =>
      by_cases hv : v.length ≤ l
      · rw [nxt_ok h0 e hv] at h
        have h := Option.some.inj h
        rw [← h]
        refine ⟨by show ar a 4 < 8; omega, fun k hk2 => ?_⟩
        show lok (va_up p.2 (ar a 2) v k) ∧ (va_up p.2 (ar a 2) v k).length ≤ l
        by_cases z : k = ar a 2
        · rw [z, va_up_self]
          exact ⟨behind_lok (hp.2 _ g2).1 g3 e, hv⟩
        · rw [va_up_ne _ _ z]
          exact hp.2 k hk2
      · rw [nxt_lg e hv] at h
        cases h
  · rw [nxt_st h0] at h
    cases h
def bstp (bg : Nat → Bool) (ar : Nat → Nat → Nat) (l h a : Nat) (z : Bst) : Bst :=
  match nxt bg ar l a (z.1 h) with
  | none => z
  | some p => if sn z.1 z.2.2 (cd p) then z else bput z h p
theorem bstp_n {bg : Nat → Bool} {ar : Nat → Nat → Nat} {l h a : Nat} {z : Bst} (e : nxt bg ar l a (z.1 h) = none) : bstp bg ar l h a z = z := by
  simp only [bstp, e]
theorem bstp_o {bg : Nat → Bool} {ar : Nat → Nat → Nat} {l h a : Nat} {z : Bst} {p : Plc} (e : nxt bg ar l a (z.1 h) = some p) (hs : sn z.1 z.2.2 (cd p) = true) : bstp bg ar l h a z = z := by
  simp only [bstp, e, hs, if_true]
theorem bstp_p {bg : Nat → Bool} {ar : Nat → Nat → Nat} {l h a : Nat} {z : Bst} {p : Plc} (e : nxt bg ar l a (z.1 h) = some p) (hs : sn z.1 z.2.2 (cd p) = false) : bstp bg ar l h a z = bput z h p := by
  simp only [bstp, e, hs]
  exact if_neg (by decide)
def bexp (bg : Nat → Bool) (ar : Nat → Nat → Nat) (l c h : Nat) : Nat → Bst → Bst
  | 0, z => z
  | r + 1, z => bexp bg ar l c h r (bstp bg ar l h (c - (r + 1)) z)
/-- what is kept while the one at h is gone on from -/
def bKp (h : Nat) (z y : Bst) : Prop := z.2.2 ≤ y.2.2 ∧ (∀ j, j < z.2.2 → y.1 j = z.1 j ∧ y.2.1 j = z.2.1 j) ∧ ∀ j, z.2.2 ≤ j → j < y.2.2 → y.2.1 j = z.2.1 h + 1
theorem bKp.rf (h : Nat) (z : Bst) : bKp h z z := ⟨Nat.le_refl _, fun _ _ => ⟨rfl, rfl⟩, fun j a b => by omega⟩
theorem bKp.tr {h : Nat} {x y z : Bst} (hh : h < x.2.2) (a : bKp h x y) (b : bKp h y z) : bKp h x z := by
  refine ⟨Nat.le_trans a.1 b.1, fun j hj => ?_, fun j h1 h2 => ?_⟩
  · have e1 := a.2.1 j hj
    have e2 := b.2.1 j (Nat.lt_of_lt_of_le hj a.1)
    exact ⟨e2.1.trans e1.1, e2.2.trans e1.2⟩
  · rcases Nat.lt_or_ge j y.2.2 with q | q
    · rw [(b.2.1 j q).2]
      exact a.2.2 j h1 q
    · rw [b.2.2 j q h2, (a.2.1 h hh).2]
theorem bKp_put (h : Nat) (z : Bst) (p : Plc) : bKp h z (bput z h p) := by
  refine ⟨Nat.le_succ _, fun j hj => ?_, fun j h1 h2 => ?_⟩
  · show va_up z.1 z.2.2 p j = z.1 j ∧ va_up z.2.1 z.2.2 (z.2.1 h + 1) j = z.2.1 j
    rw [va_up_ne _ _ (by omega), va_up_ne _ _ (by omega)]
    exact ⟨rfl, rfl⟩
  · have h2 : j < z.2.2 + 1 := h2
    have e : j = z.2.2 := by omega
    show va_up z.2.1 z.2.2 (z.2.1 h + 1) j = _
    rw [e, va_up_self]
theorem bstp_K {bg : Nat → Bool} {ar : Nat → Nat → Nat} {N c l h a : Nat} {z : Bst} (hk : mK N c ar) (ha : a < c) (hz : bOK l z) (hh : h < z.2.2) : bOK l (bstp bg ar l h a z) ∧ bKp h z (bstp bg ar l h a z) := by
  cases e : nxt bg ar l a (z.1 h) with
  | none =>
    rw [bstp_n e]
    exact ⟨hz, bKp.rf h z⟩
  | some p =>
    cases s : sn z.1 z.2.2 (cd p) with
    | true =>
      rw [bstp_o e s]
      exact ⟨hz, bKp.rf h z⟩
    | false =>
      rw [bstp_p e s]
      exact ⟨bOK_put hz hh (nxt_K hk ha (hz.1 h hh).1 e) s, bKp_put h z p⟩
def bfs (bg : Nat → Bool) (ar : Nat → Nat → Nat) (l c sA : Nat) (wA : Nat → List Nat) : Nat → Nat → Bst → Option Nat
  | 0, _, _ => none
  | r + 1, h, z => if h < z.2.2 then (if belw sA wA (z.1 h).1 (z.1 h).2 then some (z.2.1 h) else bfs bg ar l c sA wA r (h + 1) (bexp bg ar l c h c z)) else none
def b0 (sN : Nat) (wN : Nat → List Nat) : Bst := (fun _ => (sN, wN), fun _ => 0, 1)
def strB (bg : Nat → Bool) (ar : Nat → Nat → Nat) (l c sN : Nat) (wN : Nat → List Nat) (sA : Nat) (wA : Nat → List Nat) : Option Nat := bfs bg ar l c sA wA 12800 0 (b0 sN wN)
def oI : Option Nat → Int32
  | none => -4
  | some d => nI d
theorem b0_OK {l sN : Nat} {wN : Nat → List Nat} (h : pcK l (sN, wN)) : bOK l (b0 sN wN) := by
  refine ⟨fun j hj => ⟨h, Nat.zero_le _⟩, fun i j hi hj _ => ?_⟩
  have hi : i < 1 := hi
  have hj : j < 1 := hj
  omega
/-- 0 bad, 1 not, 2 gone through -/
def stN (sN : Nat) (wN wA : Nat → List Nat) (x : Int32) : Nat := if ix x 4 then (if (wN 0).length ≤ x.toNatClampNeg ∧ (wN 1).length ≤ x.toNatClampNeg ∧ (wA 0).length ≤ x.toNatClampNeg ∧ (wA 1).length ≤ x.toNatClampNeg then 2 else 1) else 0
/-! the class -/
def wR (uw : Ob) (Q : Nat → Plc) (n : Nat) : Prop := uw.1 2 = nI n ∧ (∀ j, j < n → uw.2.1 1 j = nI (cd (Q j))) ∧ ∀ x, x < 32768 → ((uw.2.2 0 (x / 64)).toBitVec.getLsbD (x % 64) = true ↔ ∃ j, j < n ∧ cd (Q j) = x)
theorem ex_up {Q : Nat → Plc} {n y : Nat} {p : Plc} : (∃ j, j < n + 1 ∧ cd (va_up Q n p j) = y) ↔ ((∃ j, j < n ∧ cd (Q j) = y) ∨ cd p = y) := by
  constructor
  · rintro ⟨j, hj, e⟩
    by_cases z : j = n
    · rw [z, va_up_self] at e
      exact Or.inr e
    · rw [va_up_ne _ _ z] at e
      exact Or.inl ⟨j, by omega, e⟩
  · rintro (⟨j, hj, e⟩ | e)
    · exact ⟨j, by omega, by rw [va_up_ne _ _ (by omega)]; exact e⟩
    · exact ⟨n, by omega, by rw [va_up_self]; exact e⟩
theorem one_bit : ∀ k, k < 64 → ∀ i, i < 64 → (j_lshl 1 (nI k)).toBitVec.getLsbD i = decide (i = k) := by decide +kernel
theorem bit_z {x : Int64} {k : Nat} (hk : k < 64) : (x &&& j_lshl 1 (nI k)) = 0 ↔ x.toBitVec.getLsbD k = false := by
  constructor
  · intro h
    have h2 : (x &&& j_lshl 1 (nI k)).toBitVec.getLsbD k = (0 : Int64).toBitVec.getLsbD k := by rw [h]
    rw [Int64.toBitVec_and, BitVec.getLsbD_and, one_bit k hk k hk] at h2
    simpa using h2
  · intro h
    apply Int64.toBitVec_inj.1
    apply BitVec.eq_of_getLsbD_eq
    intro i hi
    rw [Int64.toBitVec_and, BitVec.getLsbD_and, one_bit k hk i hi]
    by_cases z : i = k
    · rw [z, h]
      simp
    · simp [z]
theorem bit_s {x : Int64} {k i : Nat} (hk : k < 64) (hi : i < 64) : (x ||| j_lshl 1 (nI k)).toBitVec.getLsbD i = (x.toBitVec.getLsbD i || decide (i = k)) := by
  rw [Int64.toBitVec_or, BitVec.getLsbD_or, one_bit k hk i hi]
theorem s_fillL {f : Nat → Int64} (n : Nat) (hn : n < 2 ^ 31) {post : (Nat → Int64) → Prop} (h : ∀ g : Nat → Int64, (∀ i, i < n → g i = 0) → post g) : wp_J7_fill_d0a16 n f 0 post := by
  unfold wp_J7_fill_d0a16
  refine lq2_m (fun m x g => ∃ i, i + m = n ∧ x = nI i ∧ ∀ j, j < i → g j = 0) ?_ n 0 f ⟨0, by omega, rfl, fun j hj => absurd hj (Nat.not_lt_zero j)⟩
  rintro LL m x g ⟨i, hi, rfl, hg⟩ ih
  refine pk_le n i (fun hc => h g (fun j hj => hg j (by omega))) (fun hc => ⟨vp_in_nI hc hn, fun g2 e2 => ?_⟩)
  rw [nI_clamp (by omega)] at e2
  refine ih (m - 1) _ _ (by omega) ⟨i + 1, by omega, nI_1 i, fun j hj => ?_⟩
  rw [e2]
  by_cases z : j = i
  · simp [vp_updL, z]
  · simp only [vp_updL, if_neg z]
    exact hg j (by omega)
theorem sh6 {n : Nat} (h : n * 2 ^ 6 < 2 ^ 32) : nI n <<< ((6 : Int32) &&& 31) = nI (2 ^ 6 * n) := by
  rw [Nat.mul_comm]
  exact pk_shlN ((6 : Int32) &&& 31) 6 (by decide) h
theorem cd_bits {l : Nat} {p : Plc} (h : pcK l p) (hl : l ≤ 3) : ((((nI p.1 <<< ((6 : Int32) &&& 31)) ||| nI (enc (p.2 0))) <<< ((6 : Int32) &&& 31)) ||| nI (enc (p.2 1))) = nI (cd p) := by
  obtain ⟨h1, h2, h3⟩ := h.e hl
  rw [sh6 (by omega), fa_or_sum (k := 6) p.1 (by omega), sh6 (by omega), fa_or_sum (k := 6) _ (by omega)]
  congr 1
  unfold cd
  omega
theorem cd_hi {l : Nat} {p : Plc} (h : pcK l p) (hl : l ≤ 3) : nI (cd p) >>> ((6 : Int32) &&& 31) = nI (cd p / 64) := by
  have := cd_lt h hl
  exact pk_shrN (by omega) ((6 : Int32) &&& 31) 6 (by decide)
theorem cd_lo {l : Nat} {p : Plc} (h : pcK l p) (hl : l ≤ 3) : nI (cd p) &&& 63 = nI (cd p % 64) := by
  have := cd_lt h hl
  exact pk_andN (by omega) (m := 63) 6 (by decide)
theorem s_wadd {uw : Ob} {Q : Nat → Plc} {n l : Nat} (hw : wR uw Q n) (hl : l ≤ 3) {p : Plc} (hp : pcK l p) (hn : sn Q n (cd p) = false → n < 12800) {post : Ob → Prop} (h1 : sn Q n (cd p) = true → post uw) (h0 : sn Q n (cd p) = false → ∀ v, wR v (va_up Q n p) (n + 1) → post v) : wp_X5_add uw (nI p.1) (nI (enc (p.2 0))) (nI (enc (p.2 1))) post := by
  have hlt := cd_lt hp hl
  have h64 : cd p % 64 < 64 := Nat.mod_lt _ (by decide)
  unfold wp_X5_add
  rw [cd_bits hp hl, cd_hi hp hl, cd_lo hp hl, nI_clamp (by omega)]
  have i1 : vp_in (nI (cd p / 64)) 512 := vp_in_nI (by omega) (by omega)
  have hs := hw.2.2 (cd p) hlt
  rw [lg_cmp_eq, bit_z h64]
  refine ⟨i1, fun z => ?_, fun z => ?_⟩
  · refine h1 ?_
    obtain ⟨j, hj, e⟩ := hs.1 (by simpa using z)
    cases y : sn Q n (cd p) with
    | true => rfl
    | false => exact absurd e (sn_f y j hj)
  · have y : sn Q n (cd p) = false := by
      cases y : sn Q n (cd p) with
      | false => rfl
      | true =>
        have := hs.2 (sn_t y)
        rw [z] at this
        cases this
    have hn := hn y
    rw [hw.1]
    refine pk_le 12800 n (fun hc => by omega) (fun hc => ⟨i1, i1, fun u6 e6 => ?_⟩)
    have f6 : u6.1 2 = nI n := by
      rw [e6]
      exact hw.1
    rw [f6, nI_clamp (by omega)]
    refine ⟨vp_in_nI hc (by omega), fun u8 e8 u9 e9 => h0 y u9 ⟨?_, fun j hj => ?_, fun x hx => ?_⟩⟩
    · rw [e9, ob_is, e8]
      show u6.1 2 + 1 = _
      rw [f6]
      exact nI_1 n
    · rw [e9]
      show u8.2.1 1 j = _
      rw [e8, ob_as]
      by_cases q : j = n
      · rw [q, up_s, va_up_self]
      · rw [up_o _ _ q, va_up_ne _ _ q, e6]
        exact hw.2.1 j (by omega)
    · rw [ex_up, ← hw.2.2 x hx]
      have b9 : u9.2.2 0 = vp_updL (uw.2.2 0) (cd p / 64) ((uw.2.2 0 (cd p / 64)) ||| (j_lshl 1 (nI (cd p % 64)))) := by
        rw [e9]
        show u8.2.2 0 = _
        rw [e8]
        show u6.2.2 0 = _
        rw [e6]
        rfl
      rw [b9]
      have x64 : x % 64 < 64 := Nat.mod_lt _ (by decide)
      by_cases q : x / 64 = cd p / 64
      · simp only [vp_updL, if_pos q]
        rw [bit_s h64 x64, q]
        simp only [Bool.or_eq_true, decide_eq_true_eq]
        have e1 : x % 64 = cd p % 64 ↔ cd p = x := by omega
        rw [e1]
      · simp only [vp_updL, if_neg q]
        have e1 : ¬ cd p = x := fun w => q (by rw [w])
        simp [e1]
theorem s_wordOf {l : Nat} {p : Plc} (hp : pcK l p) (hl : l ≤ 3) {k : Nat} (hk : k < 2) {post : Int32 → Prop} (h : post (nI (enc (p.2 k)))) : wp_X5_wordOf (nI (cd p)) (nI k) post := by
  have hlt := cd_lt hp hl
  have h64 : cd p / 64 < 2 ^ 31 := by omega
  unfold wp_X5_wordOf
  rw [cd_lo hp hl, cd_hi hp hl, pk_andN (n := cd p / 64) (by omega) (m := 63) 6 (by decide)]
  rcases (show k = 0 ∨ k = 1 by omega) with rfl | rfl
  · refine ⟨fun z => absurd (by rfl) z, fun _ => ?_⟩
    have e := cd_0 hp hl
    rw [show (2 : Nat) ^ 6 = 64 from rfl, e]
    exact h
  · refine ⟨fun _ => ?_, fun z => absurd z (by decide)⟩
    rw [cd_1 hp hl]
    exact h
theorem cd_st {l : Nat} {p : Plc} (h : pcK l p) (hl : l ≤ 3) : nI (cd p) >>> ((12 : Int32) &&& 31) = nI p.1 := by
  have := cd_lt h hl
  have e := pk_shrN (n := cd p) (by omega) ((12 : Int32) &&& 31) 12 (by decide)
  rw [e, show (2 : Nat) ^ 12 = 4096 from rfl, cd_s h hl]
theorem s_isAimed {ug : Ob} {N sA : Nat} {wA : Nat → List Nat} (hg : plR ug sA wA) (hA : plK N sA wA) (hN : N ≤ 8) {l : Nat} {p : Plc} (hp : pcK l p) (hl : l ≤ 3) {post : Int32 → Prop} (h : post (bI (belw sA wA p.1 p.2))) : wp_X5_isAimed ug (nI (cd p)) post := by
  have hst := hA.1
  have hps := hp.1
  unfold wp_X5_isAimed wp_X5_stateOf
  rw [cd_st hp hl, hg.1]
  have z0 : ug.2.1 1 (0 : Int32).toNatClampNeg = nI (enc (wA 0)) := hg.2 0 (by omega)
  have z1 : ug.2.1 1 (1 : Int32).toNatClampNeg = nI (enc (wA 1)) := hg.2 1 (by omega)
  rw [z0, z1]
  have a0 := hA.2 0 (by omega)
  have a1 := hA.2 1 (by omega)
  have p0 := hp.2 0 (by omega)
  have p1 := hp.2 1 (by omega)
  refine pk_ne p.1 sA (fun q => ?_) (fun q => ⟨in0_2, ?_⟩)
  · have e : belw sA wA p.1 p.2 = false := by
      have q2 : ¬ sA = p.1 := fun w => q w.symm
      simp [belw, q2]
    rw [e] at h
    exact h
  refine s_wordOf (k := 0) hp hl (by omega) ?_
  refine s_isIn a0.1 (by omega) p0.1 (by omega) ?_
  refine bI_if (fun g => ?_) (fun g => ⟨in1_2, ?_⟩)
  · have e : belw sA wA p.1 p.2 = false := by simp [belw, g]
    rw [e] at h
    exact h
  refine s_wordOf (k := 1) hp hl (by omega) ?_
  refine s_isIn a1.1 (by omega) p1.1 (by omega) ?_
  refine bI_if (fun g2 => ?_) (fun g2 => ?_)
  · have e : belw sA wA p.1 p.2 = false := by simp [belw, g2]
    rw [e] at h
    exact h
  · have e : belw sA wA p.1 p.2 = true := by simp [belw, g, g2, q]
    rw [e] at h
    exact h
theorem s_goBy {uw um : Ob} {N c : Nat} {bg : Nat → Bool} {ar : Nat → Nat → Nat} (hm : mR um N c bg ar) (hk : mK N c ar) {a l : Nat} (ha : a < c) (hl : l ≤ 3) {p : Plc} (hp : pcK l p) (hst : ar a 0 = p.1) {post : Ob → Prop} (h0 : nxt bg ar l a p = none → post uw) (h1 : ∀ q : Plc, nxt bg ar l a p = some q → wp_X5_add uw (nI q.1) (nI (enc (q.2 0))) (nI (enc (q.2 1))) post) : wp_X5_goBy uw um (nI a) (nI (cd p)) (nI l) post := by
  obtain ⟨g0, g1, g2, g3, g4⟩ := hk.2.2.2 a ha
  have hw := hp.2 (ar a 2) g2
  unfold wp_X5_goBy
  refine s_part hm hk 2 ha (by omega) ?_
  refine s_wordOf hp hl g2 ?_
  refine s_wordBehind hm hk ha hw.1 (by omega) (fun v e => ?_) (fun e => ⟨fun _ => h0 (nxt_no e), fun z => absurd (by rfl) z⟩)
  have vl := behind_len e
  have vk := behind_lok hw.1 g3 e
  refine ⟨fun z => absurd z (nI_enc_ne vk (by omega)), fun _ => ?_⟩
  refine s_isLonger vk (by omega) (by omega) (fun hv => ?_) (fun hv => ⟨fun z => absurd z (by decide), fun _ => h0 (nxt_lg e (by omega))⟩)
  refine ⟨fun _ => ?_, fun z => absurd (by rfl) z⟩
  refine s_part hm hk 4 ha (by omega) ?_
  simp only [jn]
  have q := h1 _ (nxt_ok hst e hv)
  have q0 : ar a 2 = 0 → va_up p.2 (ar a 2) v 0 = v ∧ va_up p.2 (ar a 2) v 1 = p.2 1 := fun z => by
    rw [z, va_up_self, va_up_ne _ _ (by decide)]
    exact ⟨rfl, rfl⟩
  have q1 : ar a 2 = 1 → va_up p.2 (ar a 2) v 1 = v ∧ va_up p.2 (ar a 2) v 0 = p.2 0 := fun z => by
    rw [z, va_up_self, va_up_ne _ _ (by decide)]
    exact ⟨rfl, rfl⟩
  have q : wp_X5_add uw (nI (ar a 4)) (nI (enc (va_up p.2 (ar a 2) v 0))) (nI (enc (va_up p.2 (ar a 2) v 1))) post := q
  refine pk_ne (ar a 2) 0 (fun z => ?_) (fun z => ?_)
  · have z1 : ar a 2 = 1 := by omega
    rw [(q1 z1).1, (q1 z1).2] at q
    refine s_wordOf (k := 0) hp hl (by omega) ?_
    exact pk_ne (ar a 2) 1 (fun y => absurd z1 y) (fun _ => q)
  · rw [(q0 z).1, (q0 z).2] at q
    exact pk_ne (ar a 2) 1 (fun y => s_wordOf (k := 1) hp hl (by omega) q) (fun y => by omega)
theorem bOK_room {l : Nat} {z : Bst} (hz : bOK l z) (hl : l ≤ 3) {h : Nat} (hh : h < z.2.2) {p : Plc} (hp : pcK l p) (hn : sn z.1 z.2.2 (cd p) = false) : z.2.2 < 12800 := bOK_n (bOK_put hz hh hp hn) hl
theorem s_goOn {uw um : Ob} {N c : Nat} {bg : Nat → Bool} {ar : Nat → Nat → Nat} (hm : mR um N c bg ar) (hk : mK N c ar) {l h : Nat} (hl : l ≤ 3) {z : Bst} (hw : wR uw z.1 z.2.2) (hz : bOK l z) (hh : h < z.2.2) {post : Ob → Prop} (h1 : ∀ v, wR v (bexp bg ar l c h c z).1 (bexp bg ar l c h c z).2.2 → bOK l (bexp bg ar l c h c z) → bKp h z (bexp bg ar l c h c z) → post v) : wp_X5_goOn uw um (nI (cd (z.1 h))) (nI l) post := by
  have hc := hk.2.2.1
  unfold wp_X5_goOn
  rw [hm.2.1]
  refine lq2_m (fun m x v => ∃ (a : Nat) (y : Bst), a + m = c ∧ x = nI a ∧ wR v y.1 y.2.2 ∧ bOK l y ∧ bKp h z y ∧ bexp bg ar l c h c z = bexp bg ar l c h m y) ?_ c 0 uw ⟨0, z, by omega, rfl, hw, hz, bKp.rf h z, rfl⟩
  rintro LL m x v ⟨a, y, ham, rfl, hy, oy, ky, he⟩ ih
  refine pk_le c a (fun hd => ?_) (fun hd => ?_)
  · have e : m = 0 := by omega
    rw [e] at he
    have he : bexp bg ar l c h c z = y := he
    rw [he] at h1
    exact h1 v hy oy ky
  have hp := (hz.1 h hh).1
  have hyh : h < y.2.2 := Nat.lt_of_lt_of_le hh ky.1
  have yp : y.1 h = z.1 h := (ky.2.1 h hh).1
  obtain ⟨g0, g1, g2, g3, g4⟩ := hk.2.2.2 a hd
  have hN := hk.2.1
  have hp8 := hp.1
  obtain ⟨r, rfl⟩ : ∃ r, m = r + 1 := ⟨m - 1, by omega⟩
  have ea : c - (r + 1) = a := by omega
  rw [bexp, ea] at he
  obtain ⟨o2, k2⟩ := bstp_K (bg := bg) hk hd oy hyh
  have k3 := bKp.tr hh ky k2
  refine s_part hm hk 0 hd (by omega) ?_
  unfold wp_X5_stateOf
  rw [cd_st hp hl]
  have nochange : nxt bg ar l a (z.1 h) = none → LL (nI a + 1) v := by
    intro e
    rw [← yp] at e
    rw [bstp_n e] at he
    exact ih r _ _ (by omega) ⟨a + 1, y, by omega, nI_1 a, hy, oy, ky, he⟩
  refine pk_ne (ar a 0) (z.1 h).1 (fun q => nochange (nxt_st q)) (fun q => ?_)
  refine s_goBy hm hk hd hl hp q nochange (fun p e => ?_)
  have hpk := nxt_K hk hd hp e
  rw [← yp] at e
  refine s_wadd hy hl hpk (fun s => bOK_room oy hl hyh hpk s) (fun s => ?_) (fun s w hw2 => ?_)
  · rw [bstp_o e s] at he
    exact ih r _ _ (by omega) ⟨a + 1, y, by omega, nI_1 a, hy, oy, ky, he⟩
  · rw [bstp_p e s] at he o2 k3
    exact ih r _ _ (by omega) ⟨a + 1, bput y h p, by omega, nI_1 a, hw2, o2, k3, he⟩
theorem s_fewest {uw um uh ug : Ob} {N c : Nat} {bg : Nat → Bool} {ar : Nat → Nat → Nat} {sN : Nat} {wN : Nat → List Nat} {sA : Nat} {wA : Nat → List Nat} (hm : mR um N c bg ar) (hk : mK N c ar) (hh : plR uh sN wN) (hg : plR ug sA wA) (hA : plK N sA wA) {l : Nat} (hl : l ≤ 3) (hp : pcK l (sN, wN)) {post : Int32 → Ob → Prop} (h : ∀ v, post (oI (strB bg ar l c sN wN sA wA)) v) : wp_X5_fewest uw um uh ug (nI l) post := by
  have hN := hk.2.1
  unfold wp_X5_fewest
  refine s_fillL 512 (by decide) (fun f hf u2 e2 u3 e3 => ?_)
  have z0 : uh.2.1 1 (0 : Int32).toNatClampNeg = nI (enc (wN 0)) := hh.2 0 (by omega)
  have z1 : uh.2.1 1 (1 : Int32).toNatClampNeg = nI (enc (wN 1)) := hh.2 1 (by omega)
  rw [z0, z1, hh.1]
  refine ⟨in0_2, in1_2, ?_⟩
  have w3 : wR u3 (fun _ => (sN, wN)) 0 := by
    refine ⟨?_, fun j hj => absurd hj (Nat.not_lt_zero j), fun x hx => ⟨fun b => ?_, fun ⟨j, hj, _⟩ => absurd hj (Nat.not_lt_zero j)⟩⟩
    · rw [e3, ob_is]
      rfl
    · have b3 : u3.2.2 0 = f := by
        rw [e3]
        show u2.2.2 0 = _
        rw [e2]
        rfl
      rw [b3, hf _ (by omega)] at b
      have b0 : (0 : Int64).toBitVec.getLsbD (x % 64) = false := by simp
      rw [b0] at b
      cases b
  refine s_wadd (p := (sN, wN)) w3 hl hp (fun _ => by omega) (fun s => ?_) (fun s u6 w6 => ?_)
  · obtain ⟨j, hj, _⟩ := sn_t s
    exact absurd hj (Nat.not_lt_zero j)
  have w6 : wR u6 (b0 sN wN).1 (b0 sN wN).2.2 := by
    refine ⟨w6.1, fun j hj => ?_, fun x hx => (w6.2.2 x hx).trans ⟨fun ⟨j, hj, e⟩ => ⟨j, hj, ?_⟩, fun ⟨j, hj, e⟩ => ⟨j, hj, ?_⟩⟩⟩
    · have hj : j < 1 := hj
      have j0 : j = 0 := by omega
      rw [w6.2.1 j hj, j0, va_up_self]
      rfl
    · have j0 : j = 0 := by omega
      rw [j0, va_up_self] at e
      exact e
    · have hj : j < 1 := hj
      have j0 : j = 0 := by omega
      rw [j0, va_up_self]
      exact e
  refine lq3_m (fun m x y v => ∃ (s hd : Nat) (z : Bst), s + m = 12800 ∧ x = nI s ∧ y = nI hd ∧ s ≤ hd ∧ hd ≤ z.2.2 ∧ wR v z.1 z.2.2 ∧ bOK l z ∧ (∀ j, hd ≤ j → j < z.2.2 → z.2.1 j = s) ∧ strB bg ar l c sN wN sA wA = bfs bg ar l c sA wA (12800 - hd) hd z) ?_ 12800 0 0 u6 ⟨0, 0, b0 sN wN, rfl, rfl, rfl, Nat.le_refl _, Nat.zero_le _, w6, b0_OK hp, fun j _ _ => rfl, rfl⟩
  rintro LL m x y v ⟨s, hd, z, hsm, rfl, rfl, hsh, hhn, hw, hz, hlev, he⟩ ih
  have hn := bOK_n hz hl
  rw [hw.1]
  have done : z.2.2 ≤ hd → post (-4) v := by
    intro q
    have e : strB bg ar l c sN wN sA wA = none := by
      rw [he]
      cases r : 12800 - hd with
      | zero => rfl
      | succ r => rw [bfs, if_neg (by omega)]
    rw [e] at h
    exact h v
  refine pk_le 12800 s (fun hc => done (by omega)) (fun hc => ?_)
  refine pk_le z.2.2 hd (fun hc2 => done hc2) (fun hc2 => ?_)
  refine lq2_m (fun m2 x2 v2 => ∃ (k : Nat) (y : Bst), k + m2 = z.2.2 ∧ x2 = nI k ∧ hd ≤ k ∧ z.2.2 ≤ y.2.2 ∧ wR v2 y.1 y.2.2 ∧ bOK l y ∧ (∀ j, k ≤ j → j < z.2.2 → y.2.1 j = s) ∧ (∀ j, z.2.2 ≤ j → j < y.2.2 → y.2.1 j = s + 1) ∧ strB bg ar l c sN wN sA wA = bfs bg ar l c sA wA (12800 - k) k y) ?_ (z.2.2 - hd) (nI hd) v ⟨hd, z, by omega, rfl, Nat.le_refl _, Nat.le_refl _, hw, hz, hlev, fun j a b => by omega, he⟩
  rintro LL2 m2 x2 v2 ⟨k, y, hkm, rfl, hk1, hny, hwy, hy, hl1, hl2, hey⟩ ih2
  have hny2 := bOK_n hy hl
  refine pk_le z.2.2 k (fun hd1 => ?_) (fun hd1 => ?_)
  · have ek : k = z.2.2 := by omega
    refine ih (m - 1) _ _ _ (by omega) ⟨s + 1, k, y, by omega, nI_1 s, rfl, by omega, by omega, hwy, hy, fun j a b => hl2 j (by omega) b, hey⟩
  · have hky : k < y.2.2 := by omega
    have hpk := (hy.1 k hky).1
    obtain ⟨r, hr⟩ : ∃ r, 12800 - k = r + 1 := ⟨12799 - k, by omega⟩
    have hr2 : 12800 - (k + 1) = r := by omega
    rw [hr, bfs, if_pos hky] at hey
    rw [nI_clamp (by omega), hwy.2.1 k hky]
    refine ⟨vp_in_nI (by omega) (by omega), ?_⟩
    refine s_isAimed hg hA hN hpk hl ?_
    refine bI_if (fun g => ⟨vp_in_nI (by omega) (by omega), ?_⟩) (fun g => ?_)
    · rw [g, if_neg (by decide)] at hey
      refine s_goOn hm hk hl hwy hy hky (fun v3 w3 o3 k3 => ?_)
      refine ih2 (m2 - 1) _ _ (by omega) ⟨k + 1, _, by omega, nI_1 k, by omega, Nat.le_trans hny k3.1, w3, o3, fun j a b => ?_, fun j a b => ?_, ?_⟩
      · rw [(k3.2.1 j (by omega)).2]
        exact hl1 j (by omega) b
      · rcases Nat.lt_or_ge j y.2.2 with q | q
        · rw [(k3.2.1 j q).2]
          exact hl2 j a q
        · rw [k3.2.2 j q b, hl1 k (Nat.le_refl _) hd1]
      · rw [hey, hr2]
    · rw [g, if_pos rfl, hl1 k (Nat.le_refl _) hd1] at hey
      rw [hey] at h
      exact h v2
theorem s_isLong {uh : Ob} {N sN : Nat} {wN : Nat → List Nat} (hh : plR uh sN wN) (hp : plK N sN wN) {l : Nat} (hl : l ≤ 3) {post : Int32 → Prop} (h0 : (wN 0).length ≤ l ∧ (wN 1).length ≤ l → post 0) (h1 : ¬ ((wN 0).length ≤ l ∧ (wN 1).length ≤ l) → post 1) : wp_X1_isLonger uh (nI l) post := by
  unfold wp_X1_isLonger
  have z0 : uh.2.1 1 (0 : Int32).toNatClampNeg = nI (enc (wN 0)) := hh.2 0 (by omega)
  have z1 : uh.2.1 1 (1 : Int32).toNatClampNeg = nI (enc (wN 1)) := hh.2 1 (by omega)
  rw [z0, z1]
  have a0 := hp.2 0 (by omega)
  have a1 := hp.2 1 (by omega)
  refine ⟨in0_2, ?_⟩
  refine s_isLonger a0.1 (by omega) (by omega) (fun q => ⟨fun z => absurd (by rfl) z, fun _ => ⟨in1_2, ?_⟩⟩) (fun q => ⟨fun _ => h1 (by omega), fun z => absurd z (by decide)⟩)
  exact s_isLonger a1.1 (by omega) (by omega) (fun q2 => ⟨fun _ => h0 ⟨q, q2⟩, fun z => absurd (by rfl) z⟩) (fun q2 => ⟨fun z => absurd z (by decide), fun _ => h1 (by omega)⟩)
theorem c_strict {uf um uh ug uw : Ob} {N c : Nat} {bg : Nat → Bool} {ar : Nat → Nat → Nat} {sN : Nat} {wN : Nat → List Nat} {sA : Nat} {wA : Nat → List Nat} (hm : mR um N c bg ar) (hk : mK N c ar) (hh : plR uh sN wN) (hpn : plK N sN wN) (hg : plR ug sA wA) (hA : plK N sA wA) {x : Int32} {post : Int32 → Ob → Prop}
    (h2 : stN sN wN wA x = 2 → ∀ v, post (oI (strB bg ar x.toNatClampNeg c sN wN sA wA)) v) (h1 : stN sN wN wA x = 1 → post (-2) uw) (h0 : stN sN wN wA x = 0 → post (-1) uw) : wp_X7_strict uf um uh ug uw x post := by
  have hN := hk.2.1
  have hst := hpn.1
  unfold wp_X7_strict
  rw [ilt x, ile x, show (0 : Int32).toInt = 0 from rfl, show (3 : Int32).toInt = 3 from rfl]
  have bad : ix x 4 = false → post (-1) uw := fun e => h0 (by rw [stN, e]; rfl)
  refine ⟨fun z => bad (decide_eq_false (by omega)), fun z => ⟨fun z2 => ?_, fun z2 => bad (decide_eq_false (by omega))⟩⟩
  have e : ix x 4 = true := decide_eq_true (by omega)
  obtain ⟨l, hl4, rfl⟩ := ix_t (by decide) e
  have hl : l ≤ 3 := by omega
  unfold stN at h2 h1
  rw [e, nI_clamp (by omega), if_pos rfl] at h2 h1
  refine s_isLong hh hpn hl (fun q => ⟨fun y => absurd (by rfl) y, fun _ => ?_⟩) (fun q => ⟨fun _ => h1 (if_neg (fun w => q ⟨w.1, w.2.1⟩)), fun y => absurd y (by decide)⟩)
  refine s_isLong hg hA hl (fun q2 => ⟨fun _ => ?_, fun y => absurd (by rfl) y⟩) (fun q2 => ⟨fun y => absurd y (by decide), fun _ => h1 (if_neg (fun w => q2 ⟨w.2.2.1, w.2.2.2⟩))⟩)
  have h2 := h2 (if_pos ⟨q.1, q.2, q2.1, q2.2⟩)
  refine s_fewest hm hk hh hg hA hl ⟨by show sN < 8; omega, fun k hk2 => ⟨(hpn.2 k hk2).1, ?_⟩⟩ h2
  show (wN k).length ≤ l
  rcases (show k = 0 ∨ k = 1 by omega) with rfl | rfl
  · exact q.1
  · exact q.2
