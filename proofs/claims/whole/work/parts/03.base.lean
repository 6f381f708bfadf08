/-- the state of an object: its numbers, its rows of ints, its rows of longs, by the places of their fields -/
abbrev Ob : Type := (Nat → Int32) × (Nat → Nat → Int32) × (Nat → Nat → Int64)
def fs_i (u : Ob) (k : Nat) (v : Int32) : Ob := (upd u.1 k v, u.2)
def fs_a (u : Ob) (k : Nat) (f : Nat → Int32) : Ob := (u.1, fun j => if j = k then f else u.2.1 j, u.2.2)
def fs_l (u : Ob) (k : Nat) (f : Nat → Int64) : Ob := (u.1, u.2.1, fun j => if j = k then f else u.2.2 j)
def j_ushr (x y : Int32) : Int32 := (x.toUInt32 >>> (y.toUInt32 &&& Int32.toUInt32 31)).toInt32
def j_lushr (x : Int64) (y : Int32) : Int64 := (x.toUInt64 >>> (y.toInt64.toUInt64 &&& Int64.toUInt64 63)).toInt64
def j_lshr (x : Int64) (y : Int32) : Int64 := x >>> (y.toInt64 &&& 63)
def j_lshl (x : Int64) (y : Int32) : Int64 := x <<< (y.toInt64 &&& 63)
def j_rem (x y : Int32) : Int32 := x - x / y * y
def zb (r : Int32) : Prop := narrow .boolean (.int r) = .int r
def jn {J : Type} (rest : J) (f : J → Prop) : Prop := f rest
def lq1 {A1 : Type} (body : (A1 → Prop) → A1 → Prop) : Nat → A1 → Prop
  | 0 => fun _ => False
  | n + 1 => body (lq1 body n)
theorem lq1_ind {A1 : Type} {body : (A1 → Prop) → A1 → Prop} {GG : A1 → Prop} (hs : ∀ (LL : A1 → Prop), (∀ (a1 : A1), LL a1 → GG a1) → ∀ (a1 : A1), body LL a1 → GG a1) : ∀ (n : Nat) (a1 : A1), lq1 body n a1 → GG a1 := by
  intro n
  induction n with
  | zero => intro a1 h; exact h.elim
  | succ n ih => exact hs (lq1 body n) ih
theorem lq1_of {A1 : Type} {body : (A1 → Prop) → A1 → Prop} (II : A1 → Prop) (mu : A1 → Nat) (hs : ∀ (LL : A1 → Prop) (a1 : A1), II a1 → (∀ (b1 : A1), II b1 → mu b1 < mu a1 → LL b1) → body LL a1) : ∀ (a1 : A1), II a1 → ∃ n : Nat, lq1 body n a1 := by
  have key : ∀ (n : Nat) (a1 : A1), II a1 → mu a1 < n → lq1 body n a1 := by
    intro n
    induction n with
    | zero => intro a1 _ h; exact absurd h (Nat.not_lt_zero _)
    | succ n ih => intro a1 hi hm; exact hs (lq1 body n) a1 hi (fun b1 h1 h2 => ih b1 h1 (by omega))
  intro a1 h
  exact ⟨_, key _ a1 h (Nat.lt_succ_self _)⟩
theorem lq1_m {A1 : Type} {body : (A1 → Prop) → A1 → Prop} (II : Nat → A1 → Prop) (hs : ∀ (LL : A1 → Prop) (m : Nat) (a1 : A1), II m a1 → (∀ (m2 : Nat) (b1 : A1), m2 < m → II m2 b1 → LL b1) → body LL a1) : ∀ (m : Nat) (a1 : A1), II m a1 → ∃ n : Nat, lq1 body n a1 := by
  have key : ∀ (n m : Nat) (a1 : A1), m < n → II m a1 → lq1 body n a1 := by
    intro n
    induction n with
    | zero => intro m a1 h; exact absurd h (Nat.not_lt_zero _)
    | succ n ih => intro m a1 hm hi; exact hs (lq1 body n) m a1 hi (fun m2 b1 h1 h2 => ih m2 b1 (by omega) h2)
  intro m a1 h
  exact ⟨_, key (m + 1) m a1 (Nat.lt_succ_self _) h⟩
theorem jn1_ind {A1 : Type} {rest : A1 → Prop} {f : (A1 → Prop) → Prop} {GG : A1 → Prop} {TT : Prop} (h : jn rest f) (hr : ∀ (a1 : A1), rest a1 → GG a1) (hf : ∀ (JJ : A1 → Prop), (∀ (a1 : A1), JJ a1 → GG a1) → f JJ → TT) : TT := hf rest hr h
def lq2 {A1 A2 : Type} (body : (A1 → A2 → Prop) → A1 → A2 → Prop) : Nat → A1 → A2 → Prop
  | 0 => fun _ _ => False
  | n + 1 => body (lq2 body n)
theorem lq2_ind {A1 A2 : Type} {body : (A1 → A2 → Prop) → A1 → A2 → Prop} {GG : A1 → A2 → Prop} (hs : ∀ (LL : A1 → A2 → Prop), (∀ (a1 : A1) (a2 : A2), LL a1 a2 → GG a1 a2) → ∀ (a1 : A1) (a2 : A2), body LL a1 a2 → GG a1 a2) : ∀ (n : Nat) (a1 : A1) (a2 : A2), lq2 body n a1 a2 → GG a1 a2 := by
  intro n
  induction n with
  | zero => intro a1 a2 h; exact h.elim
  | succ n ih => exact hs (lq2 body n) ih
theorem lq2_of {A1 A2 : Type} {body : (A1 → A2 → Prop) → A1 → A2 → Prop} (II : A1 → A2 → Prop) (mu : A1 → A2 → Nat) (hs : ∀ (LL : A1 → A2 → Prop) (a1 : A1) (a2 : A2), II a1 a2 → (∀ (b1 : A1) (b2 : A2), II b1 b2 → mu b1 b2 < mu a1 a2 → LL b1 b2) → body LL a1 a2) : ∀ (a1 : A1) (a2 : A2), II a1 a2 → ∃ n : Nat, lq2 body n a1 a2 := by
  have key : ∀ (n : Nat) (a1 : A1) (a2 : A2), II a1 a2 → mu a1 a2 < n → lq2 body n a1 a2 := by
    intro n
    induction n with
    | zero => intro a1 a2 _ h; exact absurd h (Nat.not_lt_zero _)
    | succ n ih => intro a1 a2 hi hm; exact hs (lq2 body n) a1 a2 hi (fun b1 b2 h1 h2 => ih b1 b2 h1 (by omega))
  intro a1 a2 h
  exact ⟨_, key _ a1 a2 h (Nat.lt_succ_self _)⟩
theorem lq2_m {A1 A2 : Type} {body : (A1 → A2 → Prop) → A1 → A2 → Prop} (II : Nat → A1 → A2 → Prop) (hs : ∀ (LL : A1 → A2 → Prop) (m : Nat) (a1 : A1) (a2 : A2), II m a1 a2 → (∀ (m2 : Nat) (b1 : A1) (b2 : A2), m2 < m → II m2 b1 b2 → LL b1 b2) → body LL a1 a2) : ∀ (m : Nat) (a1 : A1) (a2 : A2), II m a1 a2 → ∃ n : Nat, lq2 body n a1 a2 := by
  have key : ∀ (n m : Nat) (a1 : A1) (a2 : A2), m < n → II m a1 a2 → lq2 body n a1 a2 := by
    intro n
    induction n with
    | zero => intro m a1 a2 h; exact absurd h (Nat.not_lt_zero _)
    | succ n ih => intro m a1 a2 hm hi; exact hs (lq2 body n) m a1 a2 hi (fun m2 b1 b2 h1 h2 => ih m2 b1 b2 (by omega) h2)
  intro m a1 a2 h
  exact ⟨_, key (m + 1) m a1 a2 (Nat.lt_succ_self _) h⟩
theorem jn2_ind {A1 A2 : Type} {rest : A1 → A2 → Prop} {f : (A1 → A2 → Prop) → Prop} {GG : A1 → A2 → Prop} {TT : Prop} (h : jn rest f) (hr : ∀ (a1 : A1) (a2 : A2), rest a1 a2 → GG a1 a2) (hf : ∀ (JJ : A1 → A2 → Prop), (∀ (a1 : A1) (a2 : A2), JJ a1 a2 → GG a1 a2) → f JJ → TT) : TT := hf rest hr h
def lq3 {A1 A2 A3 : Type} (body : (A1 → A2 → A3 → Prop) → A1 → A2 → A3 → Prop) : Nat → A1 → A2 → A3 → Prop
  | 0 => fun _ _ _ => False
  | n + 1 => body (lq3 body n)
theorem lq3_ind {A1 A2 A3 : Type} {body : (A1 → A2 → A3 → Prop) → A1 → A2 → A3 → Prop} {GG : A1 → A2 → A3 → Prop} (hs : ∀ (LL : A1 → A2 → A3 → Prop), (∀ (a1 : A1) (a2 : A2) (a3 : A3), LL a1 a2 a3 → GG a1 a2 a3) → ∀ (a1 : A1) (a2 : A2) (a3 : A3), body LL a1 a2 a3 → GG a1 a2 a3) : ∀ (n : Nat) (a1 : A1) (a2 : A2) (a3 : A3), lq3 body n a1 a2 a3 → GG a1 a2 a3 := by
  intro n
  induction n with
  | zero => intro a1 a2 a3 h; exact h.elim
  | succ n ih => exact hs (lq3 body n) ih
theorem lq3_of {A1 A2 A3 : Type} {body : (A1 → A2 → A3 → Prop) → A1 → A2 → A3 → Prop} (II : A1 → A2 → A3 → Prop) (mu : A1 → A2 → A3 → Nat) (hs : ∀ (LL : A1 → A2 → A3 → Prop) (a1 : A1) (a2 : A2) (a3 : A3), II a1 a2 a3 → (∀ (b1 : A1) (b2 : A2) (b3 : A3), II b1 b2 b3 → mu b1 b2 b3 < mu a1 a2 a3 → LL b1 b2 b3) → body LL a1 a2 a3) : ∀ (a1 : A1) (a2 : A2) (a3 : A3), II a1 a2 a3 → ∃ n : Nat, lq3 body n a1 a2 a3 := by
  have key : ∀ (n : Nat) (a1 : A1) (a2 : A2) (a3 : A3), II a1 a2 a3 → mu a1 a2 a3 < n → lq3 body n a1 a2 a3 := by
    intro n
    induction n with
    | zero => intro a1 a2 a3 _ h; exact absurd h (Nat.not_lt_zero _)
    | succ n ih => intro a1 a2 a3 hi hm; exact hs (lq3 body n) a1 a2 a3 hi (fun b1 b2 b3 h1 h2 => ih b1 b2 b3 h1 (by omega))
  intro a1 a2 a3 h
  exact ⟨_, key _ a1 a2 a3 h (Nat.lt_succ_self _)⟩
theorem lq3_m {A1 A2 A3 : Type} {body : (A1 → A2 → A3 → Prop) → A1 → A2 → A3 → Prop} (II : Nat → A1 → A2 → A3 → Prop) (hs : ∀ (LL : A1 → A2 → A3 → Prop) (m : Nat) (a1 : A1) (a2 : A2) (a3 : A3), II m a1 a2 a3 → (∀ (m2 : Nat) (b1 : A1) (b2 : A2) (b3 : A3), m2 < m → II m2 b1 b2 b3 → LL b1 b2 b3) → body LL a1 a2 a3) : ∀ (m : Nat) (a1 : A1) (a2 : A2) (a3 : A3), II m a1 a2 a3 → ∃ n : Nat, lq3 body n a1 a2 a3 := by
  have key : ∀ (n m : Nat) (a1 : A1) (a2 : A2) (a3 : A3), m < n → II m a1 a2 a3 → lq3 body n a1 a2 a3 := by
    intro n
    induction n with
    | zero => intro m a1 a2 a3 h; exact absurd h (Nat.not_lt_zero _)
    | succ n ih => intro m a1 a2 a3 hm hi; exact hs (lq3 body n) m a1 a2 a3 hi (fun m2 b1 b2 b3 h1 h2 => ih m2 b1 b2 b3 (by omega) h2)
  intro m a1 a2 a3 h
  exact ⟨_, key (m + 1) m a1 a2 a3 (Nat.lt_succ_self _) h⟩
theorem jn3_ind {A1 A2 A3 : Type} {rest : A1 → A2 → A3 → Prop} {f : (A1 → A2 → A3 → Prop) → Prop} {GG : A1 → A2 → A3 → Prop} {TT : Prop} (h : jn rest f) (hr : ∀ (a1 : A1) (a2 : A2) (a3 : A3), rest a1 a2 a3 → GG a1 a2 a3) (hf : ∀ (JJ : A1 → A2 → A3 → Prop), (∀ (a1 : A1) (a2 : A2) (a3 : A3), JJ a1 a2 a3 → GG a1 a2 a3) → f JJ → TT) : TT := hf rest hr h
def lq4 {A1 A2 A3 A4 : Type} (body : (A1 → A2 → A3 → A4 → Prop) → A1 → A2 → A3 → A4 → Prop) : Nat → A1 → A2 → A3 → A4 → Prop
  | 0 => fun _ _ _ _ => False
  | n + 1 => body (lq4 body n)
theorem lq4_ind {A1 A2 A3 A4 : Type} {body : (A1 → A2 → A3 → A4 → Prop) → A1 → A2 → A3 → A4 → Prop} {GG : A1 → A2 → A3 → A4 → Prop} (hs : ∀ (LL : A1 → A2 → A3 → A4 → Prop), (∀ (a1 : A1) (a2 : A2) (a3 : A3) (a4 : A4), LL a1 a2 a3 a4 → GG a1 a2 a3 a4) → ∀ (a1 : A1) (a2 : A2) (a3 : A3) (a4 : A4), body LL a1 a2 a3 a4 → GG a1 a2 a3 a4) : ∀ (n : Nat) (a1 : A1) (a2 : A2) (a3 : A3) (a4 : A4), lq4 body n a1 a2 a3 a4 → GG a1 a2 a3 a4 := by
  intro n
  induction n with
  | zero => intro a1 a2 a3 a4 h; exact h.elim
  | succ n ih => exact hs (lq4 body n) ih
theorem lq4_of {A1 A2 A3 A4 : Type} {body : (A1 → A2 → A3 → A4 → Prop) → A1 → A2 → A3 → A4 → Prop} (II : A1 → A2 → A3 → A4 → Prop) (mu : A1 → A2 → A3 → A4 → Nat) (hs : ∀ (LL : A1 → A2 → A3 → A4 → Prop) (a1 : A1) (a2 : A2) (a3 : A3) (a4 : A4), II a1 a2 a3 a4 → (∀ (b1 : A1) (b2 : A2) (b3 : A3) (b4 : A4), II b1 b2 b3 b4 → mu b1 b2 b3 b4 < mu a1 a2 a3 a4 → LL b1 b2 b3 b4) → body LL a1 a2 a3 a4) : ∀ (a1 : A1) (a2 : A2) (a3 : A3) (a4 : A4), II a1 a2 a3 a4 → ∃ n : Nat, lq4 body n a1 a2 a3 a4 := by
  have key : ∀ (n : Nat) (a1 : A1) (a2 : A2) (a3 : A3) (a4 : A4), II a1 a2 a3 a4 → mu a1 a2 a3 a4 < n → lq4 body n a1 a2 a3 a4 := by
    intro n
    induction n with
    | zero => intro a1 a2 a3 a4 _ h; exact absurd h (Nat.not_lt_zero _)
    | succ n ih => intro a1 a2 a3 a4 hi hm; exact hs (lq4 body n) a1 a2 a3 a4 hi (fun b1 b2 b3 b4 h1 h2 => ih b1 b2 b3 b4 h1 (by omega))
  intro a1 a2 a3 a4 h
  exact ⟨_, key _ a1 a2 a3 a4 h (Nat.lt_succ_self _)⟩
theorem lq4_m {A1 A2 A3 A4 : Type} {body : (A1 → A2 → A3 → A4 → Prop) → A1 → A2 → A3 → A4 → Prop} (II : Nat → A1 → A2 → A3 → A4 → Prop) (hs : ∀ (LL : A1 → A2 → A3 → A4 → Prop) (m : Nat) (a1 : A1) (a2 : A2) (a3 : A3) (a4 : A4), II m a1 a2 a3 a4 → (∀ (m2 : Nat) (b1 : A1) (b2 : A2) (b3 : A3) (b4 : A4), m2 < m → II m2 b1 b2 b3 b4 → LL b1 b2 b3 b4) → body LL a1 a2 a3 a4) : ∀ (m : Nat) (a1 : A1) (a2 : A2) (a3 : A3) (a4 : A4), II m a1 a2 a3 a4 → ∃ n : Nat, lq4 body n a1 a2 a3 a4 := by
  have key : ∀ (n m : Nat) (a1 : A1) (a2 : A2) (a3 : A3) (a4 : A4), m < n → II m a1 a2 a3 a4 → lq4 body n a1 a2 a3 a4 := by
    intro n
    induction n with
    | zero => intro m a1 a2 a3 a4 h; exact absurd h (Nat.not_lt_zero _)
    | succ n ih => intro m a1 a2 a3 a4 hm hi; exact hs (lq4 body n) m a1 a2 a3 a4 hi (fun m2 b1 b2 b3 b4 h1 h2 => ih m2 b1 b2 b3 b4 (by omega) h2)
  intro m a1 a2 a3 a4 h
  exact ⟨_, key (m + 1) m a1 a2 a3 a4 (Nat.lt_succ_self _) h⟩
theorem jn4_ind {A1 A2 A3 A4 : Type} {rest : A1 → A2 → A3 → A4 → Prop} {f : (A1 → A2 → A3 → A4 → Prop) → Prop} {GG : A1 → A2 → A3 → A4 → Prop} {TT : Prop} (h : jn rest f) (hr : ∀ (a1 : A1) (a2 : A2) (a3 : A3) (a4 : A4), rest a1 a2 a3 a4 → GG a1 a2 a3 a4) (hf : ∀ (JJ : A1 → A2 → A3 → A4 → Prop), (∀ (a1 : A1) (a2 : A2) (a3 : A3) (a4 : A4), JJ a1 a2 a3 a4 → GG a1 a2 a3 a4) → f JJ → TT) : TT := hf rest hr h
def lq5 {A1 A2 A3 A4 A5 : Type} (body : (A1 → A2 → A3 → A4 → A5 → Prop) → A1 → A2 → A3 → A4 → A5 → Prop) : Nat → A1 → A2 → A3 → A4 → A5 → Prop
  | 0 => fun _ _ _ _ _ => False
  | n + 1 => body (lq5 body n)
theorem lq5_ind {A1 A2 A3 A4 A5 : Type} {body : (A1 → A2 → A3 → A4 → A5 → Prop) → A1 → A2 → A3 → A4 → A5 → Prop} {GG : A1 → A2 → A3 → A4 → A5 → Prop} (hs : ∀ (LL : A1 → A2 → A3 → A4 → A5 → Prop), (∀ (a1 : A1) (a2 : A2) (a3 : A3) (a4 : A4) (a5 : A5), LL a1 a2 a3 a4 a5 → GG a1 a2 a3 a4 a5) → ∀ (a1 : A1) (a2 : A2) (a3 : A3) (a4 : A4) (a5 : A5), body LL a1 a2 a3 a4 a5 → GG a1 a2 a3 a4 a5) : ∀ (n : Nat) (a1 : A1) (a2 : A2) (a3 : A3) (a4 : A4) (a5 : A5), lq5 body n a1 a2 a3 a4 a5 → GG a1 a2 a3 a4 a5 := by
  intro n
  induction n with
  | zero => intro a1 a2 a3 a4 a5 h; exact h.elim
  | succ n ih => exact hs (lq5 body n) ih
theorem lq5_of {A1 A2 A3 A4 A5 : Type} {body : (A1 → A2 → A3 → A4 → A5 → Prop) → A1 → A2 → A3 → A4 → A5 → Prop} (II : A1 → A2 → A3 → A4 → A5 → Prop) (mu : A1 → A2 → A3 → A4 → A5 → Nat) (hs : ∀ (LL : A1 → A2 → A3 → A4 → A5 → Prop) (a1 : A1) (a2 : A2) (a3 : A3) (a4 : A4) (a5 : A5), II a1 a2 a3 a4 a5 → (∀ (b1 : A1) (b2 : A2) (b3 : A3) (b4 : A4) (b5 : A5), II b1 b2 b3 b4 b5 → mu b1 b2 b3 b4 b5 < mu a1 a2 a3 a4 a5 → LL b1 b2 b3 b4 b5) → body LL a1 a2 a3 a4 a5) : ∀ (a1 : A1) (a2 : A2) (a3 : A3) (a4 : A4) (a5 : A5), II a1 a2 a3 a4 a5 → ∃ n : Nat, lq5 body n a1 a2 a3 a4 a5 := by
  have key : ∀ (n : Nat) (a1 : A1) (a2 : A2) (a3 : A3) (a4 : A4) (a5 : A5), II a1 a2 a3 a4 a5 → mu a1 a2 a3 a4 a5 < n → lq5 body n a1 a2 a3 a4 a5 := by
    intro n
    induction n with
    | zero => intro a1 a2 a3 a4 a5 _ h; exact absurd h (Nat.not_lt_zero _)
    | succ n ih => intro a1 a2 a3 a4 a5 hi hm; exact hs (lq5 body n) a1 a2 a3 a4 a5 hi (fun b1 b2 b3 b4 b5 h1 h2 => ih b1 b2 b3 b4 b5 h1 (by omega))
  intro a1 a2 a3 a4 a5 h
  exact ⟨_, key _ a1 a2 a3 a4 a5 h (Nat.lt_succ_self _)⟩
theorem lq5_m {A1 A2 A3 A4 A5 : Type} {body : (A1 → A2 → A3 → A4 → A5 → Prop) → A1 → A2 → A3 → A4 → A5 → Prop} (II : Nat → A1 → A2 → A3 → A4 → A5 → Prop) (hs : ∀ (LL : A1 → A2 → A3 → A4 → A5 → Prop) (m : Nat) (a1 : A1) (a2 : A2) (a3 : A3) (a4 : A4) (a5 : A5), II m a1 a2 a3 a4 a5 → (∀ (m2 : Nat) (b1 : A1) (b2 : A2) (b3 : A3) (b4 : A4) (b5 : A5), m2 < m → II m2 b1 b2 b3 b4 b5 → LL b1 b2 b3 b4 b5) → body LL a1 a2 a3 a4 a5) : ∀ (m : Nat) (a1 : A1) (a2 : A2) (a3 : A3) (a4 : A4) (a5 : A5), II m a1 a2 a3 a4 a5 → ∃ n : Nat, lq5 body n a1 a2 a3 a4 a5 := by
  have key : ∀ (n m : Nat) (a1 : A1) (a2 : A2) (a3 : A3) (a4 : A4) (a5 : A5), m < n → II m a1 a2 a3 a4 a5 → lq5 body n a1 a2 a3 a4 a5 := by
    intro n
    induction n with
    | zero => intro m a1 a2 a3 a4 a5 h; exact absurd h (Nat.not_lt_zero _)
    | succ n ih => intro m a1 a2 a3 a4 a5 hm hi; exact hs (lq5 body n) m a1 a2 a3 a4 a5 hi (fun m2 b1 b2 b3 b4 b5 h1 h2 => ih m2 b1 b2 b3 b4 b5 (by omega) h2)
  intro m a1 a2 a3 a4 a5 h
  exact ⟨_, key (m + 1) m a1 a2 a3 a4 a5 (Nat.lt_succ_self _) h⟩
theorem jn5_ind {A1 A2 A3 A4 A5 : Type} {rest : A1 → A2 → A3 → A4 → A5 → Prop} {f : (A1 → A2 → A3 → A4 → A5 → Prop) → Prop} {GG : A1 → A2 → A3 → A4 → A5 → Prop} {TT : Prop} (h : jn rest f) (hr : ∀ (a1 : A1) (a2 : A2) (a3 : A3) (a4 : A4) (a5 : A5), rest a1 a2 a3 a4 a5 → GG a1 a2 a3 a4 a5) (hf : ∀ (JJ : A1 → A2 → A3 → A4 → A5 → Prop), (∀ (a1 : A1) (a2 : A2) (a3 : A3) (a4 : A4) (a5 : A5), JJ a1 a2 a3 a4 a5 → GG a1 a2 a3 a4 a5) → f JJ → TT) : TT := hf rest hr h
def lq6 {A1 A2 A3 A4 A5 A6 : Type} (body : (A1 → A2 → A3 → A4 → A5 → A6 → Prop) → A1 → A2 → A3 → A4 → A5 → A6 → Prop) : Nat → A1 → A2 → A3 → A4 → A5 → A6 → Prop
  | 0 => fun _ _ _ _ _ _ => False
  | n + 1 => body (lq6 body n)
theorem lq6_ind {A1 A2 A3 A4 A5 A6 : Type} {body : (A1 → A2 → A3 → A4 → A5 → A6 → Prop) → A1 → A2 → A3 → A4 → A5 → A6 → Prop} {GG : A1 → A2 → A3 → A4 → A5 → A6 → Prop} (hs : ∀ (LL : A1 → A2 → A3 → A4 → A5 → A6 → Prop), (∀ (a1 : A1) (a2 : A2) (a3 : A3) (a4 : A4) (a5 : A5) (a6 : A6), LL a1 a2 a3 a4 a5 a6 → GG a1 a2 a3 a4 a5 a6) → ∀ (a1 : A1) (a2 : A2) (a3 : A3) (a4 : A4) (a5 : A5) (a6 : A6), body LL a1 a2 a3 a4 a5 a6 → GG a1 a2 a3 a4 a5 a6) : ∀ (n : Nat) (a1 : A1) (a2 : A2) (a3 : A3) (a4 : A4) (a5 : A5) (a6 : A6), lq6 body n a1 a2 a3 a4 a5 a6 → GG a1 a2 a3 a4 a5 a6 := by
  intro n
  induction n with
  | zero => intro a1 a2 a3 a4 a5 a6 h; exact h.elim
  | succ n ih => exact hs (lq6 body n) ih
theorem lq6_of {A1 A2 A3 A4 A5 A6 : Type} {body : (A1 → A2 → A3 → A4 → A5 → A6 → Prop) → A1 → A2 → A3 → A4 → A5 → A6 → Prop} (II : A1 → A2 → A3 → A4 → A5 → A6 → Prop) (mu : A1 → A2 → A3 → A4 → A5 → A6 → Nat) (hs : ∀ (LL : A1 → A2 → A3 → A4 → A5 → A6 → Prop) (a1 : A1) (a2 : A2) (a3 : A3) (a4 : A4) (a5 : A5) (a6 : A6), II a1 a2 a3 a4 a5 a6 → (∀ (b1 : A1) (b2 : A2) (b3 : A3) (b4 : A4) (b5 : A5) (b6 : A6), II b1 b2 b3 b4 b5 b6 → mu b1 b2 b3 b4 b5 b6 < mu a1 a2 a3 a4 a5 a6 → LL b1 b2 b3 b4 b5 b6) → body LL a1 a2 a3 a4 a5 a6) : ∀ (a1 : A1) (a2 : A2) (a3 : A3) (a4 : A4) (a5 : A5) (a6 : A6), II a1 a2 a3 a4 a5 a6 → ∃ n : Nat, lq6 body n a1 a2 a3 a4 a5 a6 := by
  have key : ∀ (n : Nat) (a1 : A1) (a2 : A2) (a3 : A3) (a4 : A4) (a5 : A5) (a6 : A6), II a1 a2 a3 a4 a5 a6 → mu a1 a2 a3 a4 a5 a6 < n → lq6 body n a1 a2 a3 a4 a5 a6 := by
    intro n
    induction n with
    | zero => intro a1 a2 a3 a4 a5 a6 _ h; exact absurd h (Nat.not_lt_zero _)
    | succ n ih => intro a1 a2 a3 a4 a5 a6 hi hm; exact hs (lq6 body n) a1 a2 a3 a4 a5 a6 hi (fun b1 b2 b3 b4 b5 b6 h1 h2 => ih b1 b2 b3 b4 b5 b6 h1 (by omega))
  intro a1 a2 a3 a4 a5 a6 h
  exact ⟨_, key _ a1 a2 a3 a4 a5 a6 h (Nat.lt_succ_self _)⟩
theorem lq6_m {A1 A2 A3 A4 A5 A6 : Type} {body : (A1 → A2 → A3 → A4 → A5 → A6 → Prop) → A1 → A2 → A3 → A4 → A5 → A6 → Prop} (II : Nat → A1 → A2 → A3 → A4 → A5 → A6 → Prop) (hs : ∀ (LL : A1 → A2 → A3 → A4 → A5 → A6 → Prop) (m : Nat) (a1 : A1) (a2 : A2) (a3 : A3) (a4 : A4) (a5 : A5) (a6 : A6), II m a1 a2 a3 a4 a5 a6 → (∀ (m2 : Nat) (b1 : A1) (b2 : A2) (b3 : A3) (b4 : A4) (b5 : A5) (b6 : A6), m2 < m → II m2 b1 b2 b3 b4 b5 b6 → LL b1 b2 b3 b4 b5 b6) → body LL a1 a2 a3 a4 a5 a6) : ∀ (m : Nat) (a1 : A1) (a2 : A2) (a3 : A3) (a4 : A4) (a5 : A5) (a6 : A6), II m a1 a2 a3 a4 a5 a6 → ∃ n : Nat, lq6 body n a1 a2 a3 a4 a5 a6 := by
  have key : ∀ (n m : Nat) (a1 : A1) (a2 : A2) (a3 : A3) (a4 : A4) (a5 : A5) (a6 : A6), m < n → II m a1 a2 a3 a4 a5 a6 → lq6 body n a1 a2 a3 a4 a5 a6 := by
    intro n
    induction n with
    | zero => intro m a1 a2 a3 a4 a5 a6 h; exact absurd h (Nat.not_lt_zero _)
    | succ n ih => intro m a1 a2 a3 a4 a5 a6 hm hi; exact hs (lq6 body n) m a1 a2 a3 a4 a5 a6 hi (fun m2 b1 b2 b3 b4 b5 b6 h1 h2 => ih m2 b1 b2 b3 b4 b5 b6 (by omega) h2)
  intro m a1 a2 a3 a4 a5 a6 h
  exact ⟨_, key (m + 1) m a1 a2 a3 a4 a5 a6 (Nat.lt_succ_self _) h⟩
theorem jn6_ind {A1 A2 A3 A4 A5 A6 : Type} {rest : A1 → A2 → A3 → A4 → A5 → A6 → Prop} {f : (A1 → A2 → A3 → A4 → A5 → A6 → Prop) → Prop} {GG : A1 → A2 → A3 → A4 → A5 → A6 → Prop} {TT : Prop} (h : jn rest f) (hr : ∀ (a1 : A1) (a2 : A2) (a3 : A3) (a4 : A4) (a5 : A5) (a6 : A6), rest a1 a2 a3 a4 a5 a6 → GG a1 a2 a3 a4 a5 a6) (hf : ∀ (JJ : A1 → A2 → A3 → A4 → A5 → A6 → Prop), (∀ (a1 : A1) (a2 : A2) (a3 : A3) (a4 : A4) (a5 : A5) (a6 : A6), JJ a1 a2 a3 a4 a5 a6 → GG a1 a2 a3 a4 a5 a6) → f JJ → TT) : TT := hf rest hr h
def lq7 {A1 A2 A3 A4 A5 A6 A7 : Type} (body : (A1 → A2 → A3 → A4 → A5 → A6 → A7 → Prop) → A1 → A2 → A3 → A4 → A5 → A6 → A7 → Prop) : Nat → A1 → A2 → A3 → A4 → A5 → A6 → A7 → Prop
  | 0 => fun _ _ _ _ _ _ _ => False
  | n + 1 => body (lq7 body n)
theorem lq7_ind {A1 A2 A3 A4 A5 A6 A7 : Type} {body : (A1 → A2 → A3 → A4 → A5 → A6 → A7 → Prop) → A1 → A2 → A3 → A4 → A5 → A6 → A7 → Prop} {GG : A1 → A2 → A3 → A4 → A5 → A6 → A7 → Prop} (hs : ∀ (LL : A1 → A2 → A3 → A4 → A5 → A6 → A7 → Prop), (∀ (a1 : A1) (a2 : A2) (a3 : A3) (a4 : A4) (a5 : A5) (a6 : A6) (a7 : A7), LL a1 a2 a3 a4 a5 a6 a7 → GG a1 a2 a3 a4 a5 a6 a7) → ∀ (a1 : A1) (a2 : A2) (a3 : A3) (a4 : A4) (a5 : A5) (a6 : A6) (a7 : A7), body LL a1 a2 a3 a4 a5 a6 a7 → GG a1 a2 a3 a4 a5 a6 a7) : ∀ (n : Nat) (a1 : A1) (a2 : A2) (a3 : A3) (a4 : A4) (a5 : A5) (a6 : A6) (a7 : A7), lq7 body n a1 a2 a3 a4 a5 a6 a7 → GG a1 a2 a3 a4 a5 a6 a7 := by
  intro n
  induction n with
  | zero => intro a1 a2 a3 a4 a5 a6 a7 h; exact h.elim
  | succ n ih => exact hs (lq7 body n) ih
theorem lq7_of {A1 A2 A3 A4 A5 A6 A7 : Type} {body : (A1 → A2 → A3 → A4 → A5 → A6 → A7 → Prop) → A1 → A2 → A3 → A4 → A5 → A6 → A7 → Prop} (II : A1 → A2 → A3 → A4 → A5 → A6 → A7 → Prop) (mu : A1 → A2 → A3 → A4 → A5 → A6 → A7 → Nat) (hs : ∀ (LL : A1 → A2 → A3 → A4 → A5 → A6 → A7 → Prop) (a1 : A1) (a2 : A2) (a3 : A3) (a4 : A4) (a5 : A5) (a6 : A6) (a7 : A7), II a1 a2 a3 a4 a5 a6 a7 → (∀ (b1 : A1) (b2 : A2) (b3 : A3) (b4 : A4) (b5 : A5) (b6 : A6) (b7 : A7), II b1 b2 b3 b4 b5 b6 b7 → mu b1 b2 b3 b4 b5 b6 b7 < mu a1 a2 a3 a4 a5 a6 a7 → LL b1 b2 b3 b4 b5 b6 b7) → body LL a1 a2 a3 a4 a5 a6 a7) : ∀ (a1 : A1) (a2 : A2) (a3 : A3) (a4 : A4) (a5 : A5) (a6 : A6) (a7 : A7), II a1 a2 a3 a4 a5 a6 a7 → ∃ n : Nat, lq7 body n a1 a2 a3 a4 a5 a6 a7 := by
  have key : ∀ (n : Nat) (a1 : A1) (a2 : A2) (a3 : A3) (a4 : A4) (a5 : A5) (a6 : A6) (a7 : A7), II a1 a2 a3 a4 a5 a6 a7 → mu a1 a2 a3 a4 a5 a6 a7 < n → lq7 body n a1 a2 a3 a4 a5 a6 a7 := by
    intro n
    induction n with
    | zero => intro a1 a2 a3 a4 a5 a6 a7 _ h; exact absurd h (Nat.not_lt_zero _)
    | succ n ih => intro a1 a2 a3 a4 a5 a6 a7 hi hm; exact hs (lq7 body n) a1 a2 a3 a4 a5 a6 a7 hi (fun b1 b2 b3 b4 b5 b6 b7 h1 h2 => ih b1 b2 b3 b4 b5 b6 b7 h1 (by omega))
  intro a1 a2 a3 a4 a5 a6 a7 h
  exact ⟨_, key _ a1 a2 a3 a4 a5 a6 a7 h (Nat.lt_succ_self _)⟩
theorem lq7_m {A1 A2 A3 A4 A5 A6 A7 : Type} {body : (A1 → A2 → A3 → A4 → A5 → A6 → A7 → Prop) → A1 → A2 → A3 → A4 → A5 → A6 → A7 → Prop} (II : Nat → A1 → A2 → A3 → A4 → A5 → A6 → A7 → Prop) (hs : ∀ (LL : A1 → A2 → A3 → A4 → A5 → A6 → A7 → Prop) (m : Nat) (a1 : A1) (a2 : A2) (a3 : A3) (a4 : A4) (a5 : A5) (a6 : A6) (a7 : A7), II m a1 a2 a3 a4 a5 a6 a7 → (∀ (m2 : Nat) (b1 : A1) (b2 : A2) (b3 : A3) (b4 : A4) (b5 : A5) (b6 : A6) (b7 : A7), m2 < m → II m2 b1 b2 b3 b4 b5 b6 b7 → LL b1 b2 b3 b4 b5 b6 b7) → body LL a1 a2 a3 a4 a5 a6 a7) : ∀ (m : Nat) (a1 : A1) (a2 : A2) (a3 : A3) (a4 : A4) (a5 : A5) (a6 : A6) (a7 : A7), II m a1 a2 a3 a4 a5 a6 a7 → ∃ n : Nat, lq7 body n a1 a2 a3 a4 a5 a6 a7 := by
  have key : ∀ (n m : Nat) (a1 : A1) (a2 : A2) (a3 : A3) (a4 : A4) (a5 : A5) (a6 : A6) (a7 : A7), m < n → II m a1 a2 a3 a4 a5 a6 a7 → lq7 body n a1 a2 a3 a4 a5 a6 a7 := by
    intro n
    induction n with
    | zero => intro m a1 a2 a3 a4 a5 a6 a7 h; exact absurd h (Nat.not_lt_zero _)
    | succ n ih => intro m a1 a2 a3 a4 a5 a6 a7 hm hi; exact hs (lq7 body n) m a1 a2 a3 a4 a5 a6 a7 hi (fun m2 b1 b2 b3 b4 b5 b6 b7 h1 h2 => ih m2 b1 b2 b3 b4 b5 b6 b7 (by omega) h2)
  intro m a1 a2 a3 a4 a5 a6 a7 h
  exact ⟨_, key (m + 1) m a1 a2 a3 a4 a5 a6 a7 (Nat.lt_succ_self _) h⟩
theorem jn7_ind {A1 A2 A3 A4 A5 A6 A7 : Type} {rest : A1 → A2 → A3 → A4 → A5 → A6 → A7 → Prop} {f : (A1 → A2 → A3 → A4 → A5 → A6 → A7 → Prop) → Prop} {GG : A1 → A2 → A3 → A4 → A5 → A6 → A7 → Prop} {TT : Prop} (h : jn rest f) (hr : ∀ (a1 : A1) (a2 : A2) (a3 : A3) (a4 : A4) (a5 : A5) (a6 : A6) (a7 : A7), rest a1 a2 a3 a4 a5 a6 a7 → GG a1 a2 a3 a4 a5 a6 a7) (hf : ∀ (JJ : A1 → A2 → A3 → A4 → A5 → A6 → A7 → Prop), (∀ (a1 : A1) (a2 : A2) (a3 : A3) (a4 : A4) (a5 : A5) (a6 : A6) (a7 : A7), JJ a1 a2 a3 a4 a5 a6 a7 → GG a1 a2 a3 a4 a5 a6 a7) → f JJ → TT) : TT := hf rest hr h
def lq8 {A1 A2 A3 A4 A5 A6 A7 A8 : Type} (body : (A1 → A2 → A3 → A4 → A5 → A6 → A7 → A8 → Prop) → A1 → A2 → A3 → A4 → A5 → A6 → A7 → A8 → Prop) : Nat → A1 → A2 → A3 → A4 → A5 → A6 → A7 → A8 → Prop
  | 0 => fun _ _ _ _ _ _ _ _ => False
  | n + 1 => body (lq8 body n)
theorem lq8_ind {A1 A2 A3 A4 A5 A6 A7 A8 : Type} {body : (A1 → A2 → A3 → A4 → A5 → A6 → A7 → A8 → Prop) → A1 → A2 → A3 → A4 → A5 → A6 → A7 → A8 → Prop} {GG : A1 → A2 → A3 → A4 → A5 → A6 → A7 → A8 → Prop} (hs : ∀ (LL : A1 → A2 → A3 → A4 → A5 → A6 → A7 → A8 → Prop), (∀ (a1 : A1) (a2 : A2) (a3 : A3) (a4 : A4) (a5 : A5) (a6 : A6) (a7 : A7) (a8 : A8), LL a1 a2 a3 a4 a5 a6 a7 a8 → GG a1 a2 a3 a4 a5 a6 a7 a8) → ∀ (a1 : A1) (a2 : A2) (a3 : A3) (a4 : A4) (a5 : A5) (a6 : A6) (a7 : A7) (a8 : A8), body LL a1 a2 a3 a4 a5 a6 a7 a8 → GG a1 a2 a3 a4 a5 a6 a7 a8) : ∀ (n : Nat) (a1 : A1) (a2 : A2) (a3 : A3) (a4 : A4) (a5 : A5) (a6 : A6) (a7 : A7) (a8 : A8), lq8 body n a1 a2 a3 a4 a5 a6 a7 a8 → GG a1 a2 a3 a4 a5 a6 a7 a8 := by
  intro n
  induction n with
  | zero => intro a1 a2 a3 a4 a5 a6 a7 a8 h; exact h.elim
  | succ n ih => exact hs (lq8 body n) ih
theorem lq8_of {A1 A2 A3 A4 A5 A6 A7 A8 : Type} {body : (A1 → A2 → A3 → A4 → A5 → A6 → A7 → A8 → Prop) → A1 → A2 → A3 → A4 → A5 → A6 → A7 → A8 → Prop} (II : A1 → A2 → A3 → A4 → A5 → A6 → A7 → A8 → Prop) (mu : A1 → A2 → A3 → A4 → A5 → A6 → A7 → A8 → Nat) (hs : ∀ (LL : A1 → A2 → A3 → A4 → A5 → A6 → A7 → A8 → Prop) (a1 : A1) (a2 : A2) (a3 : A3) (a4 : A4) (a5 : A5) (a6 : A6) (a7 : A7) (a8 : A8), II a1 a2 a3 a4 a5 a6 a7 a8 → (∀ (b1 : A1) (b2 : A2) (b3 : A3) (b4 : A4) (b5 : A5) (b6 : A6) (b7 : A7) (b8 : A8), II b1 b2 b3 b4 b5 b6 b7 b8 → mu b1 b2 b3 b4 b5 b6 b7 b8 < mu a1 a2 a3 a4 a5 a6 a7 a8 → LL b1 b2 b3 b4 b5 b6 b7 b8) → body LL a1 a2 a3 a4 a5 a6 a7 a8) : ∀ (a1 : A1) (a2 : A2) (a3 : A3) (a4 : A4) (a5 : A5) (a6 : A6) (a7 : A7) (a8 : A8), II a1 a2 a3 a4 a5 a6 a7 a8 → ∃ n : Nat, lq8 body n a1 a2 a3 a4 a5 a6 a7 a8 := by
  have key : ∀ (n : Nat) (a1 : A1) (a2 : A2) (a3 : A3) (a4 : A4) (a5 : A5) (a6 : A6) (a7 : A7) (a8 : A8), II a1 a2 a3 a4 a5 a6 a7 a8 → mu a1 a2 a3 a4 a5 a6 a7 a8 < n → lq8 body n a1 a2 a3 a4 a5 a6 a7 a8 := by
    intro n
    induction n with
    | zero => intro a1 a2 a3 a4 a5 a6 a7 a8 _ h; exact absurd h (Nat.not_lt_zero _)
    | succ n ih => intro a1 a2 a3 a4 a5 a6 a7 a8 hi hm; exact hs (lq8 body n) a1 a2 a3 a4 a5 a6 a7 a8 hi (fun b1 b2 b3 b4 b5 b6 b7 b8 h1 h2 => ih b1 b2 b3 b4 b5 b6 b7 b8 h1 (by omega))
  intro a1 a2 a3 a4 a5 a6 a7 a8 h
  exact ⟨_, key _ a1 a2 a3 a4 a5 a6 a7 a8 h (Nat.lt_succ_self _)⟩
theorem lq8_m {A1 A2 A3 A4 A5 A6 A7 A8 : Type} {body : (A1 → A2 → A3 → A4 → A5 → A6 → A7 → A8 → Prop) → A1 → A2 → A3 → A4 → A5 → A6 → A7 → A8 → Prop} (II : Nat → A1 → A2 → A3 → A4 → A5 → A6 → A7 → A8 → Prop) (hs : ∀ (LL : A1 → A2 → A3 → A4 → A5 → A6 → A7 → A8 → Prop) (m : Nat) (a1 : A1) (a2 : A2) (a3 : A3) (a4 : A4) (a5 : A5) (a6 : A6) (a7 : A7) (a8 : A8), II m a1 a2 a3 a4 a5 a6 a7 a8 → (∀ (m2 : Nat) (b1 : A1) (b2 : A2) (b3 : A3) (b4 : A4) (b5 : A5) (b6 : A6) (b7 : A7) (b8 : A8), m2 < m → II m2 b1 b2 b3 b4 b5 b6 b7 b8 → LL b1 b2 b3 b4 b5 b6 b7 b8) → body LL a1 a2 a3 a4 a5 a6 a7 a8) : ∀ (m : Nat) (a1 : A1) (a2 : A2) (a3 : A3) (a4 : A4) (a5 : A5) (a6 : A6) (a7 : A7) (a8 : A8), II m a1 a2 a3 a4 a5 a6 a7 a8 → ∃ n : Nat, lq8 body n a1 a2 a3 a4 a5 a6 a7 a8 := by
  have key : ∀ (n m : Nat) (a1 : A1) (a2 : A2) (a3 : A3) (a4 : A4) (a5 : A5) (a6 : A6) (a7 : A7) (a8 : A8), m < n → II m a1 a2 a3 a4 a5 a6 a7 a8 → lq8 body n a1 a2 a3 a4 a5 a6 a7 a8 := by
    intro n
    induction n with
    | zero => intro m a1 a2 a3 a4 a5 a6 a7 a8 h; exact absurd h (Nat.not_lt_zero _)
    | succ n ih => intro m a1 a2 a3 a4 a5 a6 a7 a8 hm hi; exact hs (lq8 body n) m a1 a2 a3 a4 a5 a6 a7 a8 hi (fun m2 b1 b2 b3 b4 b5 b6 b7 b8 h1 h2 => ih m2 b1 b2 b3 b4 b5 b6 b7 b8 (by omega) h2)
  intro m a1 a2 a3 a4 a5 a6 a7 a8 h
  exact ⟨_, key (m + 1) m a1 a2 a3 a4 a5 a6 a7 a8 (Nat.lt_succ_self _) h⟩
theorem jn8_ind {A1 A2 A3 A4 A5 A6 A7 A8 : Type} {rest : A1 → A2 → A3 → A4 → A5 → A6 → A7 → A8 → Prop} {f : (A1 → A2 → A3 → A4 → A5 → A6 → A7 → A8 → Prop) → Prop} {GG : A1 → A2 → A3 → A4 → A5 → A6 → A7 → A8 → Prop} {TT : Prop} (h : jn rest f) (hr : ∀ (a1 : A1) (a2 : A2) (a3 : A3) (a4 : A4) (a5 : A5) (a6 : A6) (a7 : A7) (a8 : A8), rest a1 a2 a3 a4 a5 a6 a7 a8 → GG a1 a2 a3 a4 a5 a6 a7 a8) (hf : ∀ (JJ : A1 → A2 → A3 → A4 → A5 → A6 → A7 → A8 → Prop), (∀ (a1 : A1) (a2 : A2) (a3 : A3) (a4 : A4) (a5 : A5) (a6 : A6) (a7 : A7) (a8 : A8), JJ a1 a2 a3 a4 a5 a6 a7 a8 → GG a1 a2 a3 a4 a5 a6 a7 a8) → f JJ → TT) : TT := hf rest hr h
def lq9 {A1 A2 A3 A4 A5 A6 A7 A8 A9 : Type} (body : (A1 → A2 → A3 → A4 → A5 → A6 → A7 → A8 → A9 → Prop) → A1 → A2 → A3 → A4 → A5 → A6 → A7 → A8 → A9 → Prop) : Nat → A1 → A2 → A3 → A4 → A5 → A6 → A7 → A8 → A9 → Prop
  | 0 => fun _ _ _ _ _ _ _ _ _ => False
  | n + 1 => body (lq9 body n)
theorem lq9_ind {A1 A2 A3 A4 A5 A6 A7 A8 A9 : Type} {body : (A1 → A2 → A3 → A4 → A5 → A6 → A7 → A8 → A9 → Prop) → A1 → A2 → A3 → A4 → A5 → A6 → A7 → A8 → A9 → Prop} {GG : A1 → A2 → A3 → A4 → A5 → A6 → A7 → A8 → A9 → Prop} (hs : ∀ (LL : A1 → A2 → A3 → A4 → A5 → A6 → A7 → A8 → A9 → Prop), (∀ (a1 : A1) (a2 : A2) (a3 : A3) (a4 : A4) (a5 : A5) (a6 : A6) (a7 : A7) (a8 : A8) (a9 : A9), LL a1 a2 a3 a4 a5 a6 a7 a8 a9 → GG a1 a2 a3 a4 a5 a6 a7 a8 a9) → ∀ (a1 : A1) (a2 : A2) (a3 : A3) (a4 : A4) (a5 : A5) (a6 : A6) (a7 : A7) (a8 : A8) (a9 : A9), body LL a1 a2 a3 a4 a5 a6 a7 a8 a9 → GG a1 a2 a3 a4 a5 a6 a7 a8 a9) : ∀ (n : Nat) (a1 : A1) (a2 : A2) (a3 : A3) (a4 : A4) (a5 : A5) (a6 : A6) (a7 : A7) (a8 : A8) (a9 : A9), lq9 body n a1 a2 a3 a4 a5 a6 a7 a8 a9 → GG a1 a2 a3 a4 a5 a6 a7 a8 a9 := by
  intro n
  induction n with
  | zero => intro a1 a2 a3 a4 a5 a6 a7 a8 a9 h; exact h.elim
  | succ n ih => exact hs (lq9 body n) ih
theorem lq9_of {A1 A2 A3 A4 A5 A6 A7 A8 A9 : Type} {body : (A1 → A2 → A3 → A4 → A5 → A6 → A7 → A8 → A9 → Prop) → A1 → A2 → A3 → A4 → A5 → A6 → A7 → A8 → A9 → Prop} (II : A1 → A2 → A3 → A4 → A5 → A6 → A7 → A8 → A9 → Prop) (mu : A1 → A2 → A3 → A4 → A5 → A6 → A7 → A8 → A9 → Nat) (hs : ∀ (LL : A1 → A2 → A3 → A4 → A5 → A6 → A7 → A8 → A9 → Prop) (a1 : A1) (a2 : A2) (a3 : A3) (a4 : A4) (a5 : A5) (a6 : A6) (a7 : A7) (a8 : A8) (a9 : A9), II a1 a2 a3 a4 a5 a6 a7 a8 a9 → (∀ (b1 : A1) (b2 : A2) (b3 : A3) (b4 : A4) (b5 : A5) (b6 : A6) (b7 : A7) (b8 : A8) (b9 : A9), II b1 b2 b3 b4 b5 b6 b7 b8 b9 → mu b1 b2 b3 b4 b5 b6 b7 b8 b9 < mu a1 a2 a3 a4 a5 a6 a7 a8 a9 → LL b1 b2 b3 b4 b5 b6 b7 b8 b9) → body LL a1 a2 a3 a4 a5 a6 a7 a8 a9) : ∀ (a1 : A1) (a2 : A2) (a3 : A3) (a4 : A4) (a5 : A5) (a6 : A6) (a7 : A7) (a8 : A8) (a9 : A9), II a1 a2 a3 a4 a5 a6 a7 a8 a9 → ∃ n : Nat, lq9 body n a1 a2 a3 a4 a5 a6 a7 a8 a9 := by
  have key : ∀ (n : Nat) (a1 : A1) (a2 : A2) (a3 : A3) (a4 : A4) (a5 : A5) (a6 : A6) (a7 : A7) (a8 : A8) (a9 : A9), II a1 a2 a3 a4 a5 a6 a7 a8 a9 → mu a1 a2 a3 a4 a5 a6 a7 a8 a9 < n → lq9 body n a1 a2 a3 a4 a5 a6 a7 a8 a9 := by
    intro n
    induction n with
    | zero => intro a1 a2 a3 a4 a5 a6 a7 a8 a9 _ h; exact absurd h (Nat.not_lt_zero _)
    | succ n ih => intro a1 a2 a3 a4 a5 a6 a7 a8 a9 hi hm; exact hs (lq9 body n) a1 a2 a3 a4 a5 a6 a7 a8 a9 hi (fun b1 b2 b3 b4 b5 b6 b7 b8 b9 h1 h2 => ih b1 b2 b3 b4 b5 b6 b7 b8 b9 h1 (by omega))
  intro a1 a2 a3 a4 a5 a6 a7 a8 a9 h
  exact ⟨_, key _ a1 a2 a3 a4 a5 a6 a7 a8 a9 h (Nat.lt_succ_self _)⟩
theorem lq9_m {A1 A2 A3 A4 A5 A6 A7 A8 A9 : Type} {body : (A1 → A2 → A3 → A4 → A5 → A6 → A7 → A8 → A9 → Prop) → A1 → A2 → A3 → A4 → A5 → A6 → A7 → A8 → A9 → Prop} (II : Nat → A1 → A2 → A3 → A4 → A5 → A6 → A7 → A8 → A9 → Prop) (hs : ∀ (LL : A1 → A2 → A3 → A4 → A5 → A6 → A7 → A8 → A9 → Prop) (m : Nat) (a1 : A1) (a2 : A2) (a3 : A3) (a4 : A4) (a5 : A5) (a6 : A6) (a7 : A7) (a8 : A8) (a9 : A9), II m a1 a2 a3 a4 a5 a6 a7 a8 a9 → (∀ (m2 : Nat) (b1 : A1) (b2 : A2) (b3 : A3) (b4 : A4) (b5 : A5) (b6 : A6) (b7 : A7) (b8 : A8) (b9 : A9), m2 < m → II m2 b1 b2 b3 b4 b5 b6 b7 b8 b9 → LL b1 b2 b3 b4 b5 b6 b7 b8 b9) → body LL a1 a2 a3 a4 a5 a6 a7 a8 a9) : ∀ (m : Nat) (a1 : A1) (a2 : A2) (a3 : A3) (a4 : A4) (a5 : A5) (a6 : A6) (a7 : A7) (a8 : A8) (a9 : A9), II m a1 a2 a3 a4 a5 a6 a7 a8 a9 → ∃ n : Nat, lq9 body n a1 a2 a3 a4 a5 a6 a7 a8 a9 := by
  have key : ∀ (n m : Nat) (a1 : A1) (a2 : A2) (a3 : A3) (a4 : A4) (a5 : A5) (a6 : A6) (a7 : A7) (a8 : A8) (a9 : A9), m < n → II m a1 a2 a3 a4 a5 a6 a7 a8 a9 → lq9 body n a1 a2 a3 a4 a5 a6 a7 a8 a9 := by
    intro n
    induction n with
    | zero => intro m a1 a2 a3 a4 a5 a6 a7 a8 a9 h; exact absurd h (Nat.not_lt_zero _)
    | succ n ih => intro m a1 a2 a3 a4 a5 a6 a7 a8 a9 hm hi; exact hs (lq9 body n) m a1 a2 a3 a4 a5 a6 a7 a8 a9 hi (fun m2 b1 b2 b3 b4 b5 b6 b7 b8 b9 h1 h2 => ih m2 b1 b2 b3 b4 b5 b6 b7 b8 b9 (by omega) h2)
  intro m a1 a2 a3 a4 a5 a6 a7 a8 a9 h
  exact ⟨_, key (m + 1) m a1 a2 a3 a4 a5 a6 a7 a8 a9 (Nat.lt_succ_self _) h⟩
theorem jn9_ind {A1 A2 A3 A4 A5 A6 A7 A8 A9 : Type} {rest : A1 → A2 → A3 → A4 → A5 → A6 → A7 → A8 → A9 → Prop} {f : (A1 → A2 → A3 → A4 → A5 → A6 → A7 → A8 → A9 → Prop) → Prop} {GG : A1 → A2 → A3 → A4 → A5 → A6 → A7 → A8 → A9 → Prop} {TT : Prop} (h : jn rest f) (hr : ∀ (a1 : A1) (a2 : A2) (a3 : A3) (a4 : A4) (a5 : A5) (a6 : A6) (a7 : A7) (a8 : A8) (a9 : A9), rest a1 a2 a3 a4 a5 a6 a7 a8 a9 → GG a1 a2 a3 a4 a5 a6 a7 a8 a9) (hf : ∀ (JJ : A1 → A2 → A3 → A4 → A5 → A6 → A7 → A8 → A9 → Prop), (∀ (a1 : A1) (a2 : A2) (a3 : A3) (a4 : A4) (a5 : A5) (a6 : A6) (a7 : A7) (a8 : A8) (a9 : A9), JJ a1 a2 a3 a4 a5 a6 a7 a8 a9 → GG a1 a2 a3 a4 a5 a6 a7 a8 a9) → f JJ → TT) : TT := hf rest hr h
def lq10 {A1 A2 A3 A4 A5 A6 A7 A8 A9 A10 : Type} (body : (A1 → A2 → A3 → A4 → A5 → A6 → A7 → A8 → A9 → A10 → Prop) → A1 → A2 → A3 → A4 → A5 → A6 → A7 → A8 → A9 → A10 → Prop) : Nat → A1 → A2 → A3 → A4 → A5 → A6 → A7 → A8 → A9 → A10 → Prop
  | 0 => fun _ _ _ _ _ _ _ _ _ _ => False
  | n + 1 => body (lq10 body n)
theorem lq10_ind {A1 A2 A3 A4 A5 A6 A7 A8 A9 A10 : Type} {body : (A1 → A2 → A3 → A4 → A5 → A6 → A7 → A8 → A9 → A10 → Prop) → A1 → A2 → A3 → A4 → A5 → A6 → A7 → A8 → A9 → A10 → Prop} {GG : A1 → A2 → A3 → A4 → A5 → A6 → A7 → A8 → A9 → A10 → Prop} (hs : ∀ (LL : A1 → A2 → A3 → A4 → A5 → A6 → A7 → A8 → A9 → A10 → Prop), (∀ (a1 : A1) (a2 : A2) (a3 : A3) (a4 : A4) (a5 : A5) (a6 : A6) (a7 : A7) (a8 : A8) (a9 : A9) (a10 : A10), LL a1 a2 a3 a4 a5 a6 a7 a8 a9 a10 → GG a1 a2 a3 a4 a5 a6 a7 a8 a9 a10) → ∀ (a1 : A1) (a2 : A2) (a3 : A3) (a4 : A4) (a5 : A5) (a6 : A6) (a7 : A7) (a8 : A8) (a9 : A9) (a10 : A10), body LL a1 a2 a3 a4 a5 a6 a7 a8 a9 a10 → GG a1 a2 a3 a4 a5 a6 a7 a8 a9 a10) : ∀ (n : Nat) (a1 : A1) (a2 : A2) (a3 : A3) (a4 : A4) (a5 : A5) (a6 : A6) (a7 : A7) (a8 : A8) (a9 : A9) (a10 : A10), lq10 body n a1 a2 a3 a4 a5 a6 a7 a8 a9 a10 → GG a1 a2 a3 a4 a5 a6 a7 a8 a9 a10 := by
  intro n
  induction n with
  | zero => intro a1 a2 a3 a4 a5 a6 a7 a8 a9 a10 h; exact h.elim
  | succ n ih => exact hs (lq10 body n) ih
theorem lq10_of {A1 A2 A3 A4 A5 A6 A7 A8 A9 A10 : Type} {body : (A1 → A2 → A3 → A4 → A5 → A6 → A7 → A8 → A9 → A10 → Prop) → A1 → A2 → A3 → A4 → A5 → A6 → A7 → A8 → A9 → A10 → Prop} (II : A1 → A2 → A3 → A4 → A5 → A6 → A7 → A8 → A9 → A10 → Prop) (mu : A1 → A2 → A3 → A4 → A5 → A6 → A7 → A8 → A9 → A10 → Nat) (hs : ∀ (LL : A1 → A2 → A3 → A4 → A5 → A6 → A7 → A8 → A9 → A10 → Prop) (a1 : A1) (a2 : A2) (a3 : A3) (a4 : A4) (a5 : A5) (a6 : A6) (a7 : A7) (a8 : A8) (a9 : A9) (a10 : A10), II a1 a2 a3 a4 a5 a6 a7 a8 a9 a10 → (∀ (b1 : A1) (b2 : A2) (b3 : A3) (b4 : A4) (b5 : A5) (b6 : A6) (b7 : A7) (b8 : A8) (b9 : A9) (b10 : A10), II b1 b2 b3 b4 b5 b6 b7 b8 b9 b10 → mu b1 b2 b3 b4 b5 b6 b7 b8 b9 b10 < mu a1 a2 a3 a4 a5 a6 a7 a8 a9 a10 → LL b1 b2 b3 b4 b5 b6 b7 b8 b9 b10) → body LL a1 a2 a3 a4 a5 a6 a7 a8 a9 a10) : ∀ (a1 : A1) (a2 : A2) (a3 : A3) (a4 : A4) (a5 : A5) (a6 : A6) (a7 : A7) (a8 : A8) (a9 : A9) (a10 : A10), II a1 a2 a3 a4 a5 a6 a7 a8 a9 a10 → ∃ n : Nat, lq10 body n a1 a2 a3 a4 a5 a6 a7 a8 a9 a10 := by
  have key : ∀ (n : Nat) (a1 : A1) (a2 : A2) (a3 : A3) (a4 : A4) (a5 : A5) (a6 : A6) (a7 : A7) (a8 : A8) (a9 : A9) (a10 : A10), II a1 a2 a3 a4 a5 a6 a7 a8 a9 a10 → mu a1 a2 a3 a4 a5 a6 a7 a8 a9 a10 < n → lq10 body n a1 a2 a3 a4 a5 a6 a7 a8 a9 a10 := by
    intro n
    induction n with
    | zero => intro a1 a2 a3 a4 a5 a6 a7 a8 a9 a10 _ h; exact absurd h (Nat.not_lt_zero _)
    | succ n ih => intro a1 a2 a3 a4 a5 a6 a7 a8 a9 a10 hi hm; exact hs (lq10 body n) a1 a2 a3 a4 a5 a6 a7 a8 a9 a10 hi (fun b1 b2 b3 b4 b5 b6 b7 b8 b9 b10 h1 h2 => ih b1 b2 b3 b4 b5 b6 b7 b8 b9 b10 h1 (by omega))
  intro a1 a2 a3 a4 a5 a6 a7 a8 a9 a10 h
  exact ⟨_, key _ a1 a2 a3 a4 a5 a6 a7 a8 a9 a10 h (Nat.lt_succ_self _)⟩
theorem lq10_m {A1 A2 A3 A4 A5 A6 A7 A8 A9 A10 : Type} {body : (A1 → A2 → A3 → A4 → A5 → A6 → A7 → A8 → A9 → A10 → Prop) → A1 → A2 → A3 → A4 → A5 → A6 → A7 → A8 → A9 → A10 → Prop} (II : Nat → A1 → A2 → A3 → A4 → A5 → A6 → A7 → A8 → A9 → A10 → Prop) (hs : ∀ (LL : A1 → A2 → A3 → A4 → A5 → A6 → A7 → A8 → A9 → A10 → Prop) (m : Nat) (a1 : A1) (a2 : A2) (a3 : A3) (a4 : A4) (a5 : A5) (a6 : A6) (a7 : A7) (a8 : A8) (a9 : A9) (a10 : A10), II m a1 a2 a3 a4 a5 a6 a7 a8 a9 a10 → (∀ (m2 : Nat) (b1 : A1) (b2 : A2) (b3 : A3) (b4 : A4) (b5 : A5) (b6 : A6) (b7 : A7) (b8 : A8) (b9 : A9) (b10 : A10), m2 < m → II m2 b1 b2 b3 b4 b5 b6 b7 b8 b9 b10 → LL b1 b2 b3 b4 b5 b6 b7 b8 b9 b10) → body LL a1 a2 a3 a4 a5 a6 a7 a8 a9 a10) : ∀ (m : Nat) (a1 : A1) (a2 : A2) (a3 : A3) (a4 : A4) (a5 : A5) (a6 : A6) (a7 : A7) (a8 : A8) (a9 : A9) (a10 : A10), II m a1 a2 a3 a4 a5 a6 a7 a8 a9 a10 → ∃ n : Nat, lq10 body n a1 a2 a3 a4 a5 a6 a7 a8 a9 a10 := by
  have key : ∀ (n m : Nat) (a1 : A1) (a2 : A2) (a3 : A3) (a4 : A4) (a5 : A5) (a6 : A6) (a7 : A7) (a8 : A8) (a9 : A9) (a10 : A10), m < n → II m a1 a2 a3 a4 a5 a6 a7 a8 a9 a10 → lq10 body n a1 a2 a3 a4 a5 a6 a7 a8 a9 a10 := by
    intro n
    induction n with
    | zero => intro m a1 a2 a3 a4 a5 a6 a7 a8 a9 a10 h; exact absurd h (Nat.not_lt_zero _)
    | succ n ih => intro m a1 a2 a3 a4 a5 a6 a7 a8 a9 a10 hm hi; exact hs (lq10 body n) m a1 a2 a3 a4 a5 a6 a7 a8 a9 a10 hi (fun m2 b1 b2 b3 b4 b5 b6 b7 b8 b9 b10 h1 h2 => ih m2 b1 b2 b3 b4 b5 b6 b7 b8 b9 b10 (by omega) h2)
  intro m a1 a2 a3 a4 a5 a6 a7 a8 a9 a10 h
  exact ⟨_, key (m + 1) m a1 a2 a3 a4 a5 a6 a7 a8 a9 a10 (Nat.lt_succ_self _) h⟩
theorem jn10_ind {A1 A2 A3 A4 A5 A6 A7 A8 A9 A10 : Type} {rest : A1 → A2 → A3 → A4 → A5 → A6 → A7 → A8 → A9 → A10 → Prop} {f : (A1 → A2 → A3 → A4 → A5 → A6 → A7 → A8 → A9 → A10 → Prop) → Prop} {GG : A1 → A2 → A3 → A4 → A5 → A6 → A7 → A8 → A9 → A10 → Prop} {TT : Prop} (h : jn rest f) (hr : ∀ (a1 : A1) (a2 : A2) (a3 : A3) (a4 : A4) (a5 : A5) (a6 : A6) (a7 : A7) (a8 : A8) (a9 : A9) (a10 : A10), rest a1 a2 a3 a4 a5 a6 a7 a8 a9 a10 → GG a1 a2 a3 a4 a5 a6 a7 a8 a9 a10) (hf : ∀ (JJ : A1 → A2 → A3 → A4 → A5 → A6 → A7 → A8 → A9 → A10 → Prop), (∀ (a1 : A1) (a2 : A2) (a3 : A3) (a4 : A4) (a5 : A5) (a6 : A6) (a7 : A7) (a8 : A8) (a9 : A9) (a10 : A10), JJ a1 a2 a3 a4 a5 a6 a7 a8 a9 a10 → GG a1 a2 a3 a4 a5 a6 a7 a8 a9 a10) → f JJ → TT) : TT := hf rest hr h
def lq11 {A1 A2 A3 A4 A5 A6 A7 A8 A9 A10 A11 : Type} (body : (A1 → A2 → A3 → A4 → A5 → A6 → A7 → A8 → A9 → A10 → A11 → Prop) → A1 → A2 → A3 → A4 → A5 → A6 → A7 → A8 → A9 → A10 → A11 → Prop) : Nat → A1 → A2 → A3 → A4 → A5 → A6 → A7 → A8 → A9 → A10 → A11 → Prop
  | 0 => fun _ _ _ _ _ _ _ _ _ _ _ => False
  | n + 1 => body (lq11 body n)
theorem lq11_ind {A1 A2 A3 A4 A5 A6 A7 A8 A9 A10 A11 : Type} {body : (A1 → A2 → A3 → A4 → A5 → A6 → A7 → A8 → A9 → A10 → A11 → Prop) → A1 → A2 → A3 → A4 → A5 → A6 → A7 → A8 → A9 → A10 → A11 → Prop} {GG : A1 → A2 → A3 → A4 → A5 → A6 → A7 → A8 → A9 → A10 → A11 → Prop} (hs : ∀ (LL : A1 → A2 → A3 → A4 → A5 → A6 → A7 → A8 → A9 → A10 → A11 → Prop), (∀ (a1 : A1) (a2 : A2) (a3 : A3) (a4 : A4) (a5 : A5) (a6 : A6) (a7 : A7) (a8 : A8) (a9 : A9) (a10 : A10) (a11 : A11), LL a1 a2 a3 a4 a5 a6 a7 a8 a9 a10 a11 → GG a1 a2 a3 a4 a5 a6 a7 a8 a9 a10 a11) → ∀ (a1 : A1) (a2 : A2) (a3 : A3) (a4 : A4) (a5 : A5) (a6 : A6) (a7 : A7) (a8 : A8) (a9 : A9) (a10 : A10) (a11 : A11), body LL a1 a2 a3 a4 a5 a6 a7 a8 a9 a10 a11 → GG a1 a2 a3 a4 a5 a6 a7 a8 a9 a10 a11) : ∀ (n : Nat) (a1 : A1) (a2 : A2) (a3 : A3) (a4 : A4) (a5 : A5) (a6 : A6) (a7 : A7) (a8 : A8) (a9 : A9) (a10 : A10) (a11 : A11), lq11 body n a1 a2 a3 a4 a5 a6 a7 a8 a9 a10 a11 → GG a1 a2 a3 a4 a5 a6 a7 a8 a9 a10 a11 := by
  intro n
  induction n with
  | zero => intro a1 a2 a3 a4 a5 a6 a7 a8 a9 a10 a11 h; exact h.elim
  | succ n ih => exact hs (lq11 body n) ih
theorem lq11_of {A1 A2 A3 A4 A5 A6 A7 A8 A9 A10 A11 : Type} {body : (A1 → A2 → A3 → A4 → A5 → A6 → A7 → A8 → A9 → A10 → A11 → Prop) → A1 → A2 → A3 → A4 → A5 → A6 → A7 → A8 → A9 → A10 → A11 → Prop} (II : A1 → A2 → A3 → A4 → A5 → A6 → A7 → A8 → A9 → A10 → A11 → Prop) (mu : A1 → A2 → A3 → A4 → A5 → A6 → A7 → A8 → A9 → A10 → A11 → Nat) (hs : ∀ (LL : A1 → A2 → A3 → A4 → A5 → A6 → A7 → A8 → A9 → A10 → A11 → Prop) (a1 : A1) (a2 : A2) (a3 : A3) (a4 : A4) (a5 : A5) (a6 : A6) (a7 : A7) (a8 : A8) (a9 : A9) (a10 : A10) (a11 : A11), II a1 a2 a3 a4 a5 a6 a7 a8 a9 a10 a11 → (∀ (b1 : A1) (b2 : A2) (b3 : A3) (b4 : A4) (b5 : A5) (b6 : A6) (b7 : A7) (b8 : A8) (b9 : A9) (b10 : A10) (b11 : A11), II b1 b2 b3 b4 b5 b6 b7 b8 b9 b10 b11 → mu b1 b2 b3 b4 b5 b6 b7 b8 b9 b10 b11 < mu a1 a2 a3 a4 a5 a6 a7 a8 a9 a10 a11 → LL b1 b2 b3 b4 b5 b6 b7 b8 b9 b10 b11) → body LL a1 a2 a3 a4 a5 a6 a7 a8 a9 a10 a11) : ∀ (a1 : A1) (a2 : A2) (a3 : A3) (a4 : A4) (a5 : A5) (a6 : A6) (a7 : A7) (a8 : A8) (a9 : A9) (a10 : A10) (a11 : A11), II a1 a2 a3 a4 a5 a6 a7 a8 a9 a10 a11 → ∃ n : Nat, lq11 body n a1 a2 a3 a4 a5 a6 a7 a8 a9 a10 a11 := by
  have key : ∀ (n : Nat) (a1 : A1) (a2 : A2) (a3 : A3) (a4 : A4) (a5 : A5) (a6 : A6) (a7 : A7) (a8 : A8) (a9 : A9) (a10 : A10) (a11 : A11), II a1 a2 a3 a4 a5 a6 a7 a8 a9 a10 a11 → mu a1 a2 a3 a4 a5 a6 a7 a8 a9 a10 a11 < n → lq11 body n a1 a2 a3 a4 a5 a6 a7 a8 a9 a10 a11 := by
    intro n
    induction n with
    | zero => intro a1 a2 a3 a4 a5 a6 a7 a8 a9 a10 a11 _ h; exact absurd h (Nat.not_lt_zero _)
    | succ n ih => intro a1 a2 a3 a4 a5 a6 a7 a8 a9 a10 a11 hi hm; exact hs (lq11 body n) a1 a2 a3 a4 a5 a6 a7 a8 a9 a10 a11 hi (fun b1 b2 b3 b4 b5 b6 b7 b8 b9 b10 b11 h1 h2 => ih b1 b2 b3 b4 b5 b6 b7 b8 b9 b10 b11 h1 (by omega))
  intro a1 a2 a3 a4 a5 a6 a7 a8 a9 a10 a11 h
  exact ⟨_, key _ a1 a2 a3 a4 a5 a6 a7 a8 a9 a10 a11 h (Nat.lt_succ_self _)⟩
theorem lq11_m {A1 A2 A3 A4 A5 A6 A7 A8 A9 A10 A11 : Type} {body : (A1 → A2 → A3 → A4 → A5 → A6 → A7 → A8 → A9 → A10 → A11 → Prop) → A1 → A2 → A3 → A4 → A5 → A6 → A7 → A8 → A9 → A10 → A11 → Prop} (II : Nat → A1 → A2 → A3 → A4 → A5 → A6 → A7 → A8 → A9 → A10 → A11 → Prop) (hs : ∀ (LL : A1 → A2 → A3 → A4 → A5 → A6 → A7 → A8 → A9 → A10 → A11 → Prop) (m : Nat) (a1 : A1) (a2 : A2) (a3 : A3) (a4 : A4) (a5 : A5) (a6 : A6) (a7 : A7) (a8 : A8) (a9 : A9) (a10 : A10) (a11 : A11), II m a1 a2 a3 a4 a5 a6 a7 a8 a9 a10 a11 → (∀ (m2 : Nat) (b1 : A1) (b2 : A2) (b3 : A3) (b4 : A4) (b5 : A5) (b6 : A6) (b7 : A7) (b8 : A8) (b9 : A9) (b10 : A10) (b11 : A11), m2 < m → II m2 b1 b2 b3 b4 b5 b6 b7 b8 b9 b10 b11 → LL b1 b2 b3 b4 b5 b6 b7 b8 b9 b10 b11) → body LL a1 a2 a3 a4 a5 a6 a7 a8 a9 a10 a11) : ∀ (m : Nat) (a1 : A1) (a2 : A2) (a3 : A3) (a4 : A4) (a5 : A5) (a6 : A6) (a7 : A7) (a8 : A8) (a9 : A9) (a10 : A10) (a11 : A11), II m a1 a2 a3 a4 a5 a6 a7 a8 a9 a10 a11 → ∃ n : Nat, lq11 body n a1 a2 a3 a4 a5 a6 a7 a8 a9 a10 a11 := by
  have key : ∀ (n m : Nat) (a1 : A1) (a2 : A2) (a3 : A3) (a4 : A4) (a5 : A5) (a6 : A6) (a7 : A7) (a8 : A8) (a9 : A9) (a10 : A10) (a11 : A11), m < n → II m a1 a2 a3 a4 a5 a6 a7 a8 a9 a10 a11 → lq11 body n a1 a2 a3 a4 a5 a6 a7 a8 a9 a10 a11 := by
    intro n
    induction n with
    | zero => intro m a1 a2 a3 a4 a5 a6 a7 a8 a9 a10 a11 h; exact absurd h (Nat.not_lt_zero _)
    | succ n ih => intro m a1 a2 a3 a4 a5 a6 a7 a8 a9 a10 a11 hm hi; exact hs (lq11 body n) m a1 a2 a3 a4 a5 a6 a7 a8 a9 a10 a11 hi (fun m2 b1 b2 b3 b4 b5 b6 b7 b8 b9 b10 b11 h1 h2 => ih m2 b1 b2 b3 b4 b5 b6 b7 b8 b9 b10 b11 (by omega) h2)
  intro m a1 a2 a3 a4 a5 a6 a7 a8 a9 a10 a11 h
  exact ⟨_, key (m + 1) m a1 a2 a3 a4 a5 a6 a7 a8 a9 a10 a11 (Nat.lt_succ_self _) h⟩
theorem jn11_ind {A1 A2 A3 A4 A5 A6 A7 A8 A9 A10 A11 : Type} {rest : A1 → A2 → A3 → A4 → A5 → A6 → A7 → A8 → A9 → A10 → A11 → Prop} {f : (A1 → A2 → A3 → A4 → A5 → A6 → A7 → A8 → A9 → A10 → A11 → Prop) → Prop} {GG : A1 → A2 → A3 → A4 → A5 → A6 → A7 → A8 → A9 → A10 → A11 → Prop} {TT : Prop} (h : jn rest f) (hr : ∀ (a1 : A1) (a2 : A2) (a3 : A3) (a4 : A4) (a5 : A5) (a6 : A6) (a7 : A7) (a8 : A8) (a9 : A9) (a10 : A10) (a11 : A11), rest a1 a2 a3 a4 a5 a6 a7 a8 a9 a10 a11 → GG a1 a2 a3 a4 a5 a6 a7 a8 a9 a10 a11) (hf : ∀ (JJ : A1 → A2 → A3 → A4 → A5 → A6 → A7 → A8 → A9 → A10 → A11 → Prop), (∀ (a1 : A1) (a2 : A2) (a3 : A3) (a4 : A4) (a5 : A5) (a6 : A6) (a7 : A7) (a8 : A8) (a9 : A9) (a10 : A10) (a11 : A11), JJ a1 a2 a3 a4 a5 a6 a7 a8 a9 a10 a11 → GG a1 a2 a3 a4 a5 a6 a7 a8 a9 a10 a11) → f JJ → TT) : TT := hf rest hr h
theorem fl_in2 {x : Int32} (h : vp_in x 2) : x = 0 ∨ x = 1 := by
  obtain ⟨j, hj, rfl⟩ := vp_in_of h (by decide)
  rcases (show j = 0 ∨ j = 1 by omega) with rfl | rfl
  · exact Or.inl rfl
  · exact Or.inr rfl
theorem jn0_ind {rest : Prop} {f : Prop → Prop} {GG TT : Prop} (h : jn rest f) (hr : rest → GG) (hf : ∀ (JJ : Prop), (JJ → GG) → f JJ → TT) : TT := hf rest hr h
theorem fl_keep {D : va_G} {cl : List vw_C} {ws : va_W} {H H1 : Heap} (hP : va_P D cl ws H) (hk : ∀ q : Nat, q < H.size → ¬ va_A [] H.size q → H1[q]? = H[q]?) : va_P D cl ws H1 := hP.kept (fun k q hq => hk q.1 (hP k q hq).lt (by
  rintro (⟨k, e, h⟩ | h)
  · simp at h
  · exact absurd (hP k q hq).lt (Nat.not_lt.mpr h)))
theorem fl_freeN {A0 : Nat → Prop} {H0 H : Heap} {locs : List Loc} (hS : va_S A0 H0 H locs) (hA : ∀ q, H0.size ≤ q → A0 q) : ∀ q, va_A [] H.size q → A0 q := by
  rintro q (⟨k, e, h⟩ | h)
  · simp at h
  · exact hA q (Nat.le_trans hS.1 h)
theorem fl_ofW {l : Launch} {y : MethodName} {ws ws' : List Cond} {rm : Room} {Pc : Array Value → State → Prop} {Qc : Array Value → State → Outcome → State → Prop} {mc ms : Nat} {free : Addr → Prop} {cc : ByteArray} {maxL : Nat} {ret : Option FieldType} (hy : plainName y.cls = true) (hw : ws = Cond.code y cc maxL ret :: ws')
    (body : ∀ p e s m args below meth c s₁ Q, BodyLoose p l y (headSpec ws rm) cc maxL ret e s m args below meth c s₁ → c.maxLocals = maxL → Pc args s → Q = MQ below Qc args s mc ms free →
      W p l e (headSpec ws rm).room s m args below meth c s.heap [] 0 0 Q (entryFrame m args maxL)) : Met l y ws rm Pc Qc mc ms free :=
  Met.ofW hy hw (fun p e s m args below meth c s₁ B hml hv => body p e s m args below meth c s₁ _ B hml hv rfl)
/-- the words of nest mates' private members -/
def lw_nest : List Cond := [.methodLinkNest RX7 9 yX0_init RX7, .methodLinkNest RX7 18 yX4_init RX7, .methodLinkNest RX7 25 yX1_init RX7, .methodLinkNest RX7 35 yX2_init RX7, .methodLinkNest RX7 42 yX5_init RX7, .methodLinkNest RX7 49 yX3_init RX7, .methodLinkNest RX0 23 yX7_isAmong RX7, .methodLinkNest RX4 49 yX7_isAmong RX7]
def nw_ok (U : State) : Prop := ∀ w ∈ lw_nest, va_Nw w U
theorem nw_ok.warm {s U : State} (hW : s.WarmedH U.vm) (h : nw_ok s) : nw_ok U := by
  intro w hw
  have h2 := h w hw
  simp only [lw_nest, List.mem_cons, List.not_mem_nil, or_false] at hw
  rcases hw with rfl | rfl | rfl | rfl | rfl | rfl | rfl | rfl <;> exact va_Nw.warmM hW h2
theorem nw_ok.call {U : State} {g : JFrame} {mk : MethodId} {a : Array Value} (h : nw_ok U) : nw_ok (U.calling g mk a) := fun w hw => va_Nw.same (u := U) (U := U.calling g mk a) (by
  simp only [lw_nest, List.mem_cons, List.not_mem_nil, or_false] at hw
  rcases hw with rfl | rfl | rfl | rfl | rfl | rfl | rfl | rfl <;> rfl) rfl (h w hw)
def wd_X0 (a : Nat → Nat) (ca : Nat → ClassId) (u : Ob) : va_W := [(a 0, .inr (0, [.int (u.1 0), .int (u.1 1), .ref (a 3), .ref (a 4)])), (a 3, .inl (ca 3, 2, .inl (u.2.1 2))), (a 4, .inl (ca 4, 100, .inl (u.2.1 3)))]
def ty_X0 (ca : Nat → ClassId) : List (ClassId × FieldType) := [(ca 3, .boolean), (ca 4, .int)]
def wd_X1 (a : Nat → Nat) (ca : Nat → ClassId) (u : Ob) : va_W := [(a 0, .inr (1, [.int (u.1 0), .ref (a 2)])), (a 2, .inl (ca 2, 2, .inl (u.2.1 1)))]
def ty_X1 (ca : Nat → ClassId) : List (ClassId × FieldType) := [(ca 2, .int)]
def wd_X2 (a : Nat → Nat) (ca : Nat → ClassId) (u : Ob) : va_W := [(a 0, .inr (2, [.int (u.1 0), .int (u.1 1), .ref (a 3), .ref (a 4), .ref (a 5), .ref (a 6), .ref (a 7), .ref (a 8)])), (a 3, .inl (ca 3, 80, .inl (u.2.1 2))), (a 4, .inl (ca 4, 80, .inl (u.2.1 3))), (a 5, .inl (ca 5, 80, .inl (u.2.1 4))), (a 6, .inl (ca 6, 80, .inl (u.2.1 5))), (a 7, .inl (ca 7, 80, .inl (u.2.1 6))), (a 8, .inl (ca 8, 80, .inl (u.2.1 7)))]
def ty_X2 (ca : Nat → ClassId) : List (ClassId × FieldType) := [(ca 3, .int), (ca 4, .int), (ca 5, .int), (ca 6, .int), (ca 7, .int), (ca 8, .int)]
def wd_X3 (a : Nat → Nat) (ca : Nat → ClassId) (u : Ob) : va_W := [(a 0, .inr (3, [.int (u.1 0), .int (u.1 1), .ref (a 3), .int (u.1 3)])), (a 3, .inl (ca 3, 60, .inl (u.2.1 2)))]
def ty_X3 (ca : Nat → ClassId) : List (ClassId × FieldType) := [(ca 3, .int)]
def wd_X4 (a : Nat → Nat) (ca : Nat → ClassId) (u : Ob) : va_W := [(a 0, .inr (4, [.int (u.1 0), .ref (a 2), .ref (a 3), .int (u.1 3)])), (a 2, .inl (ca 2, 100, .inl (u.2.1 1))), (a 3, .inl (ca 3, 130, .inl (u.2.1 2)))]
def ty_X4 (ca : Nat → ClassId) : List (ClassId × FieldType) := [(ca 2, .int), (ca 3, .byte)]
def wd_X5 (a : Nat → Nat) (ca : Nat → ClassId) (u : Ob) : va_W := [(a 0, .inr (5, [.ref (a 1), .ref (a 2), .int (u.1 2)])), (a 1, .inl (ca 1, 512, .inr (.inl (u.2.2 0)))), (a 2, .inl (ca 2, 12800, .inl (u.2.1 1)))]
def ty_X5 (ca : Nat → ClassId) : List (ClassId × FieldType) := [(ca 1, .long), (ca 2, .int)]
def wd_X8 (a : Nat → Nat) (ca : Nat → ClassId) (u : Ob) : va_W := [(a 0, .inr (7, [.int (u.1 0), .ref (a 2), .int (u.1 2), .ref (a 4), .ref (a 5), .ref (a 6), .ref (a 7), .ref (a 8), .ref (a 9), .int (u.1 9), .int (u.1 10), .int (u.1 11), .ref (a 13), .ref (a 14), .ref (a 15), .ref (a 16), .int (u.1 16), .ref (a 18), .ref (a 19), .ref (a 20), .ref (a 21), .ref (a 22), .ref (a 23), .ref (a 24), .ref (a 25)])), (a 2, .inl (ca 2, 2, .inl (u.2.1 1))), (a 4, .inl (ca 4, 20, .inl (u.2.1 3))), (a 5, .inl (ca 5, 20, .inl (u.2.1 4))), (a 6, .inl (ca 6, 20, .inl (u.2.1 5))), (a 7, .inl (ca 7, 20, .inl (u.2.1 6))), (a 8, .inl (ca 8, 20, .inl (u.2.1 7))), (a 9, .inl (ca 9, 130, .inl (u.2.1 8))), (a 13, .inl (ca 13, 100, .inl (u.2.1 12))), (a 14, .inl (ca 14, 83, .inl (u.2.1 13))), (a 15, .inl (ca 15, 166, .inl (u.2.1 14))), (a 16, .inl (ca 16, 1826, .inl (u.2.1 15))), (a 18, .inl (ca 18, 80, .inl (u.2.1 17))), (a 19, .inl (ca 19, 80, .inl (u.2.1 18))), (a 20, .inl (ca 20, 80, .inl (u.2.1 19))), (a 21, .inl (ca 21, 32768, .inl (u.2.1 20))), (a 22, .inl (ca 22, 32768, .inl (u.2.1 21))), (a 23, .inl (ca 23, 2, .inl (u.2.1 22))), (a 24, .inl (ca 24, 2, .inl (u.2.1 23))), (a 25, .inl (ca 25, 120, .inl (u.2.1 24)))]
def ty_X8 (ca : Nat → ClassId) : List (ClassId × FieldType) := [(ca 2, .boolean), (ca 4, .int), (ca 5, .int), (ca 6, .int), (ca 7, .int), (ca 8, .int), (ca 9, .int), (ca 13, .int), (ca 14, .int), (ca 15, .int), (ca 16, .int), (ca 18, .int), (ca 19, .int), (ca 20, .int), (ca 21, .int), (ca 22, .int), (ca 23, .int), (ca 24, .int), (ca 25, .int)]
def sh_f (AA : Nat → Nat → Nat) : Nat → Option Nat := fun i => if i = 0 then some (AA 7 0) else if i = 1 then some (AA 8 0) else none
def wd_X7 (AA : Nat → Nat → Nat) (CA : Nat → Nat → ClassId) (uf um ut uh ug ur uw ux uy : Ob) : va_W := [(AA 0 0, .inr (6, [.ref (AA 1 0), .ref (AA 2 0), .ref (AA 3 0), .ref (AA 4 0), .ref (AA 5 0), .ref (AA 6 0), .ref (AA 0 7), .int (uf.1 7)])), (AA 0 7, .inl (CA 0 7, 2, .inr (.inr (.inr (.inr (sh_f AA)))))), (AA 1 0, .inr (0, [.int (um.1 0), .int (um.1 1), .ref (AA 1 3), .ref (AA 1 4)])), (AA 1 3, .inl (CA 1 3, 2, .inl (um.2.1 2))), (AA 1 4, .inl (CA 1 4, 100, .inl (um.2.1 3))), (AA 2 0, .inr (4, [.int (ut.1 0), .ref (AA 2 2), .ref (AA 2 3), .int (ut.1 3)])), (AA 2 2, .inl (CA 2 2, 100, .inl (ut.2.1 1))), (AA 2 3, .inl (CA 2 3, 130, .inl (ut.2.1 2))), (AA 3 0, .inr (1, [.int (uh.1 0), .ref (AA 3 2)])), (AA 3 2, .inl (CA 3 2, 2, .inl (uh.2.1 1))), (AA 4 0, .inr (1, [.int (ug.1 0), .ref (AA 4 2)])), (AA 4 2, .inl (CA 4 2, 2, .inl (ug.2.1 1))), (AA 5 0, .inr (2, [.int (ur.1 0), .int (ur.1 1), .ref (AA 5 3), .ref (AA 5 4), .ref (AA 5 5), .ref (AA 5 6), .ref (AA 5 7), .ref (AA 5 8)])), (AA 5 3, .inl (CA 5 3, 80, .inl (ur.2.1 2))), (AA 5 4, .inl (CA 5 4, 80, .inl (ur.2.1 3))), (AA 5 5, .inl (CA 5 5, 80, .inl (ur.2.1 4))), (AA 5 6, .inl (CA 5 6, 80, .inl (ur.2.1 5))), (AA 5 7, .inl (CA 5 7, 80, .inl (ur.2.1 6))), (AA 5 8, .inl (CA 5 8, 80, .inl (ur.2.1 7))), (AA 6 0, .inr (5, [.ref (AA 6 1), .ref (AA 6 2), .int (uw.1 2)])), (AA 6 1, .inl (CA 6 1, 512, .inr (.inl (uw.2.2 0)))), (AA 6 2, .inl (CA 6 2, 12800, .inl (uw.2.1 1))), (AA 7 0, .inr (3, [.int (ux.1 0), .int (ux.1 1), .ref (AA 7 3), .int (ux.1 3)])), (AA 7 3, .inl (CA 7 3, 60, .inl (ux.2.1 2))), (AA 8 0, .inr (3, [.int (uy.1 0), .int (uy.1 1), .ref (AA 8 3), .int (uy.1 3)])), (AA 8 3, .inl (CA 8 3, 60, .inl (uy.2.1 2)))]
def ty_X7 (CA : Nat → Nat → ClassId) : List (ClassId × FieldType) := [(CA 0 7, .object "ForgettingLines$Sheet"), (CA 1 3, .boolean), (CA 1 4, .int), (CA 2 2, .int), (CA 2 3, .byte), (CA 3 2, .int), (CA 4 2, .int), (CA 5 3, .int), (CA 5 4, .int), (CA 5 5, .int), (CA 5 6, .int), (CA 5 7, .int), (CA 5 8, .int), (CA 6 1, .long), (CA 6 2, .int), (CA 7 3, .int), (CA 8 3, .int)]
