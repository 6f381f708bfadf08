theorem ob_as (u : Ob) (k : Nat) (f : Nat → Int32) : (fs_a u k f).2.1 k = f := by simp [fs_a]
theorem ob_ao (u : Ob) {j k : Nat} (f : Nat → Int32) (h : j ≠ k) : (fs_a u k f).2.1 j = u.2.1 j := by simp [fs_a, h]
theorem ob_is (u : Ob) (k : Nat) (v : Int32) : (fs_i u k v).1 k = v := by simp [fs_i, upd]
theorem ob_io (u : Ob) {j k : Nat} (v : Int32) (h : j ≠ k) : (fs_i u k v).1 j = u.1 j := by simp [fs_i, upd, h]
theorem up_s (f : Nat → Int32) (k : Nat) (x : Int32) : upd f k x k = x := by simp [upd]
theorem up_o (f : Nat → Int32) {j k : Nat} (x : Int32) (h : j ≠ k) : upd f k x j = f j := by simp [upd, h]
/-! numbers: a few of the kit's plain facts, pasted -/
theorem fa_lit (n : Nat) : (OfNat.ofNat n : Int32) = nI n := rfl
theorem fa_and (a b : Nat) : nI a &&& nI b = nI (a &&& b) := by
  apply Int32.toBitVec_inj.1
  show BitVec.ofNat 32 a &&& BitVec.ofNat 32 b = BitVec.ofNat 32 (a &&& b)
  apply BitVec.eq_of_getLsbD_eq
  intro i hi
  simp [hi]
theorem fa_or (a b : Nat) : nI a ||| nI b = nI (a ||| b) := by
  apply Int32.toBitVec_inj.1
  show BitVec.ofNat 32 a ||| BitVec.ofNat 32 b = BitVec.ofNat 32 (a ||| b)
  apply BitVec.eq_of_getLsbD_eq
  intro i hi
  simp [hi]
theorem fa_mask (n k : Nat) : nI n &&& nI (2 ^ k - 1) = nI (n % 2 ^ k) := by rw [fa_and, Nat.and_two_pow_sub_one_eq_mod]
theorem fa_or_sum {a k : Nat} (b : Nat) (h : a < 2 ^ k) : nI (2 ^ k * b) ||| nI a = nI (2 ^ k * b + a) := by rw [fa_or, Nat.two_pow_add_eq_or_of_lt h]
theorem s_l : ∀ n, n < 32 → ((nI n &&& 31).toBitVec.smod 32).toNat = n := by decide +kernel
theorem s_u : ∀ n, n < 32 → (((nI n).toUInt32 &&& Int32.toUInt32 31).toBitVec % 32).toNat = n := by decide +kernel
theorem pk_ne {x y : Int32} {A B : Prop} (a b : Nat) (f : a ≠ b → A) (g : a = b → B) (hx : x = nI a := by rfl) (hy : y = nI b := by rfl) (ha : a < 2 ^ 31 := by omega) (hb : b < 2 ^ 31 := by omega) : (¬ x = y → A) ∧ (x = y → B) := by
  subst hx hy
  rw [nI_eq ha hb]
  exact ⟨f, g⟩
theorem or_lo {a k : Nat} (b : Nat) (h : a < 2 ^ k) : nI a ||| nI (b * 2 ^ k) = nI (a + b * 2 ^ k) := by
  rw [fa_or, Nat.or_comm, Nat.mul_comm, ← Nat.two_pow_add_eq_or_of_lt h, Nat.add_comm]
/-! words as numbers -/
def enc : List Nat → Nat
  | [] => 0
  | a :: w => (a + 1) + 4 * enc w
def lok (w : List Nat) : Prop := ∀ a ∈ w, a < 3
theorem lok_nil : lok [] := fun _ h => absurd h List.not_mem_nil
theorem lok_cons {a : Nat} {w : List Nat} : lok (a :: w) ↔ a < 3 ∧ lok w := List.forall_mem_cons
theorem lok_app {u v : List Nat} : lok (u ++ v) ↔ lok u ∧ lok v := List.forall_mem_append
theorem lok_drop {w : List Nat} (h : lok w) (i : Nat) : lok (w.drop i) := fun a ha => h a (List.mem_of_mem_drop ha)
theorem lok_take {w : List Nat} (h : lok w) (i : Nat) : lok (w.take i) := fun a ha => h a (List.mem_of_mem_take ha)
theorem lok_get {w : List Nat} (h : lok w) {i : Nat} (hi : i < w.length) : w.getD i 0 < 3 := by
  have e : w.getD i 0 = w[i] := by simp [List.getD_eq_getElem?_getD, hi]
  rw [e]
  exact h _ (List.getElem_mem hi)
theorem drop_get {w : List Nat} {i : Nat} (hi : i < w.length) : w.drop i = w.getD i 0 :: w.drop (i + 1) := by
  have e : w.getD i 0 = w[i] := by simp [List.getD_eq_getElem?_getD, hi]
  rw [e]
  exact List.drop_eq_getElem_cons hi
theorem enc_lt : ∀ {w : List Nat}, lok w → enc w < 4 ^ w.length
  | [], _ => by simp [enc]
  | a :: w, h => by
    have h1 := lok_cons.mp h
    have ih := enc_lt h1.2
    simp only [enc, List.length_cons, Nat.pow_succ]
    omega
theorem enc_lt31 {w : List Nat} (h : lok w) (hl : w.length ≤ 15) : enc w < 2 ^ 30 := by
  have h1 := enc_lt h
  have h2 : 4 ^ w.length ≤ 4 ^ 15 := Nat.pow_le_pow_right (by decide) hl
  have h3 : (4 : Nat) ^ 15 = 2 ^ 30 := by decide
  omega
theorem enc_div : ∀ (i : Nat) {w : List Nat}, lok w → enc w / 4 ^ i = enc (w.drop i)
  | 0, w, _ => by simp
  | i + 1, [], _ => by simp [enc]
  | i + 1, a :: w, h => by
    have h1 := lok_cons.mp h
    have ih := enc_div i h1.2
    have e : enc (a :: w) / 4 = enc w := by simp only [enc]; omega
    rw [Nat.pow_succ, Nat.mul_comm, ← Nat.div_div_eq_div_mul, e, ih]
    rfl
theorem enc_mod : ∀ (i : Nat) {w : List Nat}, lok w → enc w % 4 ^ i = enc (w.take i)
  | 0, w, _ => by simp [Nat.mod_one, enc]
  | i + 1, [], _ => by simp [enc]
  | i + 1, a :: w, h => by
    have h1 := lok_cons.mp h
    have ih := enc_mod i h1.2
    have hr : enc w % 4 ^ i < 4 ^ i := Nat.mod_lt _ (Nat.pow_pos (by decide))
    have hd := Nat.div_add_mod (enc w) (4 ^ i)
    show ((a + 1) + 4 * enc w) % 4 ^ (i + 1) = (a + 1) + 4 * enc (w.take i)
    rw [← ih]
    have e : (a + 1) + 4 * enc w = 4 ^ (i + 1) * (enc w / 4 ^ i) + ((a + 1) + 4 * (enc w % 4 ^ i)) := by
      rw [Nat.pow_succ, Nat.mul_comm (4 ^ i) 4, Nat.mul_assoc]
      omega
    rw [e, Nat.mul_add_mod]
    apply Nat.mod_eq_of_lt
    rw [Nat.pow_succ]
    omega
theorem enc_app : ∀ (u v : List Nat), enc (u ++ v) = enc u + 4 ^ u.length * enc v
  | [], v => by simp [enc]
  | a :: u, v => by
    have ih := enc_app u v
    simp only [List.cons_append, enc, List.length_cons, Nat.pow_succ, ih]
    rw [Nat.mul_add, Nat.mul_comm (4 ^ u.length) 4, Nat.mul_assoc]
    omega
theorem enc_zero {w : List Nat} : enc w = 0 ↔ w = [] := by
  cases w with
  | nil => simp [enc]
  | cons a w =>
    constructor
    · intro h
      simp only [enc] at h
      omega
    · intro h
      cases h
theorem enc_low {w : List Nat} {i : Nat} (hw : lok w) (hi : i < w.length) : enc (w.drop i) % 4 = w.getD i 0 + 1 := by
  have h1 := lok_get hw hi
  rw [drop_get hi]
  simp only [enc]
  omega
theorem enc_low0 {w : List Nat} {i : Nat} (hi : w.length ≤ i) : enc (w.drop i) = 0 := by
  rw [List.drop_eq_nil_of_le hi]
  rfl
theorem pow4 (i : Nat) : 2 ^ (2 * i) = 4 ^ i := by rw [Nat.pow_mul]
theorem ju_n {n k : Nat} (hn : n < 2 ^ 31) (hk : k < 32) : j_ushr (nI n) (nI k) = nI (n / 2 ^ k) := pk_ushrN (by omega) (nI k) k (s_u k hk)
theorem mul2 (i : Nat) : (2 : Int32) * nI i = nI (2 * i) := pk_mul 2 i
theorem ju_w {w : List Nat} (hw : lok w) (hl : w.length ≤ 15) {i : Nat} (hi : i ≤ 15) : j_ushr (nI (enc w)) (2 * nI i) = nI (enc (w.drop i)) := by
  have h3 := enc_lt31 hw hl
  rw [mul2, ju_n (by omega) (by omega), pow4, enc_div i hw]
theorem ju_2 {w : List Nat} (hw : lok w) (hl : w.length ≤ 15) : j_ushr (nI (enc w)) 2 = nI (enc (w.drop 1)) := ju_w hw hl (i := 1) (by omega)
theorem and3 {n : Nat} (h : n < 2 ^ 32) : nI n &&& 3 = nI (n % 4) := pk_andN h (m := 3) 2 (by decide)
theorem s_size {w : List Nat} (hw : lok w) (hl : w.length ≤ 14) {post : Int32 → Prop} (h : post (nI w.length)) : wp_X6_size (nI (enc w)) post := by
  unfold wp_X6_size
  refine lq1_m (fun m v => ∃ i, i + m = w.length ∧ v = nI i) ?_ w.length 0 ⟨0, by omega, rfl⟩
  rintro LL m v ⟨i, hi, rfl⟩ ih
  rw [ju_w hw (by omega) (by omega)]
  have h3 := enc_lt31 (lok_drop hw i) (by rw [List.length_drop]; omega)
  refine pk_le 15 i (fun hc => ?_) (fun hc => ?_)
  · omega
  refine pk_eq (enc (w.drop i)) 0 (fun hc => ?_) (fun hc => ?_)
  · have h2 := List.drop_eq_nil_iff.mp (enc_zero.mp hc)
    have h4 : i = w.length := by omega
    rw [h4]
    exact h
  · have h2 : ¬ w.length ≤ i := fun q => hc (enc_low0 q)
    exact ih (m - 1) _ (by omega) ⟨i + 1, by omega, nI_1 i⟩
theorem s_isLonger {w : List Nat} (hw : lok w) (hl : w.length ≤ 15) {k : Nat} (hk : k ≤ 15) {post : Int32 → Prop} (h0 : w.length ≤ k → post 0) (h1 : k < w.length → post 1) : wp_X6_isLonger (nI (enc w)) (nI k) post := by
  unfold wp_X6_isLonger
  rw [ju_w hw hl hk]
  have h3 := enc_lt31 (lok_drop hw k) (by rw [List.length_drop]; omega)
  refine pk_eq (enc (w.drop k)) 0 (fun hc => ?_) (fun hc => ?_)
  · exact h0 (List.drop_eq_nil_iff.mp (enc_zero.mp hc))
  · exact h1 (by
      rcases Nat.lt_or_ge k w.length with q | q
      · exact q
      · exact absurd (enc_low0 q) hc)
theorem s_at {w : List Nat} (hw : lok w) (hl : w.length ≤ 15) {i : Nat} (hi : i < w.length) {post : Int32 → Prop} (h : post (nI (w.getD i 0))) : wp_X6_at (nI (enc w)) (nI i) post := by
  unfold wp_X6_at
  have h3 := enc_lt31 (lok_drop hw i) (by rw [List.length_drop]; omega)
  rw [ju_w hw hl (by omega), and3 (by omega), enc_low hw hi]
  rw [nI_pred]
  exact h
def ins (w : List Nat) (i a : Nat) : List Nat := w.take i ++ a :: w.drop i
def del (w : List Nat) (i : Nat) : List Nat := w.take i ++ w.drop (i + 1)
theorem ins_len {w : List Nat} {i a : Nat} (hi : i ≤ w.length) : (ins w i a).length = w.length + 1 := by
  unfold ins
  simp only [List.length_append, List.length_take, List.length_cons, List.length_drop]
  omega
theorem del_len {w : List Nat} {i : Nat} (hi : i < w.length) : (del w i).length = w.length - 1 := by
  unfold del
  simp only [List.length_append, List.length_take, List.length_drop]
  omega
theorem ins_lok {w : List Nat} {i a : Nat} (h : lok w) (ha : a < 3) : lok (ins w i a) := lok_app.mpr ⟨lok_take h i, lok_cons.mpr ⟨ha, lok_drop h i⟩⟩
theorem del_lok {w : List Nat} {i : Nat} (h : lok w) : lok (del w i) := lok_app.mpr ⟨lok_take h i, lok_drop h (i + 1)⟩
theorem front_w {w : List Nat} (hw : lok w) (hl : w.length ≤ 15) {i : Nat} (hi : i ≤ 15) : nI (enc w) &&& (((1 : Int32) <<< ((2 * nI i) &&& 31)) - 1) = nI (enc (w.take i)) := by
  have e1 : (1 : Int32) <<< (nI (2 * i) &&& 31) = nI (1 * 2 ^ (2 * i)) := pk_shlN (n := 1) (nI (2 * i) &&& 31) (2 * i) (s_l (2 * i) (by omega)) (by
    have : 2 ^ (2 * i) ≤ 2 ^ 30 := Nat.pow_le_pow_right (by decide) (by omega)
    omega)
  have e2 : nI (1 * 2 ^ (2 * i)) - 1 = nI (2 ^ (2 * i) - 1) := by
    rw [Nat.one_mul]
    exact pk_sub (b := 1) (Nat.pow_pos (by decide))
  rw [mul2, e1, e2, fa_mask, pow4, enc_mod i hw]
theorem shl_w {n i : Nat} (hi : i ≤ 15) (hn : n * 4 ^ i < 2 ^ 32) : nI n <<< ((2 * nI i) &&& 31) = nI (n * 4 ^ i) := by
  rw [mul2, ← pow4] at *
  exact pk_shlN (nI (2 * i) &&& 31) (2 * i) (s_l (2 * i) (by omega)) hn
theorem enc_join {u v : List Nat} (hu : lok u) : nI (enc u) ||| nI (enc v * 4 ^ u.length) = nI (enc (u ++ v)) := by
  have h1 := enc_lt hu
  rw [← pow4] at h1
  rw [← pow4, or_lo _ h1, enc_app, pow4, Nat.mul_comm]
theorem s_with {w : List Nat} (hw : lok w) (hl : w.length ≤ 14) {i a : Nat} (hi : i ≤ w.length) (ha : a < 3) {post : Int32 → Prop} (h : post (nI (enc (ins w i a)))) : wp_X6_with (nI (enc w)) (nI i) (nI a) post := by
  unfold wp_X6_with
  have hok : lok (a :: w.drop i) := lok_cons.mpr ⟨ha, lok_drop hw i⟩
  have hlen : (a :: w.drop i).length = w.length - i + 1 := by simp
  have hlt := enc_lt hok
  have hmul : enc (a :: w.drop i) * 4 ^ i < 2 ^ 32 := by
    have h1 : enc (a :: w.drop i) * 4 ^ i < 4 ^ (w.length - i + 1) * 4 ^ i := by
      rw [hlen] at hlt
      exact Nat.mul_lt_mul_of_pos_right hlt (Nat.pow_pos (by decide))
    have h2 : 4 ^ (w.length - i + 1) * 4 ^ i = 4 ^ (w.length + 1) := by rw [← Nat.pow_add]; congr 1; omega
    have h3 : 4 ^ (w.length + 1) ≤ 4 ^ 15 := Nat.pow_le_pow_right (by decide) (by omega)
    have h4 : (4 : Nat) ^ 15 = 2 ^ 30 := by decide
    omega
  have h3 := enc_lt31 (lok_drop hw i) (by rw [List.length_drop]; omega)
  have e1 : nI (enc (w.drop i)) <<< ((2 : Int32) &&& 31) = nI (enc (w.drop i) * 2 ^ 2) := pk_shlN ((2 : Int32) &&& 31) 2 (by decide) (by omega)
  have e2 : nI (enc (w.drop i) * 2 ^ 2) ||| (nI a + 1) = nI (enc (a :: w.drop i)) := by
    rw [nI_1, Nat.mul_comm, fa_or_sum _ (show a + 1 < 2 ^ 2 by omega)]
    congr 1
    simp only [enc]
    omega
  have e3 : (w.take i).length = i := by rw [List.length_take]; omega
  have e4 : nI (enc (w.take i)) ||| nI (enc (a :: w.drop i) * 4 ^ i) = nI (enc (ins w i a)) := by
    have := enc_join (u := w.take i) (v := a :: w.drop i) (lok_take hw i)
    rw [e3] at this
    exact this
  rw [front_w hw (by omega) (by omega), ju_w hw (by omega) (by omega), e1, e2, shl_w (by omega) hmul, e4]
  exact h
theorem s_without {w : List Nat} (hw : lok w) (hl : w.length ≤ 15) {i : Nat} (hi : i < w.length) {post : Int32 → Prop} (h : post (nI (enc (del w i)))) : wp_X6_without (nI (enc w)) (nI i) post := by
  unfold wp_X6_without
  have hok := lok_drop hw (i + 1)
  have hlt := enc_lt hok
  have hmul : enc (w.drop (i + 1)) * 4 ^ i < 2 ^ 32 := by
    have h1 : enc (w.drop (i + 1)) * 4 ^ i < 4 ^ (w.drop (i + 1)).length * 4 ^ i := Nat.mul_lt_mul_of_pos_right hlt (Nat.pow_pos (by decide))
    have h2 : 4 ^ (w.drop (i + 1)).length * 4 ^ i = 4 ^ (w.length - 1) := by rw [← Nat.pow_add, List.length_drop]; congr 1; omega
    have h3 : 4 ^ (w.length - 1) ≤ 4 ^ 15 := Nat.pow_le_pow_right (by decide) (by omega)
    have h4 : (4 : Nat) ^ 15 = 2 ^ 30 := by decide
    omega
  have e0 : (2 * nI i) + (2 : Int32) = 2 * nI (i + 1) := by
    rw [mul2, mul2]
    exact nI_add (2 * i) 2
  have e3 : (w.take i).length = i := by rw [List.length_take]; omega
  have e4 : nI (enc (w.take i)) ||| nI (enc (w.drop (i + 1)) * 4 ^ i) = nI (enc (del w i)) := by
    have := enc_join (u := w.take i) (v := w.drop (i + 1)) (lok_take hw i)
    rw [e3] at this
    exact this
  rw [front_w hw hl (by omega), e0, ju_w hw hl (by omega), shl_w (by omega) hmul, e4]
  exact h
/-- the first place of a letter; the length, if it is nowhere -/
def fx : List Nat → Nat → Nat
  | [], _ => 0
  | b :: w, a => if b = a then 0 else fx w a + 1
theorem fx_le : ∀ (w : List Nat) (a : Nat), fx w a ≤ w.length
  | [], _ => Nat.le_refl 0
  | b :: w, a => by
    have ih := fx_le w a
    unfold fx
    split
    · exact Nat.zero_le _
    · simp only [List.length_cons]
      omega
theorem fx_ne : ∀ (w : List Nat) (a j : Nat), j < fx w a → w.getD j 0 ≠ a
  | [], _, j, h => absurd h (Nat.not_lt_zero j)
  | b :: w, a, j, h => by
    unfold fx at h
    split at h
    · exact absurd h (Nat.not_lt_zero j)
    · rename_i hb
      cases j with
      | zero => simpa using hb
      | succ j => simpa using fx_ne w a j (by omega)
theorem fx_at : ∀ (w : List Nat) (a : Nat), fx w a < w.length → w.getD (fx w a) 0 = a
  | [], _, h => absurd h (Nat.not_lt_zero _)
  | b :: w, a, h => by
    by_cases hb : b = a
    · have e : fx (b :: w) a = 0 := by unfold fx; rw [if_pos hb]
      rw [e]
      simpa using hb
    · have e : fx (b :: w) a = fx w a + 1 := by rw [fx, if_neg hb]
      rw [e] at h ⊢
      simp only [List.length_cons] at h
      simpa using fx_at w a (by omega)
theorem fx_eq {w : List Nat} {a i : Nat} (h1 : ∀ j, j < i → w.getD j 0 ≠ a) (hi : i < w.length) (h2 : w.getD i 0 = a) : fx w a = i := by
  rcases Nat.lt_trichotomy (fx w a) i with q | q | q
  · exact absurd (fx_at w a (by omega)) (h1 _ q)
  · exact q
  · exact absurd h2 (fx_ne w a i q)
theorem fx_none {w : List Nat} {a : Nat} (h1 : ∀ j, j < w.length → w.getD j 0 ≠ a) : fx w a = w.length := by
  have h2 := fx_le w a
  rcases Nat.lt_or_ge (fx w a) w.length with q | q
  · exact absurd (fx_at w a q) (h1 _ q)
  · omega
theorem s_find {w : List Nat} (hw : lok w) (hl : w.length ≤ 15) {a : Nat} (ha : a < 3) {post : Int32 → Prop} (h1 : fx w a < w.length → post (nI (fx w a))) (h0 : fx w a = w.length → post (-1)) : wp_X6_find (nI (enc w)) (nI a) post := by
  unfold wp_X6_find
  refine lq1_m (fun m v => ∃ i, i + m = 15 ∧ v = nI i ∧ ∀ j, j < i → j < w.length → w.getD j 0 ≠ a) ?_ 15 0 ⟨0, by omega, rfl, fun j h => absurd h (Nat.not_lt_zero j)⟩
  rintro LL m v ⟨i, hi, rfl, hn⟩ ih
  have h3 := enc_lt31 (lok_drop hw i) (by rw [List.length_drop]; omega)
  rw [ju_w hw hl (by omega), and3 (by omega), nI_1]
  refine pk_le 15 i (fun hc => ?_) (fun hc => ?_)
  · exact h0 (fx_none (fun j hj => hn j (by omega) hj))
  refine pk_ne (enc (w.drop i) % 4) (a + 1) (fun hc => ?_) (fun hc => ?_)
  · refine ih (m - 1) _ (by omega) ⟨i + 1, by omega, nI_1 i, fun j hj hj2 => ?_⟩
    rcases Nat.lt_or_ge j i with q | q
    · exact hn j q hj2
    · have e : j = i := by omega
      subst e
      rw [enc_low hw hj2] at hc
      omega
  · have hi2 : i < w.length := by
      rcases Nat.lt_or_ge i w.length with q | q
      · exact q
      · rw [enc_low0 q] at hc
        omega
    rw [enc_low hw hi2] at hc
    have e := fx_eq (w := w) (a := a) (i := i) (fun j hj => hn j hj (by omega)) hi2 (by omega)
    rw [← e]
    exact h1 (by omega)
/-- where a letter belongs in a word of a bag -/
def pio : List Nat → Nat → Nat
  | [], _ => 0
  | b :: w, a => if b ≤ a then pio w a + 1 else 0
theorem pio_le : ∀ (w : List Nat) (a : Nat), pio w a ≤ w.length
  | [], _ => Nat.le_refl 0
  | b :: w, a => by
    have ih := pio_le w a
    unfold pio
    split
    · simp only [List.length_cons]
      omega
    · exact Nat.zero_le _
theorem s_placeInOrder {w : List Nat} (hw : lok w) (hl : w.length ≤ 14) {a : Nat} (ha : a < 3) {post : Int32 → Prop} (h : post (nI (pio w a))) : wp_X6_placeInOrder (nI (enc w)) (nI a) post := by
  unfold wp_X6_placeInOrder
  refine lq2_m (fun m v r => ∃ i, i + m = w.length ∧ v = nI i ∧ r = nI (enc (w.drop i)) ∧ pio w a = i + pio (w.drop i) a) ?_ w.length 0 (nI (enc w)) ⟨0, by omega, rfl, by simp, by simp⟩
  rintro LL m v r ⟨i, hi, rfl, rfl, hp⟩ ih
  have h3 := enc_lt31 (lok_drop hw i) (by rw [List.length_drop]; omega)
  refine pk_le 15 i (fun hc => ?_) (fun hc => ?_)
  · omega
  refine pk_eq (enc (w.drop i)) 0 (fun hc => ?_) (fun hc => ?_)
  · have h2 := enc_zero.mp hc
    rw [h2] at hp
    have e : pio w a = i := hp
    rw [← e]
    exact h
  have hi2 : i < w.length := by
    rcases Nat.lt_or_ge i w.length with q | q
    · exact q
    · exact absurd (enc_low0 q) hc
  have h5 := lok_get hw hi2
  rw [and3 (by omega), nI_1, enc_low hw hi2]
  refine pk_lt (a + 1) (w.getD i 0 + 1) (fun hd => ?_) (fun hd => ?_)
  · have e : pio w a = i := by rw [hp, drop_get hi2, pio, if_neg (by omega)]; rfl
    rw [← e]
    exact h
  · refine ih (m - 1) _ _ (by omega) ⟨i + 1, by omega, nI_1 i, ?_, ?_⟩
    · rw [ju_2 (lok_drop hw i) (by rw [List.length_drop]; omega), List.drop_drop]
    · rw [hp, drop_get hi2, pio, if_pos (by omega)]
      omega
/-- a word in another one -/
def gin : List Nat → List Nat → Bool
  | [], _ => true
  | _ :: _, [] => false
  | a :: w, b :: v => if a = b then gin w v else gin (a :: w) v
def bI (b : Bool) : Int32 := if b then 1 else 0
theorem bI_t : bI true = 1 := rfl
theorem bI_f : bI false = 0 := rfl
theorem s_isIn {w v : List Nat} (hw : lok w) (hlw : w.length ≤ 15) (hv : lok v) (hl : v.length ≤ 15) {post : Int32 → Prop} (h : post (bI (gin w v))) : wp_X6_isIn (nI (enc w)) (nI (enc v)) post := by
  unfold wp_X6_isIn
  refine lq3_m (fun m i g t => ∃ (w2 v2 : List Nat) (k : Nat), k + m = 15 ∧ i = nI k ∧ g = nI (enc v2) ∧ t = nI (enc w2) ∧ lok w2 ∧ lok v2 ∧ w2.length ≤ 15 ∧ v2.length + k ≤ 15 ∧ gin w v = gin w2 v2) ?_ 15 0 (nI (enc v)) (nI (enc w)) ⟨w, v, 0, by omega, rfl, rfl, rfl, hw, hv, hlw, by omega, rfl⟩
  rintro LL m i g t ⟨w2, v2, k, hk, rfl, rfl, rfl, hw2, hv2, hl2, hlv2, he⟩ ih
  have a1 := enc_lt31 hw2 hl2
  have a2 := enc_lt31 hv2 (by omega)
  simp only [jn]
  rw [he] at h
  cases w2 with
  | nil =>
    have q : post 1 := by
      have e : gin [] v2 = true := by cases v2 <;> rfl
      rw [e] at h
      exact h
    have z : nI (enc []) = 0 := rfl
    refine ⟨fun _ => ⟨fun c => absurd z c, fun _ => q⟩, fun _ => ⟨fun _ => ⟨fun c => absurd z c, fun _ => q⟩, fun c => absurd z c⟩⟩
  | cons x w2 =>
    have z : ¬ nI (enc (x :: w2)) = 0 := nI_ne0 (by simp only [enc]; omega) (by omega)
    cases v2 with
    | nil =>
      have q : post 0 := h
      have z2 : nI (enc []) = 0 := rfl
      exact ⟨fun _ => ⟨fun _ => q, fun c => absurd c z⟩, fun _ => ⟨fun c => absurd c z, fun _ => ⟨fun _ => ⟨fun _ => q, fun c => absurd c z⟩, fun c => absurd z2 c⟩⟩⟩
    | cons y v2 =>
      have z2 : ¬ nI (enc (y :: v2)) = 0 := nI_ne0 (by simp only [enc]; omega) (by omega)
      simp only [List.length_cons] at hlv2 hl2
      refine pk_le 15 k (fun hc => ?_) (fun hc => ?_)
      · omega
      refine ⟨fun c => absurd c z, fun _ => ⟨fun c => absurd c z2, fun _ => ?_⟩⟩
      have b1 := (lok_cons.mp hw2).1
      have b2 := (lok_cons.mp hv2).1
      rw [and3 (by omega), and3 (by omega), ju_2 hv2 (by simp only [List.length_cons]; omega), ju_2 hw2 (by simp only [List.length_cons]; omega)]
      have c1 : enc (x :: w2) % 4 = x + 1 := by simp only [enc]; omega
      have c2 : enc (y :: v2) % 4 = y + 1 := by simp only [enc]; omega
      rw [c1, c2]
      refine pk_ne (x + 1) (y + 1) (fun hd => ?_) (fun hd => ?_)
      · refine ih (m - 1) _ _ _ (by omega) ⟨x :: w2, v2, k + 1, by omega, nI_1 k, rfl, rfl, hw2, (lok_cons.mp hv2).2, by simp only [List.length_cons]; omega, by omega, ?_⟩
        rw [he, gin, if_neg (by omega)]
      · refine ih (m - 1) _ _ _ (by omega) ⟨w2, v2, k + 1, by omega, nI_1 k, rfl, rfl, (lok_cons.mp hw2).2, (lok_cons.mp hv2).2, by omega, by omega, ?_⟩
        rw [he, gin, if_pos (by omega)]
theorem in0_2 : vp_in 0 2 := vp_in_nI (n := 0) (N := 2) (by omega) (by omega)
theorem in1_2 : vp_in 1 2 := vp_in_nI (n := 1) (N := 2) (by omega) (by omega)
