/-! worlds of two blocks -/
theorem bk_l {α : Type} {A B : List α} {k : Nat} {q : α} (h : A[k]? = some q) : (A ++ B)[k]? = some q := by
  have hk : k < A.length := (List.getElem?_eq_some_iff.mp h).1
  rw [List.getElem?_append, if_pos hk]
  exact h
theorem bk_r {α : Type} {A B : List α} {k : Nat} {q : α} (h : B[k]? = some q) : (A ++ B)[A.length + k]? = some q := by
  rw [List.getElem?_append, if_neg (by omega), Nat.add_sub_cancel_left]
  exact h
theorem bk_or {α : Type} {A B : List α} {k : Nat} {q : α} (h : (A ++ B)[k]? = some q) : (k < A.length ∧ A[k]? = some q) ∨ (A.length ≤ k ∧ B[k - A.length]? = some q) := by
  rw [List.getElem?_append] at h
  by_cases z : k < A.length
  · rw [if_pos z] at h
    exact Or.inl ⟨z, h⟩
  · rw [if_neg z] at h
    exact Or.inr ⟨by omega, h⟩
theorem bk_P1 {D : va_G} {cl : List vw_C} {A B : va_W} {H : Heap} (h : va_P D cl (A ++ B) H) : va_P D cl A H := fun k q hk => h k q (bk_l hk)
theorem bk_P2 {D : va_G} {cl : List vw_C} {A B : va_W} {H : Heap} (h : va_P D cl (A ++ B) H) : va_P D cl B H := fun k q hk => h _ q (bk_r hk)
theorem bk_D1 {A0 : Nat → Prop} {A B : va_W} (h : va_D A0 (A ++ B)) : va_D A0 A := ⟨fun i j x y hi hj e => h.1 i j x y (bk_l hi) (bk_l hj) e, fun k q hk => h.2 k q (bk_l hk)⟩
theorem bk_D2 {A0 : Nat → Prop} {A B : va_W} (h : va_D A0 (A ++ B)) : va_D A0 B := ⟨fun i j x y hi hj e => by
    have := h.1 _ _ x y (bk_r hi) (bk_r hj) e
    omega, fun k q hk => h.2 _ q (bk_r hk)⟩
theorem bk_K1 {D : va_G} {cl : List vw_C} {t1 t2 : List (ClassId × FieldType)} {U : State} (h : va_K D cl (t1 ++ t2) U) : va_K D cl t1 U := ⟨h.1, fun k q hk => h.2 k q (bk_l hk)⟩
theorem bk_K2 {D : va_G} {cl : List vw_C} {t1 t2 : List (ClassId × FieldType)} {U : State} (h : va_K D cl (t1 ++ t2) U) : va_K D cl t2 U := ⟨h.1, fun k q hk => h.2 _ q (bk_r hk)⟩
theorem bk_F {A0 : Nat → Prop} {A : va_W} {H0 H : Heap} {locs : List Loc} (hD : va_D A0 A) (hS : va_S A0 H0 H locs) (hA : ∀ q, H0.size ≤ q → A0 q) : ∀ q, va_A A H.size q → A0 q := by
  intro q h
  rcases h with ⟨k, e, h⟩ | h
  · exact hD.2 k (q, e) h
  · exact hA q (Nat.le_trans hS.1 h)
theorem bk_J1 {A0 : Nat → Prop} {D : va_G} {cl : List vw_C} {A B A1 : va_W} {H H1 : Heap} (hP : va_P D cl (A ++ B) H) (hD : va_D A0 (A ++ B)) (hk : ∀ q : Nat, q < H.size → ¬ va_A A H.size q → H1[q]? = H[q]?) (hF : ∀ q, va_A A H.size q → A0 q) (hP1 : va_P D cl A1 H1) (hD1 : va_D (va_A A H.size) A1) : va_P D cl (A1 ++ B) H1 ∧ va_D A0 (A1 ++ B) := by
  have apart : ∀ (k : Nat) (q : Nat × va_E), B[k]? = some q → q.1 < H.size ∧ ¬ va_A A H.size q.1 := by
    intro k q hq
    have hl := (hP _ q (bk_r hq)).lt
    refine ⟨hl, fun h => ?_⟩
    rcases h with ⟨i, e, h⟩ | h
    · have hi : i < A.length := (List.getElem?_eq_some_iff.mp h).1
      have := hD.1 i (A.length + k) (q.1, e) q (bk_l h) (bk_r hq) rfl
      omega
    · omega
  have hPB : va_P D cl B H1 := fun k q hq => (hP _ q (bk_r hq)).kept (hk q.1 (apart k q hq).1 (apart k q hq).2)
  refine ⟨hP1.app hPB, fun i j x y hi hj e => ?_, fun k q hq => ?_⟩
  · rcases bk_or hi with ⟨i1, i2⟩ | ⟨i1, i2⟩
    · rcases bk_or hj with ⟨j1, j2⟩ | ⟨j1, j2⟩
      · exact hD1.1 i j x y i2 j2 e
      · have h1 := hD1.2 i x i2
        rw [e] at h1
        exact absurd h1 (apart _ y j2).2
    · rcases bk_or hj with ⟨j1, j2⟩ | ⟨j1, j2⟩
      · have h1 := hD1.2 j y j2
        rw [← e] at h1
        exact absurd h1 (apart _ x i2).2
      · have := hD.1 _ _ x y (bk_r i2) (bk_r j2) e
        omega
  · rcases bk_or hq with ⟨_, i2⟩ | ⟨_, i2⟩
    · exact hF _ (hD1.2 k q i2)
    · exact hD.2 _ q (bk_r i2)
theorem bk_J2 {A0 : Nat → Prop} {D : va_G} {cl : List vw_C} {A B B1 : va_W} {H H1 : Heap} (hP : va_P D cl (A ++ B) H) (hD : va_D A0 (A ++ B)) (hk : ∀ q : Nat, q < H.size → ¬ va_A B H.size q → H1[q]? = H[q]?) (hF : ∀ q, va_A B H.size q → A0 q) (hP1 : va_P D cl B1 H1) (hD1 : va_D (va_A B H.size) B1) : va_P D cl (A ++ B1) H1 ∧ va_D A0 (A ++ B1) := by
  have apart : ∀ (k : Nat) (q : Nat × va_E), A[k]? = some q → q.1 < H.size ∧ ¬ va_A B H.size q.1 := by
    intro k q hq
    have hl := (hP _ q (bk_l hq)).lt
    have hi : k < A.length := (List.getElem?_eq_some_iff.mp hq).1
    refine ⟨hl, fun h => ?_⟩
    rcases h with ⟨i, e, h⟩ | h
    · have := hD.1 k (A.length + i) q (q.1, e) (bk_l hq) (bk_r h) rfl
      omega
    · omega
  have hPA : va_P D cl A H1 := fun k q hq => (hP _ q (bk_l hq)).kept (hk q.1 (apart k q hq).1 (apart k q hq).2)
  refine ⟨hPA.app hP1, fun i j x y hi hj e => ?_, fun k q hq => ?_⟩
  · rcases bk_or hi with ⟨i1, i2⟩ | ⟨i1, i2⟩
    · rcases bk_or hj with ⟨j1, j2⟩ | ⟨j1, j2⟩
      · exact hD.1 i j x y (bk_l i2) (bk_l j2) e
      · have h1 := hD1.2 _ y j2
        rw [← e] at h1
        exact absurd h1 (apart i x i2).2
    · rcases bk_or hj with ⟨j1, j2⟩ | ⟨j1, j2⟩
      · have h1 := hD1.2 _ x i2
        rw [e] at h1
        exact absurd h1 (apart j y j2).2
      · have := hD1.1 _ _ x y i2 j2 e
        omega
  · rcases bk_or hq with ⟨_, i2⟩ | ⟨_, i2⟩
    · exact hD.2 _ q (bk_l i2)
    · exact hF _ (hD1.2 _ q i2)
