theorem n1_65 : (0 : Int32) ≤ 1 ^^^ 65 := by decide
theorem n65x : (0 : Int32) ≤ 0 ^^^ 65 := by decide
theorem lt_irr32 {x : Int32} : (x < x) = False := eq_false Int32.lt_irrefl
theorem i64_0 : Int32.toInt64 0 = 0 := rfl
theorem i64lt0 {x : Int32} : (x.toInt64 < 0) = (x < 0) := by
  apply propext
  rw [Int64.lt_iff_toInt_lt, Int32.lt_iff_toInt_lt, Int32.toInt_toInt64]
  rfl
theorem n65_0 : ¬ (65 : Int32) = 0 := by decide
theorem c_18 {c : Int32} (h1 : ¬ c < 1) (h2 : ¬ 8 < c) : c = 1 ∨ c = 2 ∨ c = 3 ∨ c = 4 ∨ c = 5 ∨ c = 6 ∨ c = 7 ∨ c = 8 := by
  rw [Int32.lt_iff_toInt_lt] at h1 h2
  have e1 : (1 : Int32).toInt = 1 := rfl
  have e8 : (8 : Int32).toInt = 8 := rfl
  rw [e1] at h1
  rw [e8] at h2
  have : c.toInt = 1 ∨ c.toInt = 2 ∨ c.toInt = 3 ∨ c.toInt = 4 ∨ c.toInt = 5 ∨ c.toInt = 6 ∨ c.toInt = 7 ∨ c.toInt = 8 := by omega
  rcases this with h | h | h | h | h | h | h | h
  · exact Or.inl (Int32.toInt.inj h)
  · exact Or.inr (Or.inl (Int32.toInt.inj h))
  · exact Or.inr (Or.inr (Or.inl (Int32.toInt.inj h)))
  · exact Or.inr (Or.inr (Or.inr (Or.inl (Int32.toInt.inj h))))
  · exact Or.inr (Or.inr (Or.inr (Or.inr (Or.inl (Int32.toInt.inj h)))))
  · exact Or.inr (Or.inr (Or.inr (Or.inr (Or.inr (Or.inl (Int32.toInt.inj h))))))
  · exact Or.inr (Or.inr (Or.inr (Or.inr (Or.inr (Or.inr (Or.inl (Int32.toInt.inj h)))))))
  · exact Or.inr (Or.inr (Or.inr (Or.inr (Or.inr (Or.inr (Or.inr (Int32.toInt.inj h)))))))
theorem a_07 {c : Int32} (h1 : ¬ c < 0) (h2 : ¬ 7 < c) : c = 0 ∨ c = 1 ∨ c = 2 ∨ c = 3 ∨ c = 4 ∨ c = 5 ∨ c = 6 ∨ c = 7 := by
  by_cases h0 : c = 0
  · exact Or.inl h0
  · by_cases h8 : c = 8
    · subst h8; exact absurd (by decide) h2
    · have h1' : ¬ c < 1 := by
        rw [Int32.lt_iff_toInt_lt] at h1 ⊢
        have e1 : (1 : Int32).toInt = 1 := rfl
        have e0 : (0 : Int32).toInt = 0 := rfl
        rw [e0] at h1
        rw [e1]
        have : c.toInt ≠ 0 := fun h => h0 (Int32.toInt.inj h)
        omega
      have h2' : ¬ 8 < c := by
        rw [Int32.lt_iff_toInt_lt] at h2 ⊢
        have e1 : (7 : Int32).toInt = 7 := rfl
        have e0 : (8 : Int32).toInt = 8 := rfl
        rw [e1] at h2
        rw [e0]
        omega
      rcases c_18 h1' h2' with h | h | h | h | h | h | h | h
      · exact Or.inr (Or.inl h)
      · exact Or.inr (Or.inr (Or.inl h))
      · exact Or.inr (Or.inr (Or.inr (Or.inl h)))
      · exact Or.inr (Or.inr (Or.inr (Or.inr (Or.inl h))))
      · exact Or.inr (Or.inr (Or.inr (Or.inr (Or.inr (Or.inl h)))))
      · exact Or.inr (Or.inr (Or.inr (Or.inr (Or.inr (Or.inr (Or.inl h))))))
      · exact Or.inr (Or.inr (Or.inr (Or.inr (Or.inr (Or.inr (Or.inr h))))))
      · exact absurd h h8
theorem a_010 {c : Int32} (h : ¬ (c.toInt < 0 ∨ 11 ≤ c.toInt)) : c = 0 ∨ c = 1 ∨ c = 2 ∨ c = 3 ∨ c = 4 ∨ c = 5 ∨ c = 6 ∨ c = 7 ∨ c = 8 ∨ c = 9 ∨ c = 10 := by
  have k0 : c.toInt = (0 : Int32).toInt ∨ c.toInt = (1 : Int32).toInt ∨ c.toInt = (2 : Int32).toInt ∨ c.toInt = (3 : Int32).toInt ∨ c.toInt = (4 : Int32).toInt ∨ c.toInt = (5 : Int32).toInt ∨ c.toInt = (6 : Int32).toInt ∨ c.toInt = (7 : Int32).toInt ∨ c.toInt = (8 : Int32).toInt ∨ c.toInt = (9 : Int32).toInt ∨ c.toInt = (10 : Int32).toInt := by
    show c.toInt = 0 ∨ c.toInt = 1 ∨ c.toInt = 2 ∨ c.toInt = 3 ∨ c.toInt = 4 ∨ c.toInt = 5 ∨ c.toInt = 6 ∨ c.toInt = 7 ∨ c.toInt = 8 ∨ c.toInt = 9 ∨ c.toInt = 10
    omega
  rcases k0 with h | h | h | h | h | h | h | h | h | h | h
  all_goals have h := Int32.toInt.inj h
  all_goals subst h
  all_goals decide
theorem le_255 {a : Int32} (h : a < 256) : a ≤ 255 := by
  rw [Int32.lt_iff_toInt_lt] at h
  rw [Int32.le_iff_toInt_le]
  have e1 : (256 : Int32).toInt = 256 := rfl
  have e0 : (255 : Int32).toInt = 255 := rfl
  rw [e1] at h
  rw [e0]
  omega
theorem am_pos {m : Int64} (h : m ≤ 4611686018427387904) (h2 : 2 ≤ m) : 0 ≤ 4611686018427387904 - m := by
  rw [Int64.le_iff_toInt_le] at h h2 ⊢
  have e1 : (4611686018427387904 : Int64).toInt = 4611686018427387904 := rfl
  have e0 : (0 : Int64).toInt = 0 := rfl
  have e2 : (2 : Int64).toInt = 2 := rfl
  rw [e1] at h
  rw [e2] at h2
  rw [e0, Int64.toInt_sub, e1, Int.bmod_eq_of_le (by omega) (by omega)]
  omega
theorem lt1_0 {d : Int32} (h : d < 1) : ¬ 0 < d := by
  rw [Int32.lt_iff_toInt_lt] at h ⊢
  have e1 : (1 : Int32).toInt = 1 := rfl
  have e0 : (0 : Int32).toInt = 0 := rfl
  rw [e1] at h
  rw [e0]
  omega
