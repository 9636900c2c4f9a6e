theorem wI_of {a : Int32} (h : ¬ a < 0) : ∃ k, k < 2 ^ 31 ∧ a = nI k := by
  refine ⟨a.toInt.toNat, ?_, ?_⟩
  · have := Int32.toInt_lt a
    omega
  · have h0 : 0 ≤ a.toInt := by
      rw [Int32.lt_iff_toInt_lt] at h
      have e : (0 : Int32).toInt = 0 := rfl
      rw [e] at h
      omega
    have h1 := Int32.toInt_lt a
    apply Int32.toInt.inj
    rw [nI_toInt (by omega)]
    omega
theorem wI_ge {i : Nat} (hi : i < 2 ^ 31) : (0 < nI i) = (0 < i) := by
  rw [wI_0, wI_lt (by decide) hi]
theorem wI_po {i : Nat} (hi : i < 2 ^ 31) : (nI i ≤ 0) = (i = 0) := by
  rw [wI_0, wI_le hi (by decide)]
  exact propext (by omega)
theorem w64_lt {x y : Int32} : (x.toInt64 < y.toInt64) = (x < y) := by
  rw [Int64.lt_iff_toInt_lt, Int32.lt_iff_toInt_lt, Int32.toInt_toInt64, Int32.toInt_toInt64]
theorem w64_le {x y : Int32} : (x.toInt64 ≤ y.toInt64) = (x ≤ y) := by
  rw [Int64.le_iff_toInt_le, Int32.le_iff_toInt_le, Int32.toInt_toInt64, Int32.toInt_toInt64]
theorem w64_inj {x y : Int32} (h : x.toInt64 = y.toInt64) : x = y := by
  have := congrArg Int64.toInt h
  rw [Int32.toInt_toInt64, Int32.toInt_toInt64] at this
  exact Int32.toInt.inj this
theorem w64_eq {x y : Int32} : (x.toInt64 = y.toInt64) = (x = y) := propext ⟨w64_inj, fun h => by rw [h]⟩
theorem w64_0 : Int32.toInt64 0 = 0 := rfl
theorem w64_lt0 {x : Int32} : (x.toInt64 < 0) = (x < 0) := by rw [← w64_0, w64_lt]
theorem w64_le0 {x : Int32} : (0 ≤ x.toInt64) = (0 ≤ x) := by rw [← w64_0, w64_le]
theorem w64_eq0 {x : Int32} : (x.toInt64 = 0) = (x = 0) := by rw [← w64_0, w64_eq]
theorem w64_32 {x : Int32} : x.toInt64.toInt32 = x := Int32.toInt32_toInt64 x
theorem wn1 : ((-1 : Int32) < 0) = True := eq_true (by decide)
theorem wn2 : ((0 : Int32) ≤ -1) = False := eq_false (by decide)
theorem wn3 {x : Nat} (hx : x < 2 ^ 31) : (nI x = -1) = False := by
  refine eq_false (fun h => ?_)
  have := congrArg Int32.toInt h
  rw [nI_toInt hx] at this
  have e : (-1 : Int32).toInt = -1 := rfl
  omega
theorem w32_05 {c : Int32} (h : ¬ (c.toInt < 0 ∨ 6 ≤ c.toInt)) : c = 0 ∨ c = 1 ∨ c = 2 ∨ c = 3 ∨ c = 4 ∨ c = 5 := by
  have k0 : c.toInt = (0 : Int32).toInt ∨ c.toInt = (1 : Int32).toInt ∨ c.toInt = (2 : Int32).toInt ∨ c.toInt = (3 : Int32).toInt ∨ c.toInt = (4 : Int32).toInt ∨ c.toInt = (5 : Int32).toInt := by
    show c.toInt = 0 ∨ c.toInt = 1 ∨ c.toInt = 2 ∨ c.toInt = 3 ∨ c.toInt = 4 ∨ c.toInt = 5
    omega
  rcases k0 with h | h | h | h | h | h
  all_goals have h := Int32.toInt.inj h
  all_goals subst h
  all_goals decide
theorem w32_03 {c : Int32} (h : ¬ (c.toInt < 0 ∨ 4 ≤ c.toInt)) : c = 0 ∨ c = 1 ∨ c = 2 ∨ c = 3 := by
  have k0 : c.toInt = (0 : Int32).toInt ∨ c.toInt = (1 : Int32).toInt ∨ c.toInt = (2 : Int32).toInt ∨ c.toInt = (3 : Int32).toInt := by
    show c.toInt = 0 ∨ c.toInt = 1 ∨ c.toInt = 2 ∨ c.toInt = 3
    omega
  rcases k0 with h | h | h | h
  all_goals have h := Int32.toInt.inj h
  all_goals subst h
  all_goals decide
theorem w32_07 {c : Int32} (h : ¬ (c.toInt < 0 ∨ 8 ≤ c.toInt)) : c = 0 ∨ c = 1 ∨ c = 2 ∨ c = 3 ∨ c = 4 ∨ c = 5 ∨ c = 6 ∨ c = 7 := by
  have k0 : c.toInt = (0 : Int32).toInt ∨ c.toInt = (1 : Int32).toInt ∨ c.toInt = (2 : Int32).toInt ∨ c.toInt = (3 : Int32).toInt ∨ c.toInt = (4 : Int32).toInt ∨ c.toInt = (5 : Int32).toInt ∨ c.toInt = (6 : Int32).toInt ∨ c.toInt = (7 : Int32).toInt := by
    show c.toInt = 0 ∨ c.toInt = 1 ∨ c.toInt = 2 ∨ c.toInt = 3 ∨ c.toInt = 4 ∨ c.toInt = 5 ∨ c.toInt = 6 ∨ c.toInt = 7
    omega
  rcases k0 with h | h | h | h | h | h | h | h
  all_goals have h := Int32.toInt.inj h
  all_goals subst h
  all_goals decide
theorem w32_010 {c : Int32} (h : ¬ (c.toInt < 0 ∨ 11 ≤ c.toInt)) : c = 0 ∨ c = 1 ∨ c = 2 ∨ c = 3 ∨ c = 4 ∨ c = 5 ∨ c = 6 ∨ c = 7 ∨ c = 8 ∨ c = 9 ∨ c = 10 := by
  have k0 : c.toInt = (0 : Int32).toInt ∨ c.toInt = (1 : Int32).toInt ∨ c.toInt = (2 : Int32).toInt ∨ c.toInt = (3 : Int32).toInt ∨ c.toInt = (4 : Int32).toInt ∨ c.toInt = (5 : Int32).toInt ∨ c.toInt = (6 : Int32).toInt ∨ c.toInt = (7 : Int32).toInt ∨ c.toInt = (8 : Int32).toInt ∨ c.toInt = (9 : Int32).toInt ∨ c.toInt = (10 : Int32).toInt := by
    show c.toInt = 0 ∨ c.toInt = 1 ∨ c.toInt = 2 ∨ c.toInt = 3 ∨ c.toInt = 4 ∨ c.toInt = 5 ∨ c.toInt = 6 ∨ c.toInt = 7 ∨ c.toInt = 8 ∨ c.toInt = 9 ∨ c.toInt = 10
    omega
  rcases k0 with h | h | h | h | h | h | h | h | h | h | h
  all_goals have h := Int32.toInt.inj h
  all_goals subst h
  all_goals decide
theorem wI_add {i j : Nat} : nI i + nI j = nI (i + j) := nI_add i j
theorem wI_mul {i j : Nat} : nI i * nI j = nI (i * j) := by
  show Int32.ofNat i * Int32.ofNat j = Int32.ofNat (i * j)
  rw [Int32.ofNat_mul]
theorem wI_m8 {i : Nat} : (8 : Int32) * nI i = nI (8 * i) := wI_mul (i := 8)
theorem wI_m128 {i : Nat} : (128 : Int32) * nI i = nI (128 * i) := wI_mul (i := 128)
theorem wI_m64 {i : Nat} : (64 : Int32) * nI i = nI (64 * i) := wI_mul (i := 64)
theorem wI_m190 {i : Nat} : (190 : Int32) * nI i = nI (190 * i) := wI_mul (i := 190)
theorem wI_a1 {i : Nat} : nI i + 1 = nI (i + 1) := nI_1 i
theorem wI_s1 {i : Nat} (h : 0 < i) (hi : i < 2 ^ 31) : nI i + -1 = nI (i - 1) := by
  apply Int32.toInt.inj
  rw [Int32.toInt_add, nI_toInt hi, nI_toInt (by omega)]
  have e : (-1 : Int32).toInt = -1 := rfl
  rw [e, Int.bmod_eq_of_le (by omega) (by omega)]
  omega
theorem wI_e0 {i : Nat} (hi : i < 2 ^ 31) : (nI i = 0) = (i = 0) := by rw [wI_0, wI_eq hi (by decide)]
theorem w64_toInt {i : Nat} (hi : i < 2 ^ 31) : (nI i).toInt64.toInt = i := by rw [Int32.toInt_toInt64, nI_toInt hi]
theorem w64_add {i j : Nat} (h : i + j < 2 ^ 31) : (nI i).toInt64 + (nI j).toInt64 = (nI (i + j)).toInt64 := by
  apply Int64.toInt.inj
  rw [Int64.toInt_add, w64_toInt (by omega), w64_toInt (by omega), w64_toInt h, Int.bmod_eq_of_le (by omega) (by omega)]
  omega
theorem w64_a1 {i : Nat} (h : i + 1 < 2 ^ 31) : (nI i).toInt64 + 1 = (nI (i + 1)).toInt64 := w64_add (j := 1) h
theorem w64_a0 {x : Int64} : x + 0 = x := Int64.add_zero x
