theorem wI_of {a : Int32} (h : ¬ a < 0) : ∃ k, k < 2 ^ 31 ∧ a = nI k := by
  refine ⟨a.toInt.toNat, ?_, ?_⟩
  · have := Int32.toInt_lt a
    omega
  · have h0 : 0 ≤ a.toInt := by
      rw [Int32.lt_iff_toInt_lt] at h
      have e : (0 : Int32).toInt = 0 := rfl
      rw [e] at h
      omega
    have h1 := Int32.toInt_lt a
    apply Int32.toInt.inj
    rw [nI_toInt (by omega)]
    omega
theorem wI_ge {i : Nat} (hi : i < 2 ^ 31) : (0 < nI i) = (0 < i) := by
  rw [wI_0, wI_lt (by decide) hi]
theorem wI_po {i : Nat} (hi : i < 2 ^ 31) : (nI i ≤ 0) = (i = 0) := by
  rw [wI_0, wI_le hi (by decide)]
  exact propext (by omega)
theorem w64_lt {x y : Int32} : (x.toInt64 < y.toInt64) = (x < y) := by
  rw [Int64.lt_iff_toInt_lt, Int32.lt_iff_toInt_lt, Int32.toInt_toInt64, Int32.toInt_toInt64]
theorem w64_le {x y : Int32} : (x.toInt64 ≤ y.toInt64) = (x ≤ y) := by
  rw [Int64.le_iff_toInt_le, Int32.le_iff_toInt_le, Int32.toInt_toInt64, Int32.toInt_toInt64]
theorem w64_inj {x y : Int32} (h : x.toInt64 = y.toInt64) : x = y := by
  have := congrArg Int64.toInt h
  rw [Int32.toInt_toInt64, Int32.toInt_toInt64] at this
  exact Int32.toInt.inj this
theorem w64_eq {x y : Int32} : (x.toInt64 = y.toInt64) = (x = y) := propext ⟨w64_inj, fun h => by rw [h]⟩
theorem w64_0 : Int32.toInt64 0 = 0 := rfl
theorem w64_lt0 {x : Int32} : (x.toInt64 < 0) = (x < 0) := by rw [← w64_0, w64_lt]
theorem w64_le0 {x : Int32} : (0 ≤ x.toInt64) = (0 ≤ x) := by rw [← w64_0, w64_le]
theorem w64_eq0 {x : Int32} : (x.toInt64 = 0) = (x = 0) := by rw [← w64_0, w64_eq]
theorem w64_32 {x : Int32} : x.toInt64.toInt32 = x := Int32.toInt32_toInt64 x
