-- needs: 01 02.names 03 04 05 18 19 20 22 23 24 25 30 31 32 33 36 40 42 43 44 46 47 60 61 62 63 64
/-! READING DATA: numbers (heads, nodes and the row of nodes: part 30) -/
/-! numbers -/
theorem zq_shr : ∀ b, b < 256 → nI b >>> ((5 : Int32) &&& 31) = nI (b / 32) := by decide +kernel
theorem zq_and : ∀ b, b < 256 → nI b &&& 31 = nI (b % 32) := by decide +kernel
theorem zq_shl {lo : Nat} (h : 24 ≤ lo) (h2 : lo ≤ 27) : (1 : Int32) <<< ((nI lo - 24) &&& 31) = nI (2 ^ (lo - 24)) := by
  have : lo = 24 ∨ lo = 25 ∨ lo = 26 ∨ lo = 27 := by omega
  rcases this with rfl | rfl | rfl | rfl <;> decide
theorem zBe_1 {B : Nat → Nat} {a : Nat} : zBe B a 1 = (nI (B a)).toInt64 := by
  show ((0 : Int64) <<< ((8 : Int32).toInt64 &&& 63)) ||| (nI (B (a + 0))).toInt64 = _
  have e : (0 : Int64) <<< ((8 : Int32).toInt64 &&& 63) = 0 := by decide
  rw [e, Int64.zero_or]
  rfl
theorem zq_u {x : Int64} {m : Nat} {c : Int64} (k : Nat) (hc : c.toInt = 2 ^ m) (hm : ((nI k).toInt64.toUInt64 &&& Int64.toUInt64 63).toNat = m) (h63 : m < 63) : ((x.toUInt64 >>> ((nI k).toInt64.toUInt64 &&& Int64.toUInt64 63)).toInt64 = 0) = (0 ≤ x ∧ x < c) := by
  apply propext
  have hx := x.toBitVec.isLt
  have e1 : (x.toUInt64 >>> ((nI k).toInt64.toUInt64 &&& Int64.toUInt64 63)).toInt64 = 0 ↔ x.toUInt64.toNat / 2 ^ m = 0 := by
    have e2 : (x.toUInt64 >>> ((nI k).toInt64.toUInt64 &&& Int64.toUInt64 63)).toNat = x.toUInt64.toNat / 2 ^ m := by
      rw [UInt64.toNat_shiftRight, hm, Nat.mod_eq_of_lt (by omega), Nat.shiftRight_eq_div_pow]
    rw [← e2]
    constructor
    · intro h
      have h2 : (x.toUInt64 >>> ((nI k).toInt64.toUInt64 &&& Int64.toUInt64 63)).toInt64.toUInt64 = (0 : Int64).toUInt64 := by rw [h]
      rw [UInt64.toUInt64_toInt64] at h2
      rw [h2]
      rfl
    · intro h
      have h2 : x.toUInt64 >>> ((nI k).toInt64.toUInt64 &&& Int64.toUInt64 63) = 0 := UInt64.toNat_inj.1 h
      rw [h2]
      rfl
  rw [e1, Int64.le_iff_toInt_le, Int64.lt_iff_toInt_lt, hc]
  have e3 : x.toUInt64.toNat = x.toBitVec.toNat := rfl
  have e4 : x.toInt = x.toBitVec.toInt := rfl
  have e5 : (0 : Int64).toInt = 0 := rfl
  rw [e3, e4, e5, BitVec.toInt_eq_toNat_cond]
  have h2 : (2 : Nat) ^ m < 2 ^ 63 := Nat.pow_lt_pow_right (by decide) h63
  have h3 : 0 < (2 : Nat) ^ m := Nat.two_pow_pos m
  have e6 : ((2 : Int) ^ m) = ((2 ^ m : Nat) : Int) := by rw [Int.natCast_pow]; rfl
  rw [e6]
  generalize (2 : Nat) ^ m = p at h2 h3 ⊢
  rw [Nat.div_eq_zero_iff]
  constructor
  · intro h
    have : x.toBitVec.toNat < p := by omega
    rw [if_pos (by omega)]
    omega
  · intro h
    split at h
    · right; omega
    · omega
theorem zq_lw {B : Nat → Nat} {a lo : Nat} (hB : B a < 256) (h : 24 ≤ lo) (h2 : lo ≤ 27) : zLw lo (zBe B a (2 ^ (lo - 24))) = (if lo = 24 then zBe B a (2 ^ (lo - 24)) < 24 else ((zBe B a (2 ^ (lo - 24))).toUInt64 >>> ((nI (4 * 2 ^ (lo - 24))).toInt64.toUInt64 &&& Int64.toUInt64 63)).toInt64 = 0) := by
  have : lo = 24 ∨ lo = 25 ∨ lo = 26 ∨ lo = 27 := by omega
  rcases this with rfl | rfl | rfl | rfl
  · rw [if_pos rfl]
    unfold zLw
    have e : zBe B a (2 ^ (24 - 24)) = (nI (B a)).toInt64 := zBe_1
    rw [e]
    apply propext
    have e0 : 0 ≤ (nI (B a)).toInt64 := by rw [w64_le0, wI_pos (by omega)]; trivial
    exact ⟨fun h => h.2, fun h => ⟨e0, h⟩⟩
  · rw [if_neg (by decide)]
    exact (zq_u (m := 8) (c := 256) _ (by decide) (by decide) (by decide)).symm
  · rw [if_neg (by decide)]
    exact (zq_u (m := 16) (c := 65536) _ (by decide) (by decide) (by decide)).symm
  · rw [if_neg (by decide)]
    exact (zq_u (m := 32) (c := 4294967296) _ (by decide) (by decide) (by decide)).symm
