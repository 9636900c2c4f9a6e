-- needs: 01 02.names 03 04 05 18 19 20 22 23 24 25 31 32 33 36 40 42 43 44 46 47 60 61 62 63 64
/-! READING DATA: heads, nodes, and the row of nodes, as functions of bytes -/
/-- a number in n bytes from a on -/
def zBe (B : Nat → Nat) (a : Nat) : Nat → Int64
  | 0 => 0
  | n + 1 => (zBe B a n <<< ((8 : Int32).toInt64 &&& 63)) ||| (nI (B (a + n))).toInt64
/-- a head: kind, further bytes, number, place behind -/
def zhQ (B : Nat → Nat) (a : Nat) : Nat := B a / 32
def zhM (B : Nat → Nat) (a : Nat) : Nat := if B a % 32 < 24 then 0 else 2 ^ (B a % 32 - 24)
def zhN (B : Nat → Nat) (a : Nat) : Int64 := if B a % 32 < 24 then (nI (B a % 32)).toInt64 else zBe B (a + 1) (2 ^ (B a % 32 - 24))
def zhX (B : Nat → Nat) (a : Nat) : Nat := a + 1 + zhM B a
/-- is a number one of its kind? -/
def zNk (q : Nat) (v : Int64) : Prop := (q < 2 → 0 ≤ v) ∧ (q = 2 → 0 ≤ v ∧ v ≤ 64) ∧ (q = 6 → (121 ≤ v ∧ v ≤ 127) ∨ (1280 ≤ v ∧ v ≤ 1400))
/-- the least number that needs so many bytes -/
def zLn (lo : Nat) : Int64 := if lo = 24 then 24 else if lo = 25 then 256 else if lo = 26 then 65536 else 4294967296
def zLw (lo : Nat) (v : Int64) : Prop := 0 ≤ v ∧ v < zLn lo
/-- the fault of a head; fc: it follows a constructor's -/
noncomputable def zhF (B : Nat → Nat) (t : Nat) (fc : Prop) (a : Nat) : Nat := if t ≤ a then 1 else @ite Nat (27 < B a % 32 ∨ zhQ B a = 3 ∨ zhQ B a = 7 ∨ (fc ∧ ¬ zhQ B a = 4)) (Classical.propDecidable _) 3 (if t < zhX B a then 1 else @ite Nat (24 ≤ B a % 32 ∧ zLw (B a % 32) (zhN B a)) (Classical.propDecidable _) 2 (@ite Nat (¬ zNk (zhQ B a) (zhN B a)) (Classical.propDecidable _) 3 0))
noncomputable def zhP (B : Nat → Nat) (t : Nat) (fc : Prop) (a : Nat) : Nat := if zhF B t fc a = 1 then t else a
/-- how much is within, as far as it matters -/
def zCa (v : Int64) : Nat := if v < 0 ∨ 200 < v then 201 else v.toInt.toNat
/-- a node: kind, number, count, within it, place behind -/
def znQ (B : Nat → Nat) (a : Nat) : Nat := if zhQ B a = 1 then 0 else zhQ B a
def znT (B : Nat → Nat) (a : Nat) : Int64 := if zhQ B a = 0 then zhN B a else if zhQ B a = 1 then -1 - zhN B a else if zhQ B a = 6 then (if zhN B a ≤ 127 then zhN B a - 121 else zhN B a - 1273) else 0
def znC (B : Nat → Nat) (a : Nat) : Nat := if zhQ B a = 2 then (zhN B a).toInt.toNat else if zhQ B a = 6 then zCa (zhN B (zhX B a)) else if zhQ B a = 4 then zCa (zhN B a) else if zhQ B a = 5 then zCa (zhN B a) * 2 else 0
def znH (B : Nat → Nat) (a : Nat) : Nat := if zhQ B a = 2 then 0 else znC B a
def znX (B : Nat → Nat) (a : Nat) : Nat := if zhQ B a = 2 then zhX B a + znC B a else if zhQ B a = 6 then zhX B (zhX B a) else zhX B a
/-- the fault of a node at level l, k nodes being there, and its place -/
noncomputable def znF (B : Nat → Nat) (t l k a : Nat) : Nat := if ¬ zhF B t False a = 0 then zhF B t False a else if 12 < l then 4 else if 200 ≤ k then 5 else if zhQ B a = 2 then (if t < zhX B a + znC B a then 1 else 0) else if zhQ B a = 6 then zhF B t True (zhX B a) else 0
noncomputable def znP (B : Nat → Nat) (t l k a : Nat) : Nat := if ¬ zhF B t False a = 0 then zhP B t False a else if 12 < l ∨ 200 ≤ k then a else if zhQ B a = 2 then t else zhP B t True (zhX B a)
/-- the stack of what is still to come: without full ones on its top -/
def zppx : List Nat → List Nat
  | [] => []
  | l :: W => if l = 0 then zppx W else l :: W
def zpus (c : Nat) : List Nat → List Nat
  | [] => []
  | l :: W => if 0 < c then c :: (l - 1) :: W else (l - 1) :: W
/-- the places of the nodes, and what was to come ahead of each -/
def zsq (B : Nat → Nat) : Nat → Nat × List Nat
  | 0 => (0, [1])
  | k + 1 => (znX B (zsq B k).1, zppx (zpus (znH B (zsq B k).1) (zsq B k).2))
abbrev zat (B : Nat → Nat) (k : Nat) : Nat := (zsq B k).1
abbrev zlvl (B : Nat → Nat) (k : Nat) : Nat := (zsq B k).2.length
noncomputable def zsF (B : Nat → Nat) (t k : Nat) : Nat := znF B t (zlvl B k) k (zat B k)
noncomputable def zsP (B : Nat → Nat) (t k : Nat) : Nat := znP B t (zlvl B k) k (zat B k)
/-- the reading: fault, place, nodes -/
noncomputable def zdr (B : Nat → Nat) (t : Nat) : Nat → Nat → Nat × Nat × Nat
  | 0, k => (0, 0, k)
  | r + 1, k => if ¬ zsF B t k = 0 then (zsF B t k, zsP B t k, k) else if (zsq B (k + 1)).2 = [] then (0, 0, k + 1) else zdr B t r (k + 1)
/-! numbers -/
theorem zq_shr : ∀ b, b < 256 → nI b >>> ((5 : Int32) &&& 31) = nI (b / 32) := by decide +kernel
theorem zq_and : ∀ b, b < 256 → nI b &&& 31 = nI (b % 32) := by decide +kernel
theorem zq_shl {lo : Nat} (h : 24 ≤ lo) (h2 : lo ≤ 27) : (1 : Int32) <<< ((nI lo - 24) &&& 31) = nI (2 ^ (lo - 24)) := by
  have : lo = 24 ∨ lo = 25 ∨ lo = 26 ∨ lo = 27 := by omega
  rcases this with rfl | rfl | rfl | rfl <;> decide
theorem zBe_1 {B : Nat → Nat} {a : Nat} : zBe B a 1 = (nI (B a)).toInt64 := by
  show ((0 : Int64) <<< ((8 : Int32).toInt64 &&& 63)) ||| (nI (B (a + 0))).toInt64 = _
  have e : (0 : Int64) <<< ((8 : Int32).toInt64 &&& 63) = 0 := by decide
  rw [e, Int64.zero_or]
  rfl
theorem zq_u {x : Int64} {m : Nat} {c : Int64} (k : Nat) (hc : c.toInt = 2 ^ m) (hm : ((nI k).toInt64.toUInt64 &&& Int64.toUInt64 63).toNat = m) (h63 : m < 63) : ((x.toUInt64 >>> ((nI k).toInt64.toUInt64 &&& Int64.toUInt64 63)).toInt64 = 0) = (0 ≤ x ∧ x < c) := by
  apply propext
  have hx := x.toBitVec.isLt
  have e1 : (x.toUInt64 >>> ((nI k).toInt64.toUInt64 &&& Int64.toUInt64 63)).toInt64 = 0 ↔ x.toUInt64.toNat / 2 ^ m = 0 := by
    have e2 : (x.toUInt64 >>> ((nI k).toInt64.toUInt64 &&& Int64.toUInt64 63)).toNat = x.toUInt64.toNat / 2 ^ m := by
      rw [UInt64.toNat_shiftRight, hm, Nat.mod_eq_of_lt (by omega), Nat.shiftRight_eq_div_pow]
    rw [← e2]
    constructor
    · intro h
      have h2 : (x.toUInt64 >>> ((nI k).toInt64.toUInt64 &&& Int64.toUInt64 63)).toInt64.toUInt64 = (0 : Int64).toUInt64 := by rw [h]
      rw [UInt64.toUInt64_toInt64] at h2
      rw [h2]
      rfl
    · intro h
      have h2 : x.toUInt64 >>> ((nI k).toInt64.toUInt64 &&& Int64.toUInt64 63) = 0 := UInt64.toNat_inj.1 h
      rw [h2]
      rfl
  rw [e1, Int64.le_iff_toInt_le, Int64.lt_iff_toInt_lt, hc]
  have e3 : x.toUInt64.toNat = x.toBitVec.toNat := rfl
  have e4 : x.toInt = x.toBitVec.toInt := rfl
  have e5 : (0 : Int64).toInt = 0 := rfl
  rw [e3, e4, e5, BitVec.toInt_eq_toNat_cond]
  have h2 : (2 : Nat) ^ m < 2 ^ 63 := Nat.pow_lt_pow_right (by decide) h63
  have h3 : 0 < (2 : Nat) ^ m := Nat.two_pow_pos m
  have e6 : ((2 : Int) ^ m) = ((2 ^ m : Nat) : Int) := by rw [Int.natCast_pow]; rfl
  rw [e6]
  generalize (2 : Nat) ^ m = p at h2 h3 ⊢
  rw [Nat.div_eq_zero_iff]
  constructor
  · intro h
    have : x.toBitVec.toNat < p := by omega
    rw [if_pos (by omega)]
    omega
  · intro h
    split at h
    · right; omega
    · omega
theorem zq_lw {B : Nat → Nat} {a lo : Nat} (hB : B a < 256) (h : 24 ≤ lo) (h2 : lo ≤ 27) : zLw lo (zBe B a (2 ^ (lo - 24))) = (if lo = 24 then zBe B a (2 ^ (lo - 24)) < 24 else ((zBe B a (2 ^ (lo - 24))).toUInt64 >>> ((nI (4 * 2 ^ (lo - 24))).toInt64.toUInt64 &&& Int64.toUInt64 63)).toInt64 = 0) := by
  have : lo = 24 ∨ lo = 25 ∨ lo = 26 ∨ lo = 27 := by omega
  rcases this with rfl | rfl | rfl | rfl
  · rw [if_pos rfl]
    unfold zLw
    have e : zBe B a (2 ^ (24 - 24)) = (nI (B a)).toInt64 := zBe_1
    rw [e]
    apply propext
    have e0 : 0 ≤ (nI (B a)).toInt64 := by rw [w64_le0, wI_pos (by omega)]; trivial
    exact ⟨fun h => h.2, fun h => ⟨e0, h⟩⟩
  · rw [if_neg (by decide)]
    exact (zq_u (m := 8) (c := 256) _ (by decide) (by decide) (by decide)).symm
  · rw [if_neg (by decide)]
    exact (zq_u (m := 16) (c := 65536) _ (by decide) (by decide) (by decide)).symm
  · rw [if_neg (by decide)]
    exact (zq_u (m := 32) (c := 4294967296) _ (by decide) (by decide) (by decide)).symm
