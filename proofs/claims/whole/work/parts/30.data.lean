-- needs: 01 02.names 03
/-! READING DATA: heads, nodes, and the row of nodes, as functions of bytes -/
def zby' (x : Int32) : Nat := x.toBitVec.toNat % 256
/-- a number in n bytes from a on -/
def zBe (B : Nat → Nat) (a : Nat) : Nat → Int64
  | 0 => 0
  | n + 1 => (zBe B a n <<< ((8 : Int32).toInt64 &&& 63)) ||| (nI (B (a + n))).toInt64
/-- a head: kind, further bytes, number, place behind -/
def zhQ (B : Nat → Nat) (a : Nat) : Nat := B a / 32
def zhM (B : Nat → Nat) (a : Nat) : Nat := if B a % 32 < 24 then 0 else 2 ^ (B a % 32 - 24)
def zhN (B : Nat → Nat) (a : Nat) : Int64 := if B a % 32 < 24 then (nI (B a % 32)).toInt64 else zBe B (a + 1) (2 ^ (B a % 32 - 24))
def zhX (B : Nat → Nat) (a : Nat) : Nat := a + 1 + zhM B a
/-- is a number one of its kind? -/
def zNk (q : Nat) (v : Int64) : Prop := (q < 2 → 0 ≤ v) ∧ (q = 2 → 0 ≤ v ∧ v ≤ 64) ∧ (q = 6 → (121 ≤ v ∧ v ≤ 127) ∨ (1280 ≤ v ∧ v ≤ 1400))
/-- the least number that needs so many bytes -/
def zLn (lo : Nat) : Int64 := if lo = 24 then 24 else if lo = 25 then 256 else if lo = 26 then 65536 else 4294967296
def zLw (lo : Nat) (v : Int64) : Prop := 0 ≤ v ∧ v < zLn lo
/-- the fault of a head; fc: it follows a constructor's -/
noncomputable def zhF (B : Nat → Nat) (t : Nat) (fc : Prop) (a : Nat) : Nat := if t ≤ a then 1 else @ite Nat (27 < B a % 32 ∨ zhQ B a = 3 ∨ zhQ B a = 7 ∨ (fc ∧ ¬ zhQ B a = 4)) (Classical.propDecidable _) 3 (if t < zhX B a then 1 else @ite Nat (24 ≤ B a % 32 ∧ zLw (B a % 32) (zhN B a)) (Classical.propDecidable _) 2 (@ite Nat (¬ zNk (zhQ B a) (zhN B a)) (Classical.propDecidable _) 3 0))
noncomputable def zhP (B : Nat → Nat) (t : Nat) (fc : Prop) (a : Nat) : Nat := if zhF B t fc a = 1 then t else a
/-- how much is within, as far as it matters -/
def zCa (v : Int64) : Nat := if v < 0 ∨ 200 < v then 201 else v.toInt.toNat
/-- a node: kind, number, count, within it, place behind -/
def znQ (B : Nat → Nat) (a : Nat) : Nat := if zhQ B a = 1 then 0 else zhQ B a
def znT (B : Nat → Nat) (a : Nat) : Int64 := if zhQ B a = 0 then zhN B a else if zhQ B a = 1 then -1 - zhN B a else if zhQ B a = 6 then (if zhN B a ≤ 127 then zhN B a - 121 else zhN B a - 1273) else 0
def znC (B : Nat → Nat) (a : Nat) : Nat := if zhQ B a = 2 then (zhN B a).toInt.toNat else if zhQ B a = 6 then zCa (zhN B (zhX B a)) else if zhQ B a = 4 then zCa (zhN B a) else if zhQ B a = 5 then zCa (zhN B a) * 2 else 0
def znH (B : Nat → Nat) (a : Nat) : Nat := if zhQ B a = 2 then 0 else znC B a
def znX (B : Nat → Nat) (a : Nat) : Nat := if zhQ B a = 2 then zhX B a + znC B a else if zhQ B a = 6 then zhX B (zhX B a) else zhX B a
/-- the fault of a node at level l, k nodes being there, and its place -/
noncomputable def znF (B : Nat → Nat) (t l k a : Nat) : Nat := if ¬ zhF B t False a = 0 then zhF B t False a else if 12 < l then 4 else if 200 ≤ k then 5 else if zhQ B a = 2 then (if t < zhX B a + znC B a then 1 else 0) else if zhQ B a = 6 then zhF B t True (zhX B a) else 0
noncomputable def znP (B : Nat → Nat) (t l k a : Nat) : Nat := if ¬ zhF B t False a = 0 then zhP B t False a else if 12 < l ∨ 200 ≤ k then a else if zhQ B a = 2 then t else zhP B t True (zhX B a)
/-- the stack of what is still to come: without full ones on its top -/
def zppx : List Nat → List Nat
  | [] => []
  | l :: W => if l = 0 then zppx W else l :: W
def zpus (c : Nat) : List Nat → List Nat
  | [] => []
  | l :: W => if 0 < c then c :: (l - 1) :: W else (l - 1) :: W
/-- the places of the nodes, and what was to come ahead of each -/
def zsq (B : Nat → Nat) : Nat → Nat × List Nat
  | 0 => (0, [1])
  | k + 1 => (znX B (zsq B k).1, zppx (zpus (znH B (zsq B k).1) (zsq B k).2))
abbrev zat (B : Nat → Nat) (k : Nat) : Nat := (zsq B k).1
abbrev zlvl (B : Nat → Nat) (k : Nat) : Nat := (zsq B k).2.length
noncomputable def zsF (B : Nat → Nat) (t k : Nat) : Nat := znF B t (zlvl B k) k (zat B k)
noncomputable def zsP (B : Nat → Nat) (t k : Nat) : Nat := znP B t (zlvl B k) k (zat B k)
/-- the reading: fault, place, nodes -/
noncomputable def zdr (B : Nat → Nat) (t : Nat) : Nat → Nat → Nat × Nat × Nat
  | 0, k => (0, 0, k)
  | r + 1, k => if ¬ zsF B t k = 0 then (zsF B t k, zsP B t k, k) else if (zsq B (k + 1)).2 = [] then (0, 0, k + 1) else zdr B t r (k + 1)
/-- bytes, as far as there are -/
def ztB (B : Nat → Nat) (t j : Nat) : Nat := if j < t then B j else 0
/-- the datum of output k is DATA -/
def zDk (row : Nat → Int32) (k t : Nat) : Prop := (∃ K, zdr (ztB (fun j => zby' (row (128 * k + j))) t) t 201 0 = (0, 0, K)) ∧ ∀ j, j < t → (row (128 * k + j)).toInt8.toInt32 = row (128 * k + j)
theorem zDk_c {row row' : Nat → Int32} {k t : Nat} (h : ∀ j, j < t → row' (128 * k + j) = row (128 * k + j)) (H : zDk row k t) : zDk row' k t := by
  obtain ⟨⟨K, H⟩, Hb⟩ := H
  refine ⟨⟨K, ?_⟩, fun j hj => by rw [h j hj]; exact Hb j hj⟩
  have e : ztB (fun j => zby' (row' (128 * k + j))) t = ztB (fun j => zby' (row (128 * k + j))) t := by
    funext j
    unfold ztB
    by_cases hj : j < t
    · rw [if_pos hj, if_pos hj]
      exact congrArg zby' (h j hj)
    · rw [if_neg hj, if_neg hj]
  rw [e]
  exact H
theorem zDk_0 {row : Nat → Int32} {k : Nat} (h : row (128 * k) = 0) : zDk row k 1 := by
  refine ⟨⟨1, ?_⟩, fun j hj => by rw [show 128 * k + j = 128 * k by omega, h]; decide⟩
  have e : ztB (fun j => zby' (row (128 * k + j))) 1 = fun _ => 0 := by
    funext j
    unfold ztB
    by_cases hj : j < 1
    · obtain rfl : j = 0 := by omega
      rw [if_pos hj]
      show zby' (row (128 * k)) = 0
      rw [h]
      rfl
    · rw [if_neg hj]
  rw [e]
  have q0 : zhQ (fun _ => 0) 0 = 0 := rfl
  have k0 : zNk (zhQ (fun _ => 0) 0) (zhN (fun _ => 0) 0) := by
    rw [q0]
    exact ⟨fun _ => by decide, fun h => by omega, fun h => by omega⟩
  have h0 : zhF (fun _ => 0) 1 False 0 = 0 := by
    unfold zhF
    rw [q0, if_neg (by omega), if_neg (fun h => by
      rcases h with h | h | h | h
      · have h : 27 < 0 % 32 := h
        omega
      · omega
      · omega
      · exact h.1), if_neg (by show ¬ 1 < 0 + 1 + 0; omega), if_neg (fun h => by have h : 24 ≤ 0 % 32 := h.1; omega), if_neg (fun h => h k0)]
  have s0 : zsF (fun _ => 0) 1 0 = 0 := by
    show znF (fun _ => 0) 1 1 0 0 = 0
    unfold znF
    rw [if_neg (fun h => h h0), q0]
    rfl
  show (if ¬ zsF (fun _ => 0) 1 0 = 0 then _ else _) = _
  rw [if_neg (fun h => h s0), if_pos (show (zsq (fun _ => 0) (0 + 1)).2 = [] from rfl)]
