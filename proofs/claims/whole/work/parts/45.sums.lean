-- needs: 01 02.names 03 04 05 18 19 20 22 23 24 25 30 31 32 33 35 36 37 40 42 43
/-! what lies in an output and in all of them, as numbers without an end -/
section
variable {A : zI} {B : zJ} {g : Nat → Nat → Nat} {k : Nat} {p : Int32} {x : Int64}
theorem zAmt_none : ∀ c, (∀ j, j < c → ¬ (A 3472 (8 * k + j) = p ∧ B 3505 (8 * k + j) = x)) → zAmt A B k p x c = 0 := by
  intro c
  induction c with
  | zero => intro _; rfl
  | succ c ih =>
    intro h
    unfold zAmt
    rw [ih (fun j hj => h j (by omega)), if_neg (h c (by omega))]
    rfl
theorem zAmt_some {j0 : Nat} : ∀ c, j0 < c → (A 3472 (8 * k + j0) = p ∧ B 3505 (8 * k + j0) = x) → (∀ j, j < c → j ≠ j0 → ¬ (A 3472 (8 * k + j) = p ∧ B 3505 (8 * k + j) = x)) → zAmt A B k p x c = (B 3537 (8 * k + j0)).toInt := by
  intro c
  induction c with
  | zero => intro h; omega
  | succ c ih =>
    intro hj hm hu
    unfold zAmt
    by_cases hc : j0 = c
    · subst hc
      rw [if_pos hm, zAmt_none j0 (fun j hj => hu j (by omega) (by omega))]
      omega
    · rw [ih (by omega) hm (fun j hj hn => hu j (by omega) hn), if_neg (hu c (by omega) (by omega))]
      omega
theorem zCn_some {po : Nat → Int32} {nm am : Nat → Int64} {j0 : Nat} : ∀ r j, j ≤ j0 → j0 < j + r → (po j0 = p ∧ nm j0 = x) → (∀ i, j ≤ i → i < j0 → ¬ (po i = p ∧ nm i = x)) → zCn po nm am p x r j = am j0 := by
  intro r
  induction r with
  | zero => intro j h1 h2; omega
  | succ r ih =>
    intro j h1 h2 hm hu
    unfold zCn
    by_cases hj : j = j0
    · subst hj
      rw [if_pos hm]
    · rw [if_neg (hu j (Nat.le_refl j) (by omega))]
      exact ih (j + 1) (by omega) (by omega) hm (fun i h3 h4 => hu i (by omega) h4)
theorem zHd_toInt (hs : ∀ i j, i < j → j < g 6 k → zAhd (A 3472 (8 * k + i)) (B 3505 (8 * k + i)) (A 3472 (8 * k + j)) (B 3505 (8 * k + j))) : (zHd (A 3472) (B 3505) (B 3537) (g 6) p x k).toInt = zAmt A B k p x (g 6 k) := by
  unfold zHd
  by_cases h : ∃ j, j < g 6 k ∧ (A 3472 (8 * k + j) = p ∧ B 3505 (8 * k + j) = x)
  · obtain ⟨j0, h1, h2⟩ := h
    have hu : ∀ j, j < g 6 k → j ≠ j0 → ¬ (A 3472 (8 * k + j) = p ∧ B 3505 (8 * k + j) = x) := by
      intro j hj hn hm
      rcases Nat.lt_or_ge j j0 with h3 | h3
      · have := hs j j0 h3 h1
        rw [hm.1, hm.2, h2.1, h2.2] at this
        exact zAhd_irr this
      · have := hs j0 j (by omega) hj
        rw [hm.1, hm.2, h2.1, h2.2] at this
        exact zAhd_irr this
    rw [zAmt_some (g 6 k) h1 h2 hu, zCn_some (j0 := j0) (g 6 k) 0 (by omega) (by omega) h2 (fun i _ h4 => hu i (by omega) (by omega))]
  · have hu : ∀ j, j < g 6 k → ¬ (A 3472 (8 * k + j) = p ∧ B 3505 (8 * k + j) = x) := fun j hj hm => h ⟨j, hj, hm⟩
    rw [zAmt_none (g 6 k) hu, zCn_none (g 6 k) 0 (fun j _ hj => hu j (by omega))]
    rfl
theorem zAmt_pos : ∀ c, (∀ j, j < c → 1 ≤ B 3537 (8 * k + j)) → 0 ≤ zAmt A B k p x c := by
  intro c
  induction c with
  | zero => intro _; exact Int.le_refl 0
  | succ c ih =>
    intro h
    unfold zAmt
    have h1 := ih (fun j hj => h j (by omega))
    have h2 : (1 : Int64).toInt ≤ (B 3537 (8 * k + c)).toInt := Int64.le_iff_toInt_le.1 (h c (by omega))
    have e1 : (1 : Int64).toInt = 1 := rfl
    split <;> omega
theorem zTot_le {e h s m : Nat} {t : Int} (W : zWfO A B g m e h s) : ∀ j i, i + j ≤ m → 0 ≤ zTot A B g e t p x i ∧ zTot A B g e t p x i ≤ zTot A B g e t p x (i + j) := by
  intro j
  induction j with
  | zero =>
    intro i
    induction i with
    | zero => intro _; exact ⟨Int.le_refl 0, Int.le_refl _⟩
    | succ i ih =>
      intro hi
      refine ⟨?_, Int.le_refl _⟩
      have h1 := (ih (by omega)).1
      have h2 := zAmt_pos (A := A) (B := B) (k := i) (p := p) (x := x) (g 6 i) (fun j hj => ((W i (by omega)).2.2.2.1 j hj).2.1)
      unfold zTot
      split <;> omega
  | succ j ih =>
    intro i hi
    obtain ⟨h0, h1⟩ := ih i (by omega)
    refine ⟨h0, Int.le_trans h1 ?_⟩
    have h2 := zAmt_pos (A := A) (B := B) (k := i + j) (p := p) (x := x) (g 6 (i + j)) (fun q hq => ((W (i + j) (by omega)).2.2.2.1 q hq).2.1)
    show _ ≤ zTot A B g e t p x (i + j) + @ite Int (zAlv A e (i + j) t) (Classical.propDecidable _) (zAmt A B (i + j) p x (g 6 (i + j))) 0
    split <;> omega
/-- the sum of what is live does not wrap -/
theorem zLt_toInt {e h s m : Nat} (hh : h < 2 ^ 31) (W : zWfO A B g m e h s) (hC : zTot A B g e ((h : Int) + 1) p x m ≤ 4611686018427387904) : ∀ k, k ≤ m → (zLt (A 3664) (zHd (A 3472) (B 3505) (B 3537) (g 6) p x) k).toInt = zTot A B g e ((h : Int) + 1) p x k := by
  intro k
  induction k with
  | zero => intro _; rfl
  | succ k ih =>
    intro hk
    have w := W k (by omega)
    have h1 := ih (by omega)
    have h2 := zTot_le (p := p) (x := x) (t := (h : Int) + 1) W 1 k (by omega)
    have h3 := zTot_le (p := p) (x := x) (t := (h : Int) + 1) W (m - (k + 1)) (k + 1) (by omega)
    rw [show k + 1 + (m - (k + 1)) = m by omega] at h3
    have h4 := zHd_toInt (A := A) (B := B) (p := p) (x := x) w.2.2.2.2.1
    have q : zAlv A e k ((h : Int) + 1) = (A 3664 k < 0) := by
      obtain ⟨⟨y, hy, e1⟩, h2, -⟩ := w
      unfold zAlv
      rw [e1, nI_toInt (by omega), Int32.lt_iff_toInt_lt]
      have e0 : (0 : Int32).toInt = 0 := rfl
      rw [e0]
      rcases h2 with h2 | ⟨v, hv, h2⟩
      · rw [h2, wn_toInt]
        exact propext (by omega)
      · rw [h2, nI_toInt (by omega)]
        exact propext (by omega)
    by_cases hl : A 3664 k < 0
    · have e1 : zTot A B g e ((h : Int) + 1) p x (k + 1) = zTot A B g e ((h : Int) + 1) p x k + zAmt A B k p x (g 6 k) := by
        show zTot A B g e ((h : Int) + 1) p x k + _ = _
        rw [if_pos (by rw [q]; exact hl)]
      have e2 : zLt (A 3664) (zHd (A 3472) (B 3505) (B 3537) (g 6) p x) (k + 1) = zLt (A 3664) (zHd (A 3472) (B 3505) (B 3537) (g 6) p x) k + zHd (A 3472) (B 3505) (B 3537) (g 6) p x k := by
        show zLt _ _ k + _ = _
        rw [if_pos hl]
      rw [e1, e2, Int64.toInt_add, h1, h4, Int.bmod_eq_of_le (by omega) (by omega)]
    · have e1 : zTot A B g e ((h : Int) + 1) p x (k + 1) = zTot A B g e ((h : Int) + 1) p x k := by
        show zTot A B g e ((h : Int) + 1) p x k + _ = _
        rw [if_neg (by rw [q]; exact hl)]
        omega
      have e2 : zLt (A 3664) (zHd (A 3472) (B 3505) (B 3537) (g 6) p x) (k + 1) = zLt (A 3664) (zHd (A 3472) (B 3505) (B 3537) (g 6) p x) k := by
        show zLt _ _ k + _ = _
        rw [if_neg hl]
        exact Int64.add_zero _
      rw [e1, e2, h1]
end
