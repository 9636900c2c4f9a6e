-- needs: 01 02.names 03 04 05 18 19 20 22 23 24 25 30 31 32 33 35 36 37 40 42 43 44 45 46 47 60 61 62 63 64 79f 79g 79h 79i 79j 79k 79l 79m 79n 79o 79p 79q 79r 79s 79t 79u 79v 79w 79x 79y 79z. 79za 79zb 79zc 79zd 79ze 79zf 79zg 79zh 79zi
/-! what some live outputs hold together is no more than what all of them do -/
/-- the sum over the first n of a row of numbers -/
def zsI (f : Nat → Int) : Nat → Int
  | 0 => 0
  | n + 1 => zsI f n + f n
/-- .. over those below m that are in the row -/
noncomputable def zsM (f : Nat → Int) (ia : Nat → Nat) (n : Nat) : Nat → Int
  | 0 => 0
  | k + 1 => zsM f ia n k + @ite Int (∃ i, i < n ∧ ia i = k) (Classical.propDecidable _) (f k) 0
theorem zsM_s {f : Nat → Int} {ia : Nat → Nat} {n : Nat} (hd : ∀ i, i < n → ¬ ia i = ia n) : ∀ m, zsM f ia (n + 1) m = zsM f ia n m + if ia n < m then f (ia n) else 0 := by
  intro m
  induction m with
  | zero => show (0 : Int) = 0 + _; rw [if_neg (by omega)]; rfl
  | succ m ih =>
    unfold zsM
    rw [ih]
    by_cases h1 : ia n = m
    · have n1 : ¬ ∃ i, i < n ∧ ia i = m := fun ⟨i, i1, i2⟩ => hd i i1 (i2.trans h1.symm)
      have p1 : ∃ i, i < n + 1 ∧ ia i = m := ⟨n, Nat.lt_succ_self n, h1⟩
      rw [if_pos (c := ∃ i, i < n + 1 ∧ ia i = m) p1, if_neg (c := ∃ i, i < n ∧ ia i = m) n1, if_neg (c := ia n < m) (by omega), if_pos (c := ia n < m + 1) (by omega), h1]
      try omega
    · by_cases h2 : ∃ i, i < n ∧ ia i = m
      · have p1 : ∃ i, i < n + 1 ∧ ia i = m := by
          obtain ⟨i, i1, i2⟩ := h2
          exact ⟨i, Nat.lt_succ_of_lt i1, i2⟩
        rw [if_pos (c := ∃ i, i < n + 1 ∧ ia i = m) p1, if_pos (c := ∃ i, i < n ∧ ia i = m) h2]
        clear p1 h2
        by_cases h3 : ia n < m
        · rw [if_pos (c := ia n < m) h3, if_pos (c := ia n < m + 1) (by omega)]; omega
        · rw [if_neg (c := ia n < m) h3, if_neg (c := ia n < m + 1) (by omega)]
          try omega
      · have n2 : ¬ ∃ i, i < n + 1 ∧ ia i = m := fun ⟨i, i1, i2⟩ => by
          by_cases hin : i = n
          · rw [hin] at i2; exact h1 i2
          · exact h2 ⟨i, by omega, i2⟩
        rw [if_neg (c := ∃ i, i < n + 1 ∧ ia i = m) n2, if_neg (c := ∃ i, i < n ∧ ia i = m) h2]
        clear n2 h2
        by_cases h3 : ia n < m
        · rw [if_pos (c := ia n < m) h3, if_pos (c := ia n < m + 1) (by omega)]; omega
        · rw [if_neg (c := ia n < m) h3, if_neg (c := ia n < m + 1) (by omega)]
          try omega
theorem zsM_e {f : Nat → Int} {ia : Nat → Nat} {m : Nat} : ∀ n, (∀ i, i < n → ia i < m) → (∀ i j, i < j → j < n → ¬ ia i = ia j) → zsM f ia n m = zsI (fun i => f (ia i)) n := by
  intro n
  induction n with
  | zero =>
    intro _ _
    have gen : ∀ k, zsM f ia 0 k = 0 := by
      intro k
      induction k with
      | zero => rfl
      | succ k ih =>
        unfold zsM
        rw [ih, if_neg (fun ⟨i, i1, _⟩ => absurd i1 (Nat.not_lt_zero _))]
        rfl
    exact gen m
  | succ n ih =>
    intro h1 h2
    rw [zsM_s (fun i hi => h2 i n hi (by omega)), ih (fun i hi => h1 i (by omega)) (fun i j hij hj => h2 i j hij (by omega)), if_pos (h1 n (by omega))]
    rfl
section
variable {A : zI} {B : zJ} {g : Nat → Nat → Nat} {p : Int32} {x : Int64} {m e h s : Nat}
theorem zsM_t {ia : Nat → Nat} {n : Nat} (W : zWfO A B g m e h s) (hh : h < 2 ^ 31) (hl : ∀ i, i < n → A 3664 (ia i) = -1) : ∀ k, k ≤ m → zsM (fun k => zAmt A B k p x (g 6 k)) ia n k ≤ zTot A B g e ((h : Int) + 1) p x k := by
  intro k
  induction k with
  | zero => intro _; exact Int.le_refl _
  | succ k ih =>
    intro hk
    have h1 := ih (by omega)
    unfold zsM zTot
    have hpos : 0 ≤ zAmt A B k p x (g 6 k) := zAmt_pos (g 6 k) (fun j hj => ((W k (by omega)).2.2.2.1 j hj).2.1)
    by_cases h2 : ∃ i, i < n ∧ ia i = k
    · obtain ⟨i, i1, i2⟩ := id h2
      have hsp := hl i i1
      rw [i2] at hsp
      have alv : zAlv A e k ((h : Int) + 1) := by
        refine ⟨Or.inr ?_, Or.inl (by rw [hsp]; decide)⟩
        obtain ⟨⟨y, hy, e1⟩, -⟩ := W k (by omega)
        rw [e1, nI_toInt (by omega)]
        omega
      rw [if_pos h2, if_pos alv]
      omega
    · rw [if_neg h2]
      split <;> omega
/-- the sum of what the outputs of a row hold -/
theorem zsI_t {ia : Nat → Nat} {n : Nat} (W : zWfO A B g m e h s) (hh : h < 2 ^ 31) (hl : ∀ i, i < n → ia i < m ∧ A 3664 (ia i) = -1) (hd : ∀ i j, i < j → j < n → ¬ ia i = ia j) : zsI (fun i => zAmt A B (ia i) p x (g 6 (ia i))) n ≤ zTot A B g e ((h : Int) + 1) p x m := by
  have h1 := zsM_e (f := fun k => zAmt A B k p x (g 6 k)) n (fun i hi => (hl i hi).1) hd
  have h2 := zsM_t (p := p) (x := x) W hh (fun i hi => (hl i hi).2) m (Nat.le_refl _)
  rw [h1] at h2
  exact h2
theorem zsI_pos {f : Nat → Int} : ∀ n, (∀ i, i < n → 0 ≤ f i) → 0 ≤ zsI f n := by
  intro n
  induction n with
  | zero => intro _; exact Int.le_refl _
  | succ n ih =>
    intro h1
    have h2 := ih (fun i hi => h1 i (by omega))
    have h3 := h1 n (by omega)
    show 0 ≤ zsI f n + f n
    omega
theorem zsI_mono {f : Nat → Int} {n : Nat} (h1 : ∀ i, i < n → 0 ≤ f i) : ∀ d i, i + d = n → zsI f i ≤ zsI f n := by
  intro d
  induction d with
  | zero =>
    intro i hi
    obtain rfl : i = n := by omega
    exact Int.le_refl _
  | succ d ih =>
    intro i hi
    have h2 := ih (i + 1) (by omega)
    have h3 := h1 i (by omega)
    have h4 : zsI f (i + 1) = zsI f i + f i := rfl
    omega
/-- .. as a long -/
theorem zsJ_i {f : Nat → Int64} {n : Nat} (h1 : ∀ i, i < n → 0 ≤ (f i).toInt) (h2 : zsI (fun i => (f i).toInt) n ≤ 4611686018427387904) : ∀ i, i ≤ n → (zsJ f i).toInt = zsI (fun i => (f i).toInt) i := by
  intro i
  induction i with
  | zero => intro _; rfl
  | succ i ih =>
    intro hi
    have h3 := ih (by omega)
    have h4 := zsI_mono (f := fun i => (f i).toInt) h1 (n - (i + 1)) (i + 1) (by omega)
    have h5 := zsI_pos (f := fun i => (f i).toInt) i (fun k hk => h1 k (by omega))
    have h6 := h1 i (by omega)
    have h7 : zsI (fun i => (f i).toInt) (i + 1) = zsI (fun i => (f i).toInt) i + (f i).toInt := rfl
    show (zsJ f i + f i).toInt = _
    rw [Int64.toInt_add, h3, h7]
    apply Int.bmod_eq_of_le
    · omega
    · omega
end
