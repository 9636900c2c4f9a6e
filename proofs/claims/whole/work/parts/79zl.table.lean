-- needs: 01 02.names 03 04 05 18 19 20 22 23 24 25 30 31 32 33 35 36 37 40 42 43 44 45 46 47
/-! tables of kinds that lie in order: what one more amount makes of them -/
theorem zAhd_tri {p q : Int32} {x y : Int64} (h : ¬ zAhd p x q y) (hn : ¬ (p = q ∧ x = y)) : zAhd q y p x := by
  unfold zAhd at *
  by_cases h1 : p = q
  · subst h1
    refine Or.inr ⟨rfl, ?_⟩
    have h2 : ¬ (x ^^^ -9223372036854775808) < (y ^^^ -9223372036854775808) := fun h' => h (Or.inr ⟨rfl, h'⟩)
    have h3 := Int64.not_lt.1 h2
    rcases Int64.le_iff_lt_or_eq.1 h3 with h4 | h4
    · exact h4
    · exfalso
      apply hn
      refine ⟨rfl, ?_⟩
      have h5 : (y ^^^ -9223372036854775808) ^^^ -9223372036854775808 = (x ^^^ -9223372036854775808) ^^^ -9223372036854775808 := by rw [h4]
      rw [Int64.xor_assoc, Int64.xor_assoc, Int64.xor_self, Int64.xor_zero, Int64.xor_zero] at h5
      exact h5.symm
  · left
    have h2 : ¬ p < q := fun h' => h (Or.inl h')
    rcases Int32.le_iff_lt_or_eq.1 (Int32.not_lt.1 h2) with h3 | h3
    · exact h3
    · exact absurd h3.symm h1
/-- a table in order -/
def zSrt (po : Nat → Int32) (nm : Nat → Int64) (w : Nat) : Prop := ∀ i j, i < j → j < w → zAhd (po i) (nm i) (po j) (nm j)
/-- a kind is in it -/
def zHsk (po : Nat → Int32) (nm : Nat → Int64) (w : Nat) (p : Int32) (x : Int64) : Prop := ∃ i, i < w ∧ po i = p ∧ nm i = x
theorem zPl_i {po : Nat → Int32} {nm : Nat → Int64} {p : Int32} {x : Int64} : ∀ r i, (∀ k, i ≤ k → k < zPl po nm p x r i → zAhd (po k) (nm k) p x) ∧ (zPl po nm p x r i < i + r → ¬ zAhd (po (zPl po nm p x r i)) (nm (zPl po nm p x r i)) p x) := by
  intro r
  induction r with
  | zero => intro i; exact ⟨fun k h1 h2 => by have h2 : k < i := h2; omega, fun h => by have h : i < i + 0 := h; omega⟩
  | succ r ih =>
    intro i
    by_cases h : zAhd (po i) (nm i) p x
    · have e : zPl po nm p x (r + 1) i = zPl po nm p x r (i + 1) := if_pos h
      rw [e]
      obtain ⟨h1, h2⟩ := ih (i + 1)
      refine ⟨fun k k1 k2 => ?_, fun h3 => h2 (by omega)⟩
      by_cases hki : k = i
      · rw [hki]; exact h
      · exact h1 k (by omega) k2
    · have e : zPl po nm p x (r + 1) i = i := if_neg h
      rw [e]
      exact ⟨fun k k1 k2 => by omega, fun _ => h⟩
section
variable {po : Nat → Int32} {nm am : Nat → Int64} {w : Nat} {p q : Int32} {x y : Int64}
/-- the kind is found where it is looked for, or is not there -/
theorem zPl_h (hs : zSrt po nm w) : (zPl po nm p x w 0 < w ∧ po (zPl po nm p x w 0) = p ∧ nm (zPl po nm p x w 0) = x) ↔ zHsk po nm w p x := by
  obtain ⟨h1, h2⟩ := zPl_i (po := po) (nm := nm) (p := p) (x := x) w 0
  have h3 := zPl_le (cp := po) (cx := nm) (p := p) (x := x) w 0
  constructor
  · rintro ⟨a, b, c⟩
    exact ⟨_, a, b, c⟩
  · rintro ⟨i, i1, rfl, rfl⟩
    rcases Nat.lt_trichotomy i (zPl po nm (po i) (nm i) w 0) with h | h | h
    · exact absurd (h1 i (by omega) h) zAhd_irr
    · rw [← h]; exact ⟨i1, rfl, rfl⟩
    · exact absurd (hs _ i h i1) (h2 (by omega))
theorem zAm_h (hs : zSrt po nm w) {i : Nat} (hi : i < w) (h1 : po i = p) (h2 : nm i = x) : zAm po nm am w p x = am i := by
  have h3 := (zPl_h hs).2 ⟨i, hi, h1, h2⟩
  unfold zAm
  rw [if_pos h3]
  rcases Nat.lt_trichotomy (zPl po nm p x w 0) i with h | h | h
  · have := hs _ i h hi
    rw [h3.2.1, h3.2.2, h1, h2] at this
    exact absurd this zAhd_irr
  · rw [h]
  · have := hs i _ h h3.1
    rw [h3.2.1, h3.2.2, h1, h2] at this
    exact absurd this zAhd_irr
theorem zAm_n (hs : zSrt po nm w) (h : ¬ zHsk po nm w p x) : zAm po nm am w p x = 0 := by
  unfold zAm
  rw [if_neg (fun h' => h ((zPl_h hs).1 h'))]
/-- one more in a row, at place k -/
def zIns {α : Type} (r : Nat → α) (k : Nat) (v : α) : Nat → α := fun i => if i < k then r i else if i = k then v else r (i - 1)
theorem zIns_l {α : Type} {r : Nat → α} {k i : Nat} {v : α} (h : i < k) : zIns r k v i = r i := if_pos h
theorem zIns_a {α : Type} {r : Nat → α} {k : Nat} {v : α} : zIns r k v k = v := by unfold zIns; rw [if_neg (by omega), if_pos rfl]
theorem zIns_g {α : Type} {r : Nat → α} {k i : Nat} {v : α} (h : k < i) : zIns r k v i = r (i - 1) := by unfold zIns; rw [if_neg (by omega), if_neg (by omega)]
theorem zIns_s (hs : zSrt po nm w) (hn : ¬ zHsk po nm w p x) : zSrt (zIns po (zPl po nm p x w 0) p) (zIns nm (zPl po nm p x w 0) x) (w + 1) := by
  obtain ⟨h1, h2⟩ := zPl_i (po := po) (nm := nm) (p := p) (x := x) w 0
  have h3 := zPl_le (cp := po) (cx := nm) (p := p) (x := x) w 0
  generalize zPl po nm p x w 0 = k at h1 h2 h3
  have beh : ∀ j, k ≤ j → j < w → zAhd p x (po j) (nm j) := fun j j1 j2 => by
    have h4 : zAhd p x (po k) (nm k) := zAhd_tri (h2 (by omega)) (fun h => hn ⟨k, by omega, h.1, h.2⟩)
    by_cases hjk : j = k
    · rw [hjk]; exact h4
    · exact zAhd_tr h4 (hs k j (by omega) j2)
  intro i j hij hj
  rcases Nat.lt_trichotomy i k with hi | hi | hi
  · rw [zIns_l hi, zIns_l hi]
    rcases Nat.lt_trichotomy j k with hj' | hj' | hj'
    · rw [zIns_l hj', zIns_l hj']
      exact hs i j hij (by omega)
    · rw [hj', zIns_a, zIns_a]
      exact h1 i (by omega) hi
    · rw [zIns_g hj', zIns_g hj']
      exact hs i (j - 1) (by omega) (by omega)
  · rw [hi, zIns_a, zIns_a, zIns_g (by omega), zIns_g (by omega)]
    exact beh (j - 1) (by omega) (by omega)
  · rw [zIns_g hi, zIns_g hi, zIns_g (by omega), zIns_g (by omega)]
    exact hs (i - 1) (j - 1) (by omega) (by omega)
theorem zIns_h {k : Nat} (hk : k ≤ w) : zHsk (zIns po k p) (zIns nm k x) (w + 1) q y ↔ (zHsk po nm w q y ∨ (q = p ∧ y = x)) := by
  constructor
  · rintro ⟨i, i1, i2, i3⟩
    rcases Nat.lt_trichotomy i k with hi | hi | hi
    · rw [zIns_l hi] at i2 i3
      exact Or.inl ⟨i, by omega, i2, i3⟩
    · rw [hi, zIns_a] at i2 i3
      exact Or.inr ⟨i2.symm, i3.symm⟩
    · rw [zIns_g hi] at i2 i3
      exact Or.inl ⟨i - 1, by omega, i2, i3⟩
  · rintro (⟨i, i1, i2, i3⟩ | ⟨rfl, rfl⟩)
    · by_cases hi : i < k
      · exact ⟨i, by omega, by rw [zIns_l hi]; exact i2, by rw [zIns_l hi]; exact i3⟩
      · exact ⟨i + 1, by omega, by rw [zIns_g (by omega)]; exact i2, by rw [zIns_g (by omega)]; exact i3⟩
    · exact ⟨k, by omega, zIns_a, zIns_a⟩
/-- what a table holds of a kind once one more amount is put in as a new kind -/
theorem zIns_m (hs : zSrt po nm w) (hn : ¬ zHsk po nm w p x) {a : Int64} : zAm (zIns po (zPl po nm p x w 0) p) (zIns nm (zPl po nm p x w 0) x) (zIns am (zPl po nm p x w 0) a) (w + 1) q y = if q = p ∧ y = x then a else zAm po nm am w q y := by
  have hs' := zIns_s hs hn
  have h3 := zPl_le (cp := po) (cx := nm) (p := p) (x := x) w 0
  generalize zPl po nm p x w 0 = k at h3 hs'
  by_cases h : q = p ∧ y = x
  · rw [if_pos h]
    rw [zAm_h hs' (i := k) (by omega) (by rw [zIns_a]; exact h.1.symm) (by rw [zIns_a]; exact h.2.symm), zIns_a]
  · rw [if_neg h]
    by_cases h2 : zHsk po nm w q y
    · obtain ⟨i, i1, i2, i3⟩ := h2
      rw [zAm_h hs i1 i2 i3]
      by_cases hi : i < k
      · rw [zAm_h hs' (i := i) (by omega) (by rw [zIns_l hi]; exact i2) (by rw [zIns_l hi]; exact i3), zIns_l hi]
      · rw [zAm_h hs' (i := i + 1) (by omega) (by rw [zIns_g (by omega)]; exact i2) (by rw [zIns_g (by omega)]; exact i3), zIns_g (by omega)]
        rfl
    · rw [zAm_n hs h2, zAm_n hs' (fun h' => ((zIns_h (by omega)).1 h').elim h2 h)]
/-- .. and once one more amount is put to a kind that is there -/
theorem zUpd_m (hs : zSrt po nm w) (hh : zHsk po nm w p x) {a : Int64} : zAm po nm (fun i => if i = zPl po nm p x w 0 then a else am i) w q y = if q = p ∧ y = x then a else zAm po nm am w q y := by
  obtain ⟨k1, k2, k3⟩ := (zPl_h hs).2 hh
  by_cases h : q = p ∧ y = x
  · rw [if_pos h, zAm_h hs k1 (k2.trans h.1.symm) (k3.trans h.2.symm), if_pos rfl]
  · rw [if_neg h]
    by_cases h2 : zHsk po nm w q y
    · obtain ⟨i, i1, i2, i3⟩ := h2
      rw [zAm_h hs i1 i2 i3, zAm_h hs i1 i2 i3, if_neg]
      intro e
      rw [e] at i2 i3
      exact h ⟨i2.symm.trans k2, i3.symm.trans k3⟩
    · rw [zAm_n hs h2, zAm_n hs h2]
end
