-- needs: 01 02.names 03 04 05 18 19 20 22 23 24 25 30 31 32 33 36 40 42 43 44 46 47 60 61 62 63 64 65 66 67 68 71 72 73
/-! the stack of what is waited for, out of what each node lacks -/
def zEn (lk K D Lb : Nat → Nat) (k : Nat) : List (Nat × Nat × Int32) := if lk k = 0 then [] else if lk k = 2 then [(D k + 1, Lb k, -1), (D k + 1, Lb k, nI k)] else [(D k + 1, Lb k, if K k = 2 then nI k else -1)]
def zWl (lk K D Lb : Nat → Nat) : Nat → List (Nat × Nat × Int32)
  | 0 => []
  | k + 1 => zEn lk K D Lb k ++ zWl lk K D Lb k
def zdc (lk : Nat → Nat) (j : Nat) : Nat → Nat := fun i => if i = j then lk i - 1 else lk i
theorem zWl_c {lk lk' K D Lb : Nat → Nat} : ∀ k, (∀ j, j < k → lk' j = lk j) → zWl lk' K D Lb k = zWl lk K D Lb k := by
  intro k
  induction k with
  | zero => intro _; rfl
  | succ k ih =>
    intro h
    unfold zWl zEn
    rw [h k (by omega), ih (fun j hj => h j (by omega))]
/-- an empty stack: nobody lacks anything -/
theorem zWl_nil {lk K D Lb : Nat → Nat} : ∀ k, zWl lk K D Lb k = [] → zOp lk k = -1 := by
  intro k
  induction k with
  | zero => intro _; rfl
  | succ k ih =>
    intro h
    unfold zWl at h
    obtain ⟨h1, h2⟩ := List.append_eq_nil_iff.1 h
    unfold zOp
    by_cases h3 : lk k = 0
    · rw [if_pos h3]
      exact ih h2
    · exfalso
      unfold zEn at h1
      rw [if_neg h3] at h1
      split at h1 <;> cases h1
/-- the top of the stack belongs to the last node that lacks something -/
theorem zWl_top {lk K D Lb : Nat → Nat} {d b : Nat} {o : Int32} {W : List (Nat × Nat × Int32)} : ∀ k, (∀ j, j < k → lk j < 3 ∧ (lk j = 2 → K j = 2)) → zWl lk K D Lb k = (d, b, o) :: W → ∃ j, j < k ∧ zOp lk k = nI j ∧ 0 < lk j ∧ d = D j + 1 ∧ b = Lb j ∧ W = zWl (zdc lk j) K D Lb k ∧ o = if lk j = 1 ∧ K j = 2 then nI j else -1 := by
  intro k
  induction k with
  | zero => intro _ h; cases h
  | succ k ih =>
    intro hl h
    obtain ⟨l1, l2⟩ := hl k (by omega)
    have hl' : ∀ j, j < k → lk j < 3 ∧ (lk j = 2 → K j = 2) := fun j hj => hl j (by omega)
    by_cases h0 : lk k = 0
    · have e : zWl lk K D Lb (k + 1) = zWl lk K D Lb k := by
        show zEn lk K D Lb k ++ zWl lk K D Lb k = _
        unfold zEn
        rw [if_pos h0]
        rfl
      rw [e] at h
      obtain ⟨j, h1, h2, h3, h4, h5, h6, h7⟩ := ih hl' h
      refine ⟨j, by omega, ?_, h3, h4, h5, ?_, h7⟩
      · unfold zOp
        rw [if_pos h0]
        exact h2
      · rw [h6]
        show _ = zEn (zdc lk j) K D Lb k ++ zWl (zdc lk j) K D Lb k
        have : zdc lk j k = 0 := by
          unfold zdc
          split <;> omega
        unfold zEn
        rw [if_pos this]
        rfl
    · have hop : zOp lk (k + 1) = nI k := by
        unfold zOp
        rw [if_neg h0]
      have hd : ∀ j, j < k → zdc lk k j = lk j := fun j hj => if_neg (by omega)
      have hk : zdc lk k k = lk k - 1 := if_pos rfl
      have h : zEn lk K D Lb k ++ zWl lk K D Lb k = (d, b, o) :: W := h
      by_cases h2 : lk k = 2
      · have e : zEn lk K D Lb k = [(D k + 1, Lb k, -1), (D k + 1, Lb k, nI k)] := by
          unfold zEn
          rw [if_neg h0, if_pos h2]
        rw [e] at h
        injection h with ha hb
        injection ha with ha1 ha2
        injection ha2 with ha2 ha3
        refine ⟨k, by omega, hop, by omega, ha1.symm, ha2.symm, ?_, ?_⟩
        · show W = zEn (zdc lk k) K D Lb k ++ zWl (zdc lk k) K D Lb k
          have e2 : zEn (zdc lk k) K D Lb k = [(D k + 1, Lb k, nI k)] := by
            unfold zEn
            rw [hk, if_neg (by omega), if_neg (by omega), if_pos (l2 h2)]
          rw [e2, zWl_c k hd, ← hb]
          rfl
        · rw [if_neg (by omega)]
          exact ha3.symm
      · have h1 : lk k = 1 := by omega
        have e : zEn lk K D Lb k = [(D k + 1, Lb k, if K k = 2 then nI k else -1)] := by
          unfold zEn
          rw [if_neg h0, if_neg h2]
        rw [e] at h
        injection h with ha hb
        injection ha with ha1 ha2
        injection ha2 with ha2 ha3
        refine ⟨k, by omega, hop, by omega, ha1.symm, ha2.symm, ?_, ?_⟩
        · show W = zEn (zdc lk k) K D Lb k ++ zWl (zdc lk k) K D Lb k
          have e2 : zEn (zdc lk k) K D Lb k = [] := by
            unfold zEn
            rw [hk, if_pos (by omega)]
          rw [e2, zWl_c k hd, ← hb]
          rfl
        · rw [← ha3]
          by_cases hK : K k = 2
          · rw [if_pos hK, if_pos ⟨h1, hK⟩]
          · rw [if_neg hK, if_neg (fun h => hK h.2)]
