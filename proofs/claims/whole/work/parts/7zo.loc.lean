-- needs: 01 02.names 03 04 05 18 19 20 22 23 24 25 30 31 32 33 36 40 42 43 44 46 47 60 61 62 63 64 79f 79g 79h 79i 79j 79k 79l 79m 79n 79o 79p 79q
/-! READING DATA looks at bytes ahead of its end alone, wherever they lie -/
section
variable {B B' : Nat → Nat} {a0 e a l k : Nat} {fc : Prop}
theorem zBe_c {a a' : Nat} : ∀ n, (∀ i, i < n → B' (a' + i) = B (a + i)) → zBe B' a' n = zBe B a n := by
  intro n
  induction n with
  | zero => intro _; rfl
  | succ n ih =>
    intro h
    show (zBe B' a' n <<< _) ||| _ = (zBe B a n <<< _) ||| _
    rw [ih (fun i hi => h i (by omega)), h n (by omega)]
theorem zh_c (hB : ∀ i, i < e → B' i = B (a0 + i)) (ha : a < e) : zhQ B (a0 + a) = zhQ B' a ∧ zhM B (a0 + a) = zhM B' a ∧ zhX B (a0 + a) = a0 + zhX B' a := by
  unfold zhX zhQ zhM
  rw [hB a ha]
  exact ⟨rfl, rfl, by omega⟩
theorem zhN_c (hB : ∀ i, i < e → B' i = B (a0 + i)) (ha : a < e) (hx : zhX B' a ≤ e) : zhN B (a0 + a) = zhN B' a := by
  unfold zhX zhM at hx
  unfold zhN
  rw [← hB a ha]
  split
  · rfl
  · rename_i h
    rw [if_neg h] at hx
    refine (zBe_c _ (fun i hi => ?_)).symm
    rw [hB (a + 1 + i) (by omega)]
    congr 1
    omega
theorem zhF_c (hB : ∀ i, i < e → B' i = B (a0 + i)) : zhF B (a0 + e) fc (a0 + a) = zhF B' e fc a := by
  unfold zhF
  by_cases ha : e ≤ a
  · rw [if_pos ha, if_pos (by omega)]
  · obtain ⟨q1, q2, q3⟩ := zh_c (a := a) hB (by omega)
    have ex : (a0 + e < a0 + zhX B' a) = (e < zhX B' a) := propext (by omega)
    rw [if_neg ha, if_neg (by omega), q1, q3, ← hB a (by omega)]
    simp only [ex]
    by_cases hx : e < zhX B' a
    · rw [if_pos hx, if_pos hx]
    · rw [zhN_c hB (by omega) (by omega)]
theorem zhF_xx {t : Nat} (h : zhF B t fc a = 0) : a < t ∧ zhX B a ≤ t := by
  unfold zhF at h
  split at h
  · omega
  · split at h
    · omega
    · split at h
      · omega
      · exact ⟨by omega, by omega⟩
theorem zhP_c (hB : ∀ i, i < e → B' i = B (a0 + i)) : zhP B (a0 + e) fc (a0 + a) = a0 + zhP B' e fc a := by
  unfold zhP
  rw [zhF_c hB]
  split <;> rfl
/-- a node -/
theorem zn_c (hB : ∀ i, i < e → B' i = B (a0 + i)) : znF B (a0 + e) l k (a0 + a) = znF B' e l k a ∧ znP B (a0 + e) l k (a0 + a) = a0 + znP B' e l k a := by
  have f := zhF_c (a := a) (fc := False) hB
  have p := zhP_c (a := a) (fc := False) hB
  unfold znF znP
  rw [f, p]
  by_cases h0 : zhF B' e False a = 0
  · obtain ⟨x1, x2⟩ := zhF_xx h0
    obtain ⟨q1, q2, q3⟩ := zh_c (a := a) hB x1
    have cC : zhQ B' a = 2 → znC B (a0 + a) = znC B' a := fun h2 => by
      unfold znC
      rw [q1, if_pos h2, if_pos h2, zhN_c hB x1 x2]
    have f6 := zhF_c (a := zhX B' a) (fc := True) hB
    have p6 := zhP_c (a := zhX B' a) (fc := True) hB
    have n0 : ¬ ¬ zhF B' e False a = 0 := fun h => h h0
    have e1 : (a0 + e < a0 + zhX B' a + znC B' a) = (e < zhX B' a + znC B' a) := propext (by omega)
    simp only [if_neg n0, q1, q3, f6, p6]
    by_cases h2 : zhQ B' a = 2
    · simp only [if_pos h2, cC h2, e1, true_and]
      split <;> rfl
    · simp only [if_neg h2, true_and]
      split <;> rfl
  · simp only [if_pos h0, and_self]
theorem zn_v (hB : ∀ i, i < e → B' i = B (a0 + i)) (h : znF B' e l k a = 0) : (znQ B (a0 + a) = znQ B' a ∧ znT B (a0 + a) = znT B' a ∧ znC B (a0 + a) = znC B' a ∧ znH B (a0 + a) = znH B' a) ∧ znX B (a0 + a) = a0 + znX B' a ∧ znX B' a ≤ e ∧ zhX B (a0 + a) = a0 + zhX B' a ∧ a < znX B' a ∧ (znQ B' a = 2 → znX B' a = zhX B' a + znC B' a) ∧ zrN B (a0 + a) = zrN B' a := by
  unfold znF at h
  split at h
  · exact absurd h ‹_›
  · rename_i h0
    have h0 : zhF B' e False a = 0 := Classical.not_not.1 h0
    obtain ⟨x1, x2⟩ := zhF_xx h0
    obtain ⟨q1, q2, q3⟩ := zh_c (a := a) hB x1
    have qn := zhN_c hB x1 x2
    split at h
    · cases h
    · split at h
      · cases h
      · have hx : a < zhX B' a := by unfold zhX; omega
        have eQ : znQ B (a0 + a) = znQ B' a := by unfold znQ; rw [q1]
        have eT : znT B (a0 + a) = znT B' a := by unfold znT; rw [q1, qn]
        have eH : znC B (a0 + a) = znC B' a → znH B (a0 + a) = znH B' a := fun h => by unfold znH; rw [q1, h]
        have nQ : ¬ zhQ B' a = 2 → znQ B' a = 2 → znX B' a = zhX B' a + znC B' a := fun h1 hq => by
          unfold znQ at hq
          split at hq
          · cases hq
          · exact absurd hq h1
        split at h
        · rename_i h2
          split at h
          · cases h
          · rename_i h3
            have cC : znC B (a0 + a) = znC B' a := by unfold znC; rw [q1, if_pos h2, if_pos h2, qn]
            have eX : znX B' a = zhX B' a + znC B' a := by unfold znX; rw [if_pos h2]
            have eX2 : znX B (a0 + a) = a0 + zhX B' a + znC B' a := by unfold znX; rw [q1, if_pos h2, q3, cC]
            refine ⟨⟨eQ, eT, cC, eH cC⟩, by omega, by omega, q3, by omega, fun _ => eX, ?_⟩
            unfold zrN
            rw [q1, if_pos h2, if_pos h2, cC]
        · rename_i h2
          split at h
          · rename_i h6
            obtain ⟨y1, y2⟩ := zhF_xx h
            obtain ⟨r1, r2, r3⟩ := zh_c (a := zhX B' a) hB y1
            have rn := zhN_c hB y1 y2
            have hy : zhX B' a < zhX B' (zhX B' a) := by rw [show zhX B' (zhX B' a) = zhX B' a + 1 + zhM B' (zhX B' a) from rfl]; omega
            have cC : znC B (a0 + a) = znC B' a := by unfold znC; rw [q1, if_neg h2, if_pos h6, if_neg h2, if_pos h6, q3, rn]
            have eX : znX B' a = zhX B' (zhX B' a) := by unfold znX; rw [if_neg h2, if_pos h6]
            have eX2 : znX B (a0 + a) = a0 + zhX B' (zhX B' a) := by unfold znX; rw [q1, if_neg h2, if_pos h6, q3, r3]
            refine ⟨⟨eQ, eT, cC, eH cC⟩, by omega, by omega, q3, by omega, nQ h2, ?_⟩
            unfold zrN
            rw [q1, if_neg h2, if_pos h6, if_neg h2, if_pos h6, q3, rn]
          · rename_i h6
            have cC : znC B (a0 + a) = znC B' a := by
              unfold znC
              rw [q1, if_neg h2, if_neg h6, if_neg h2, if_neg h6, qn]
            have rC : zrN B (a0 + a) = zrN B' a := by
              unfold zrN
              rw [q1, if_neg h2, if_neg h6, if_neg h2, if_neg h6, qn]
            have eX : znX B' a = zhX B' a := by unfold znX; rw [if_neg h2, if_neg h6]
            have eX2 : znX B (a0 + a) = a0 + zhX B' a := by unfold znX; rw [q1, if_neg h2, if_neg h6, q3]
            exact ⟨⟨eQ, eT, cC, eH cC⟩, by omega, by omega, q3, by omega, nQ h2, rC⟩
end
/-! the same bytes ahead of the end -/
section
variable {B B' : Nat → Nat} {t : Nat}
theorem zsq_c (hB : ∀ i, i < t → B' i = B i) : ∀ k, (∀ j, j < k → zsF B' t j = 0) → zsq B k = zsq B' k := by
  have hB0 : ∀ i, i < t → B' i = B (0 + i) := fun i hi => by rw [Nat.zero_add]; exact hB i hi
  intro k
  induction k with
  | zero => intro _; rfl
  | succ k ih =>
    intro h
    have e := ih (fun j hj => h j (by omega))
    obtain ⟨⟨-, -, -, v4⟩, v5, -⟩ := zn_v (a := zat B' k) hB0 (h k (by omega))
    rw [Nat.zero_add, Nat.zero_add] at v5
    rw [Nat.zero_add] at v4
    show (znX B (zsq B k).1, zppx (zpus (znH B (zsq B k).1) (zsq B k).2)) = (znX B' (zsq B' k).1, zppx (zpus (znH B' (zsq B' k).1) (zsq B' k).2))
    rw [e]
    have v4 : znH B (zsq B' k).1 = znH B' (zsq B' k).1 := v4
    have v5 : znX B (zsq B' k).1 = znX B' (zsq B' k).1 := v5
    rw [v4, v5]
theorem zsF_c (hB : ∀ i, i < t → B' i = B i) {k : Nat} (h : ∀ j, j < k → zsF B' t j = 0) : zsF B t k = zsF B' t k ∧ zsP B t k = zsP B' t k := by
  have hB0 : ∀ i, i < t → B' i = B (0 + i) := fun i hi => by rw [Nat.zero_add]; exact hB i hi
  have e := zsq_c hB k h
  unfold zsF zsP zlvl zat
  rw [e]
  have := zn_c (B := B) (e := t) (a0 := 0) (a := (zsq B' k).1) (l := (zsq B' k).2.length) (k := k) hB0
  rw [Nat.zero_add, Nat.zero_add, Nat.zero_add] at this
  exact this
theorem zdr_c (hB : ∀ i, i < t → B' i = B i) : ∀ r k, (∀ j, j < k → zsF B' t j = 0) → zdr B t r k = zdr B' t r k := by
  intro r
  induction r with
  | zero => intro k _; rfl
  | succ r ih =>
    intro k h
    obtain ⟨f, p⟩ := zsF_c hB h
    unfold zdr
    rw [f, p]
    by_cases h0 : zsF B' t k = 0
    · have h' : ∀ j, j < k + 1 → zsF B' t j = 0 := fun j hj => by
        by_cases hjk : j = k
        · rw [hjk]; exact h0
        · exact h j (by omega)
      have n0 : ¬ ¬ zsF B' t k = 0 := fun x => x h0
      rw [if_neg n0, if_neg n0, zsq_c hB (k + 1) h', ih (k + 1) h']
    · rw [if_pos h0, if_pos h0]
theorem zdr_f {K : Nat} : ∀ r k, zdr B t r k = (0, 0, K) → 0 < r → k + r ≤ 201 → (∀ j, k ≤ j → j < K → zsF B t j = 0) ∧ k < K := by
  intro r
  induction r with
  | zero => intro k _ h; omega
  | succ r ih =>
    intro k h _ hr
    unfold zdr at h
    split at h
    · rename_i h0
      exact absurd (congrArg Prod.fst h) h0
    · rename_i h0
      have h0 : zsF B t k = 0 := Classical.not_not.1 h0
      split at h
      · have : k + 1 = K := congrArg (fun x => x.2.2) h
        exact ⟨fun j h1 h2 => by rw [show j = k by omega]; exact h0, by omega⟩
      · by_cases hr0 : 0 < r
        · obtain ⟨i1, i2⟩ := ih (k + 1) h hr0 (by omega)
          exact ⟨fun j h1 h2 => by
            by_cases hj : j = k
            · rw [hj]; exact h0
            · exact i1 j (by omega) h2, by omega⟩
        · have e : r = 0 := by omega
          subst e
          have : k + 1 = K := congrArg (fun x => x.2.2) h
          exact ⟨fun j h1 h2 => by rw [show j = k by omega]; exact h0, by omega⟩
/-- what was read, with other bytes behind -/
theorem zEd_c {I : zI} {J : zJ} {fr b0 K : Nat} (hB : ∀ i, i < t → B' i = B i) (hd : zdr B' t 201 0 = (0, 0, K)) (h : zEd I J t fr b0 B K) : zEd I J t fr b0 B' K := by
  have hf := (zdr_f 201 0 hd (by omega) (by omega)).1
  have hf : ∀ j, j < K → zsF B' t j = 0 := fun j hj => hf j (Nat.zero_le _) hj
  have hs : ∀ k, k ≤ K → zsq B k = zsq B' k := fun k hk => zsq_c hB k (fun j hj => hf j (by omega))
  have hB0 : ∀ i, i < t → B' i = B (0 + i) := fun i hi => by rw [Nat.zero_add]; exact hB i hi
  obtain ⟨⟨a1, a2, a3, a4, a5, a6⟩, a7, a8⟩ := h
  have eK : zat B K = zat B' K := congrArg Prod.fst (hs K (Nat.le_refl _))
  refine ⟨⟨a1, by rw [← eK]; exact a2, by rw [← eK]; exact a3, by rw [← hs K (Nat.le_refl _)]; exact a4, a5, a6⟩, fun j hj => ?_, fun j hj => ?_⟩
  · have e : zat B j = zat B' j := congrArg Prod.fst (hs j (by omega))
    obtain ⟨⟨v1, v2, v3, -⟩, -, -, v6, -⟩ := zn_v (a := zat B' j) hB0 (hf j hj)
    rw [Nat.zero_add] at v1 v2 v3 v6
    rw [Nat.zero_add] at v6
    have := a7 j hj
    rw [e, v1, v2, v3, v6] at this
    exact this
  · obtain ⟨m, ⟨m1, m2, m3⟩, m4, m5⟩ := a8 j hj
    have lv : ∀ k, k ≤ K → zlvl B k = zlvl B' k := fun k hk => congrArg (fun x => x.2.length) (hs k hk)
    refine ⟨m, ⟨m1, fun i i1 i2 => ?_, ?_⟩, m4, m5⟩
    · rw [← lv j (by omega), ← lv (j + i) (by omega)]; exact m2 i i1 i2
    · rw [← lv j (by omega), ← lv (j + m) (by omega)]; exact m3
theorem zEr_c {I : zI} {J : zJ} {K : Nat} (hB : ∀ i, i < t → B' i = B i) (hd : zdr B' t 201 0 = (0, 0, K)) (h : zEr I J t B K) : zEr I J t B' K := by
  have hf := (zdr_f 201 0 hd (by omega) (by omega)).1
  have hf : ∀ j, j < K → zsF B' t j = 0 := fun j hj => hf j (Nat.zero_le _) hj
  have hs : ∀ k, k ≤ K → zsq B k = zsq B' k := fun k hk => zsq_c hB k (fun j hj => hf j (by omega))
  have hB0 : ∀ i, i < t → B' i = B (0 + i) := fun i hi => by rw [Nat.zero_add]; exact hB i hi
  obtain ⟨⟨a1, a2, a3, a4, a5, a6, a6'⟩, a7, a8⟩ := h
  have eK : zat B K = zat B' K := congrArg Prod.fst (hs K (Nat.le_refl _))
  have lv : ∀ k, k ≤ K → zlvl B k = zlvl B' k := fun k hk => congrArg (fun x => x.2.length) (hs k hk)
  refine ⟨⟨a1, by rw [← eK]; exact a2, a3, by rw [← eK]; exact a4, by rw [← hs K (Nat.le_refl _)]; exact a5, a6, a6'⟩, fun j hj => ?_, fun j hj => ?_⟩
  · have e : zat B j = zat B' j := congrArg Prod.fst (hs j (by omega))
    obtain ⟨⟨v1, v2, v3, -⟩, -, -, v6, -, -, v7⟩ := zn_v (a := zat B' j) hB0 (hf j hj)
    rw [Nat.zero_add] at v1 v2 v3 v6 v7
    rw [Nat.zero_add] at v6
    have := a7 j hj
    rw [e, v1, v2, v6, v7, lv j (by omega)] at this
    exact this
  · obtain ⟨m, ⟨m1, m2, m3⟩, m4, m5⟩ := a8 j hj
    refine ⟨m, ⟨m1, fun i i1 i2 => ?_, ?_⟩, m4, m5⟩
    · rw [← lv j (by omega), ← lv (j + i) (by omega)]; exact m2 i i1 i2
    · rw [← lv j (by omega), ← lv (j + m) (by omega)]; exact m3
end
