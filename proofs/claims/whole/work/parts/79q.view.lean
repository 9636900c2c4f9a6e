-- needs: 01 02.names 03 04 05 18 19 20 22 23 24 25 30 31 32 33 36 40 42 43 44 46 47 60 61 62 63 64 79f 79g 79h 79i 79j 79k 79l 79m 79n 79o 79p
/-! nodes of DATA, seen from both sides: kinds F, numbers T, counts C, sizes Z, places H, bytes X, levels L -/
/-- how many a node holds -/
def zKc (f c : Nat) : Nat := if 4 ≤ f then c else 0
/-- the count of the reference -/
def zCq (f c : Nat) : Nat := if f = 5 then c / 2 else c
def zDt (F C Z L : Nat → Nat) (K : Nat) : Prop := (1 ≤ K ∧ K ≤ 200 ∧ Z 0 = K ∧ L 0 = 1) ∧ ∀ j, j < K → (1 ≤ Z j ∧ j + Z j ≤ K) ∧ (F j = 0 ∨ F j = 2 ∨ F j = 4 ∨ F j = 5 ∨ F j = 6) ∧ (C j ≤ 199 ∧ (F j = 0 → C j = 0) ∧ (F j = 2 → C j ≤ 64) ∧ (F j = 5 → C j % 2 = 0)) ∧ zWi Z j (zKc (F j) (C j)) = j + Z j ∧ (∀ i, i < zKc (F j) (C j) → zWi Z j i < K ∧ L (zWi Z j i) = L j + 1) ∧ L j ≤ 12
/-- the class's rows from b0 on -/
def zCv (I : zI) (J : zJ) (b0 : Nat) (F : Nat → Nat) (T : Nat → Int64) (C Z X : Nat → Nat) (K : Nat) : Prop := ∀ j, j < K → I 79 (b0 + j) = nI (F j) ∧ I 112 (b0 + j) = nI (C j) ∧ I 144 (b0 + j) = nI (Z j) ∧ J 209 (b0 + j) = T j ∧ (F j = 2 → I 176 (b0 + j) = nI (X j))
/-- the reference's rows -/
def zMv (I : zI) (J : zJ) (F : Nat → Nat) (T : Nat → Int64) (C Z H X : Nat → Nat) (K : Nat) : Prop := ∀ j, j < K → I 3792 j = nI (zFo (F j)) ∧ J 3825 j = T j ∧ I 3856 j = nI (zCq (F j) (C j)) ∧ I 3888 j = nI (Z j) ∧ I 3920 j = nI (H j) ∧ (F j = 2 → I 3952 j = nI (X j))
theorem zhQ_k {B : Nat → Nat} {t a : Nat} {fc : Prop} (h : zhF B t fc a = 0) (hB : B a < 256) : (zhQ B a = 0 ∨ zhQ B a = 1 ∨ zhQ B a = 2 ∨ zhQ B a = 4 ∨ zhQ B a = 5 ∨ zhQ B a = 6) ∧ zNk (zhQ B a) (zhN B a) := by
  unfold zhF at h
  split at h
  · cases h
  · split at h
    · cases h
    · rename_i u2
      split at h
      · cases h
      · split at h
        · cases h
        · split at h
          · cases h
          · rename_i u5
            have h8 : zhQ B a < 8 := by unfold zhQ; omega
            have h3 : ¬ zhQ B a = 3 := fun h => u2 (Or.inr (Or.inl h))
            have h7 : ¬ zhQ B a = 7 := fun h => u2 (Or.inr (Or.inr (Or.inl h)))
            exact ⟨by omega, Classical.not_not.1 u5⟩
theorem zWi_lt {Z : Nat → Nat} {j : Nat} : ∀ c, (∀ i, i < c → 1 ≤ Z (zWi Z j i)) → j + 1 + c ≤ zWi Z j c := by
  intro c
  induction c with
  | zero => intro _; exact Nat.le_refl _
  | succ c ih =>
    intro h
    have := ih (fun i hi => h i (by omega))
    have := h c (by omega)
    show j + 1 + (c + 1) ≤ zWi Z j c + Z (zWi Z j c)
    omega
/-- what has been read, as a view -/
theorem zDt_of {B : Nat → Nat} {t K : Nat} (hB : ∀ a, B a < 256) (h : zdr B t 201 0 = (0, 0, K)) (hI : ∀ j, j < K → ∃ m, zIsp B j m ∧ j + m ≤ K) : zDt (fun j => znQ B (zat B j)) (fun j => znC B (zat B j)) (zSz B) (fun j => zlvl B j) K ∧ ∀ j, j < K → zrN B (zat B j) = zCq (znQ B (zat B j)) (znC B (zat B j)) := by
  obtain ⟨a1, a2, a3, a4⟩ := zdr_i (B := B) (t := t) 201 0 K h (fun h => (by cases h)) (by omega) (by omega)
  have hI' : ∀ j, j < K → zIsp B j (zSz B j) ∧ j + zSz B j ≤ K := fun j hj => by
    obtain ⟨m, m1, m2⟩ := hI j hj
    rw [zSz_i m1]
    exact ⟨m1, m2⟩
  obtain ⟨b1, b2⟩ := zTd hI' a2 (fun j hj => (a1 j (by omega) hj).1) (by omega)
  have node : ∀ j, j < K → (znQ B (zat B j) = 0 ∨ znQ B (zat B j) = 2 ∨ znQ B (zat B j) = 4 ∨ znQ B (zat B j) = 5 ∨ znQ B (zat B j) = 6) ∧ (znC B (zat B j) ≤ 199 ∧ (znQ B (zat B j) = 0 → znC B (zat B j) = 0) ∧ (znQ B (zat B j) = 2 → znC B (zat B j) ≤ 64) ∧ (znQ B (zat B j) = 5 → znC B (zat B j) % 2 = 0)) ∧ zKc (znQ B (zat B j)) (znC B (zat B j)) = znH B (zat B j) ∧ zrN B (zat B j) = zCq (znQ B (zat B j)) (znC B (zat B j)) := fun j hj => by
    obtain ⟨-, hf⟩ := a1 j (by omega) hj
    obtain ⟨f1, f2, f3, f4, f5⟩ := znF_h hf
    obtain ⟨g1, g2⟩ := zhQ_k f1 (hB _)
    obtain ⟨⟨c1, c2⟩, c3, c4⟩ := b2 j hj
    have hch : znH B (zat B j) ≤ 199 := by
      have := zWi_lt (Z := zSz B) (j := j) (znH B (zat B j)) (fun i hi => (hI' _ (c4 i hi).1).1.1)
      omega
    have x1 := zrC_i (v := zhN B (zat B j))
    have x2 := zrC_i (v := zhN B (zhX B (zat B j)))
    generalize hq : zhQ B (zat B j) = q at g1
    rcases g1 with rfl | rfl | rfl | rfl | rfl | rfl
    · have e1 : znQ B (zat B j) = 0 := by unfold znQ; rw [hq]; rfl
      have e2 : znC B (zat B j) = 0 := by unfold znC; rw [hq]; rfl
      have e3 : znH B (zat B j) = 0 := by unfold znH; rw [hq, e2]; rfl
      have e4 : zrN B (zat B j) = 0 := by unfold zrN; rw [hq]; rfl
      rw [e1, e2, e3, e4]
      exact ⟨by omega, by omega, rfl, rfl⟩
    · have e1 : znQ B (zat B j) = 0 := by unfold znQ; rw [hq]; rfl
      have e2 : znC B (zat B j) = 0 := by unfold znC; rw [hq]; rfl
      have e3 : znH B (zat B j) = 0 := by unfold znH; rw [hq, e2]; rfl
      have e4 : zrN B (zat B j) = 0 := by unfold zrN; rw [hq]; rfl
      rw [e1, e2, e3, e4]
      exact ⟨by omega, by omega, rfl, rfl⟩
    · have e1 : znQ B (zat B j) = 2 := by unfold znQ; rw [hq]; rfl
      have e2 : znC B (zat B j) = (zhN B (zat B j)).toInt.toNat := by unfold znC; rw [hq]; rfl
      have e3 : znH B (zat B j) = 0 := by unfold znH; rw [hq]; rfl
      have e4 : zrN B (zat B j) = znC B (zat B j) := by unfold zrN; rw [hq]; rfl
      have e5 := (g2.2.1 hq).2
      rw [Int64.le_iff_toInt_le] at e5
      have e6 : (64 : Int64).toInt = 64 := rfl
      rw [e1, e3, e4, e2]
      exact ⟨by omega, by omega, rfl, rfl⟩
    · have e1 : znQ B (zat B j) = 4 := by unfold znQ; rw [hq]; rfl
      have e2 : znC B (zat B j) = zCa (zhN B (zat B j)) := by unfold znC; rw [hq]; rfl
      have e3 : znH B (zat B j) = znC B (zat B j) := by unfold znH; rw [hq]; rfl
      have e4 : zrN B (zat B j) = zrC (zhN B (zat B j)) := by unfold zrN; rw [hq]; rfl
      rw [e3, e2] at hch
      rw [e1, e3, e4, e2, x1.2.2.1 (by omega)]
      exact ⟨by omega, by omega, rfl, rfl⟩
    · have e1 : znQ B (zat B j) = 5 := by unfold znQ; rw [hq]; rfl
      have e2 : znC B (zat B j) = zCa (zhN B (zat B j)) * 2 := by unfold znC; rw [hq]; rfl
      have e3 : znH B (zat B j) = znC B (zat B j) := by unfold znH; rw [hq]; rfl
      have e4 : zrN B (zat B j) = zrC (zhN B (zat B j)) := by unfold zrN; rw [hq]; rfl
      rw [e3, e2] at hch
      rw [e1, e3, e4, e2, x1.2.2.1 (by omega)]
      refine ⟨by omega, by omega, rfl, ?_⟩
      unfold zCq
      rw [if_pos rfl]
      omega
    · have e1 : znQ B (zat B j) = 6 := by unfold znQ; rw [hq]; rfl
      have e2 : znC B (zat B j) = zCa (zhN B (zhX B (zat B j))) := by unfold znC; rw [hq]; rfl
      have e3 : znH B (zat B j) = znC B (zat B j) := by unfold znH; rw [hq]; rfl
      have e4 : zrN B (zat B j) = zrC (zhN B (zhX B (zat B j))) := by unfold zrN; rw [hq]; rfl
      rw [e3, e2] at hch
      rw [e1, e3, e4, e2, x2.2.2.1 (by omega)]
      exact ⟨by omega, by omega, rfl, rfl⟩
  refine ⟨⟨⟨by omega, a4, b1, rfl⟩, fun j hj => ?_⟩, fun j hj => (node j hj).2.2.2⟩
  obtain ⟨n1, n2, n3, n4⟩ := node j hj
  obtain ⟨c1, c2, c3⟩ := b2 j hj
  obtain ⟨-, hf⟩ := a1 j (by omega) hj
  refine ⟨c1, n1, n2, ?_, ?_, (znF_h hf).2.1⟩
  · show zWi (zSz B) j (zKc (znQ B (zat B j)) (znC B (zat B j))) = _
    rw [n3]
    exact c2
  · show ∀ i, i < zKc (znQ B (zat B j)) (znC B (zat B j)) → _
    rw [n3]
    exact c3
theorem zCv_of {I : zI} {J : zJ} {t fr b0 K : Nat} {B : Nat → Nat} (h : zEd I J t fr b0 B K) : zCv I J b0 (fun j => znQ B (zat B j)) (fun j => znT B (zat B j)) (fun j => znC B (zat B j)) (zSz B) (fun j => fr + zhX B (zat B j)) K := fun j hj => by
  obtain ⟨r1, r2, r3, r4, r5⟩ := h.2.1 j hj
  obtain ⟨m, m1, m2, m3⟩ := h.2.2 j hj
  exact ⟨r1, r2, by rw [zSz_i m1]; exact m3, r3, r4⟩
theorem zMv_of {I : zI} {J : zJ} {t K : Nat} {B : Nat → Nat} (hc : ∀ j, j < K → zrN B (zat B j) = zCq (znQ B (zat B j)) (znC B (zat B j))) (h : zEr I J t B K) : zMv I J (fun j => znQ B (zat B j)) (fun j => znT B (zat B j)) (fun j => znC B (zat B j)) (zSz B) (fun j => zat B j) (fun j => zhX B (zat B j)) K := fun j hj => by
  obtain ⟨r1, r2, r3, r4, r5, r6⟩ := h.2.1 j hj
  obtain ⟨m, m1, m2, m3⟩ := h.2.2 j hj
  exact ⟨r3, r6, by rw [r4, hc j hj], by rw [zSz_i m1]; exact m3, r1, fun _ => r5⟩
