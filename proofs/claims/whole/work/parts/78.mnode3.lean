-- needs: 01 02.names 03 04 05 18 19 20 22 23 24 25 30 31 32 33 36 40 42 43 44 46 47 60 61 62 63 64 65 66 67 68 71 72 73 74 75 76 77
/-! one node, read by the reference, as a whole -/
/-- what the reference's reader leaves as it was -/
def zMf (I I' : zI) (J J' : zJ) : Prop := (∀ c, c ≠ 4301 → c ≠ 4338 → c ≠ 4368 → c ≠ 4432 → c ≠ 4464 → c ≠ 4495 → c ≠ 4784 → c ≠ 4816 → c ≠ 4848 → c ≠ 4880 → I' c = I c) ∧ (∀ c, c ≠ 4401 → J' c = J c) ∧ ∀ j, j ≠ 7 → j ≠ 13 → j ≠ 14 → j ≠ 22 → j ≠ 24 → I' 4301 j = I 4301 j
theorem zMf_tr {I I' I'' : zI} {J J' J'' : zJ} (h : zMf I I' J J') (h' : zMf I' I'' J' J'') : zMf I I'' J J'' := ⟨fun c a1 a2 a3 a4 a5 a6 a7 a8 a9 a10 => (h'.1 c a1 a2 a3 a4 a5 a6 a7 a8 a9 a10).trans (h.1 c a1 a2 a3 a4 a5 a6 a7 a8 a9 a10), fun c a1 => (h'.2.1 c a1).trans (h.2.1 c a1), fun j a1 a2 a3 a4 a5 => (h'.2.2 j a1 a2 a3 a4 a5).trans (h.2.2 j a1 a2 a3 a4 a5)⟩
theorem zMf_rf {I : zI} {J : zJ} : zMf I I J J := ⟨fun _ _ _ _ _ _ _ _ _ _ _ => rfl, fun _ _ => rfl, fun _ _ _ _ _ _ => rfl⟩
/-- node j, as the reference holds it while it reads -/
def zRj (I : zI) (J : zJ) (T : Nat → Int32) (k : Nat) (K : Nat → Nat) (V : Nat → Int64) (S D Lb lk : Nat → Nat) (j : Nat) : Prop :=
  (I 4784 j = nI j ∧ I 4368 j = nI (K j) ∧ J 4401 j = V j ∧ I 4816 j = nI (D j) ∧ I 4848 j = nI (Lb j) ∧ I 4880 j = nI (lk j)) ∧
  (K j < 12 ∧ D j ≤ 60 ∧ Lb j ≤ D j ∧ lk j ≤ zTk (K j)) ∧
  (I 4432 j = if lk j < zTk (K j) then nI (j + 1) else -1) ∧ (I 4464 j = if lk j = 0 ∧ K j = 2 then nI (S j) else -1) ∧
  (lk j = zTk (K j) → 0 < lk j → j + 1 = k) ∧ (K j = 8 → ∀ w, w ≤ 64 → V j = (nI w).toInt64 → ∀ i, i < w → I 4495 (64 * j + i) = T (S j + i))
theorem zRj_e {I : zI} {J : zJ} {T : Nat → Int32} {k j : Nat} {K K' S S' D D' Lb Lb' lk lk' : Nat → Nat} {V V' : Nat → Int64} (h1 : K' j = K j) (h2 : V' j = V j) (h3 : S' j = S j) (h4 : D' j = D j) (h5 : Lb' j = Lb j) (h6 : lk' j = lk j) (h : zRj I J T k K V S D Lb lk j) : zRj I J T k K' V' S' D' Lb' lk' j := by
  unfold zRj at h ⊢
  rw [h1, h2, h3, h4, h5, h6]
  exact h
/-- the reference holds what has been read -/
def zRm (I : zI) (J : zJ) (T : Nat → Int32) (t k a : Nat) (K : Nat → Nat) (V : Nat → Int64) (S D Lb lk : Nat → Nat) : Prop :=
  (I 4301 24 = nI k ∧ I 4301 7 = nI k ∧ I 4301 22 = nI a ∧ I 4301 13 = 0 ∧ I 4301 11 = nI t) ∧ ((∀ j, j < k → I 4338 j = 1) ∧ ∀ j, k ≤ j → j < 200 → I 4338 j = 0) ∧ ∀ j, j < k → zRj I J T k K V S D Lb lk j
theorem zTk_2 {q : Nat} : zTk q ≤ 2 := by
  unfold zTk
  split
  · omega
  · split <;> omega
theorem zTk_22 {q : Nat} (h : zTk q = 2) : q = 2 := by
  unfold zTk at h
  split at h
  · assumption
  · split at h <;> omega
section
variable {I : zI} {J : zJ} {P : zP} {N : Nat → Nat} {n z t k : Nat} {Q : Option Value → zS → Prop}
/-- who waits for the node: nobody (the root), or node j -/
def zWho (k : Nat) (K D Lb lk : Nat → Nat) (of ow : Int32) (d b : Nat) : Prop := (of = -1 ∧ ow = -1 ∧ d = 1 ∧ b = 0 ∧ k = 0) ∨ ∃ j, j < k ∧ of = nI j ∧ 0 < lk j ∧ d = D j + 1 ∧ b = Lb j ∧ (ow = if lk j = 1 ∧ K j = 2 then nI j else -1) ∧ ∀ i, j < i → i < k → lk i = 0
/-- what each node lacks once one more has been read -/
def zLk (lk : Nat → Nat) (of : Int32) (k q : Nat) : Nat → Nat := fun i => if i = k then zTk q else if of = nI i then lk i - 1 else lk i
/-- the rows after one more node: I1 right behind its number, of its parent -/
theorem zRm_s {T : Nat → Int32} {a pos q d b : Nat} {v : Int64} {K S D Lb lk : Nat → Nat} {V : Nat → Int64} {of ow : Int32} {I1 : zI} {J1 : zJ} {f : Nat} (hk : k < 200) (hq : q < 12) (hd : d ≤ 60) (hb : b < d) (hT : I 4559 = T) (R : zRm I J T t k a K V S D Lb lk) (W : zWho k K D Lb lk of ow d b)
    (M : zMd (zI1 (zu I 4301 22 (nI (a + 1))) k d (if q = 1 then b + 1 else b) q) I1 (zu J 4401 k 0) J1 k f pos v q (a + 1)) {I2 : zI} (h2 : (of = -1 ∧ I2 = I1) ∨ ∃ j, j < k ∧ of = nI j ∧ I2 = zu (zu I1 4880 j (nI (lk j - 1))) (if I1 4432 j < 0 then 4432 else 4464) j (nI k)) :
    zMf I I2 J J1 ∧ I2 4301 13 = nI f ∧ I2 4301 24 = nI (k + 1) ∧ (∀ j, j < k + 1 → I2 4880 j = nI (zLk lk of k q j) ∧ zLk lk of k q j < 3 ∧ I2 4784 j = nI j) ∧
    (f = 0 → zRm I2 J1 T t (k + 1) pos (fun j => if j = k then q else K j) (fun j => if j = k then v else V j) (fun j => if j = k then (if q = 8 then a + 2 else 0) else if ow = nI j then k else S j) (fun j => if j = k then d else D j) (fun j => if j = k then (if q = 1 then b + 1 else b) else Lb j) (zLk lk of k q)) := by
  obtain ⟨⟨r1, r2, r3, r4, r5⟩, ⟨r6, r7⟩, r8⟩ := R
  obtain ⟨M1, M2, M3, M4⟩ := M
  -- rows of I1
  have a1 : ∀ c j, c ≠ 4301 → c ≠ 4495 → j ≠ k → I1 c j = I c j := fun c j x1 x2 x3 => by
    rw [M1 c j (fun h => x1 h.1) x2, zI1_ne x1 x3, zuR_ne x1]
  have a2 : I1 4784 k = nI k ∧ I1 4368 k = nI q ∧ I1 4816 k = nI d ∧ I1 4848 k = nI (if q = 1 then b + 1 else b) ∧ I1 4880 k = nI (zTk q) ∧ I1 4432 k = -1 ∧ I1 4464 k = -1 ∧ I1 4338 k = 1 := by
    rw [M1 4784 k (by omega) (by decide), M1 4368 k (by omega) (by decide), M1 4816 k (by omega) (by decide), M1 4848 k (by omega) (by decide), M1 4880 k (by omega) (by decide), M1 4432 k (by omega) (by decide), M1 4464 k (by omega) (by decide), M1 4338 k (by omega) (by decide)]
    unfold zI1
    simp (disch := omega) only [zuR_ne, zu_nj, zu_at, and_self]
  have a3 : I1 4301 24 = nI (k + 1) ∧ I1 4301 7 = nI (k + 1) := by
    rw [M1 4301 24 (by omega) (by decide), M1 4301 7 (by omega) (by decide)]
    unfold zI1
    simp (disch := omega) only [zuR_ne, zu_nj, zu_at, and_self]
  have a4 : ∀ j, j ≠ 7 → j ≠ 13 → j ≠ 14 → j ≠ 22 → j ≠ 24 → I1 4301 j = I 4301 j := fun j x1 x2 x3 x4 x5 => by
    rw [M1 4301 j (by omega) (by decide)]
    unfold zI1
    simp (disch := omega) only [zuR_ne, zu_nj, zu_at]
  have a5 : ∀ c, c ≠ 4301 → c ≠ 4338 → c ≠ 4368 → c ≠ 4432 → c ≠ 4464 → c ≠ 4495 → c ≠ 4784 → c ≠ 4816 → c ≠ 4848 → c ≠ 4880 → I1 c = I c := fun c x1 x2 x3 x4 x5 x6 x7 x8 x9 x10 => by
    funext j
    rw [M1 c j (fun h => x1 h.1) x6]
    unfold zI1
    simp (disch := omega) only [zuR_ne]
  have a6 : ∀ c, c ≠ 4401 → J1 c = J c := fun c x1 => by
    funext j
    rw [M2 c j (fun h => x1 h.1), zuR_ne x1]
  have a7 : ∀ j, j ≠ k → J1 4401 j = J 4401 j := fun j x1 => by rw [M2 4401 j (fun h => x1 h.2), zu_nj x1]
  -- rows of I2
  have b1 : ∀ c, c ≠ 4880 → c ≠ 4432 → c ≠ 4464 → I2 c = I1 c := fun c x1 x2 x3 => by
    rcases h2 with ⟨-, rfl⟩ | ⟨j, -, -, rfl⟩
    · rfl
    · rw [zuR_ne (by split <;> assumption), zuR_ne x1]
  have b2 : ∀ j, of ≠ nI j → I2 4880 j = I1 4880 j ∧ I2 4432 j = I1 4432 j ∧ I2 4464 j = I1 4464 j := fun i x1 => by
    rcases h2 with ⟨-, rfl⟩ | ⟨j, hj, e, rfl⟩
    · exact ⟨rfl, rfl, rfl⟩
    · have : i ≠ j := fun h => x1 (by rw [h]; exact e)
      exact ⟨by rw [zu_nj this, zu_nj this], by rw [zu_nj this, zu_nj this], by rw [zu_nj this, zu_nj this]⟩
  have ofk : of ≠ nI k := by
    rcases h2 with ⟨e, -⟩ | ⟨j, hj, e, -⟩
    · rw [e]; exact nI_m1 (by omega)
    · rw [e]
      intro h
      rw [wI_eq (by omega) (by omega)] at h
      omega
  have lkk : zLk lk of k q k = zTk q := if_pos rfl
  have lkn : ∀ j, j ≠ k → of ≠ nI j → zLk lk of k q j = lk j := fun j x1 x2 => by unfold zLk; rw [if_neg x1, if_neg x2]
  have lkd : ∀ j, j ≠ k → of = nI j → zLk lk of k q j = lk j - 1 := fun j x1 x2 => by unfold zLk; rw [if_neg x1, if_pos x2]
  -- the parent
  have par : ∀ j, j < k → of = nI j → I2 4880 j = nI (lk j - 1) ∧ 0 < lk j ∧ (I2 4432 j = if lk j - 1 < zTk (K j) then nI (j + 1) else -1) ∧ (I2 4464 j = if lk j - 1 = 0 ∧ K j = 2 then nI (if ow = nI j then k else S j) else -1) := fun j hj e => by
    obtain ⟨⟨s1, s2, s3, s4, s5, s6⟩, ⟨s7, s8, s9, s10⟩, s11, s12, s13, s14⟩ := r8 j hj
    have t2 := zTk_2 (q := K j)
    rcases h2 with ⟨e', -⟩ | ⟨i, hi, e', rfl⟩
    · rw [e'] at e; exact absurd e (nI_m1 (by omega))
    · have hij : i = j := by
        rw [e', wI_eq (by omega) (by omega)] at e
        exact e
      subst hij
      rcases W with ⟨w1, -⟩ | ⟨i', hi', w1, w2, w3, w4, w5, -⟩
      · rw [w1] at e; exact absurd e (nI_m1 (by omega))
      · have hij : i' = i := by
          rw [w1, wI_eq (by omega) (by omega)] at e
          exact e
        subst hij
        have f1 : I1 4432 i' = if lk i' < zTk (K i') then nI (i' + 1) else -1 := by rw [a1 4432 i' (by decide) (by decide) (by omega)]; exact s11
        have f2 : I1 4464 i' = -1 := by rw [a1 4464 i' (by decide) (by decide) (by omega), s12, if_neg (by omega)]
        by_cases hl : lk i' < zTk (K i')
        · rw [if_pos hl] at f1
          have g : ¬ I1 4432 i' < 0 := by rw [f1, wI_neg (by omega)]; exact id
          have hl1 : lk i' = 1 := by omega
          have hK : K i' = 2 := zTk_22 (by omega)
          rw [if_pos ⟨hl1, hK⟩] at w5
          rw [if_neg g, zuR_ne (by decide), zu_at, zuR_ne (by decide), zuR_ne (by decide), zu_at, f1, if_pos (by omega), if_pos ⟨by omega, hK⟩, if_pos w5]
          exact ⟨rfl, w2, rfl, rfl⟩
        · rw [if_neg hl] at f1
          have g : I1 4432 i' < 0 := by rw [f1]; decide
          have hj1 := s13 (by omega) w2
          rw [if_pos g, zuR_ne (by decide), zu_at, zu_at, zuR_ne (by decide), zuR_ne (by decide), f2, if_pos (by omega), if_neg, hj1]
          · exact ⟨rfl, w2, rfl, rfl⟩
          · rintro ⟨x1, x2⟩
            rw [x2] at hl
            have : zTk 2 = 2 := rfl
            omega
  refine ⟨⟨fun c x1 x2 x3 x4 x5 x6 x7 x8 x9 x10 => ?_, a6, fun j x1 x2 x3 x4 x5 => ?_⟩, ?_, ?_, fun j hj => ?_, fun hf => ?_⟩
  · rw [b1 c x10 x4 x5, a5 c x1 x2 x3 x4 x5 x6 x7 x8 x9 x10]
  · rw [b1 4301 (by decide) (by decide) (by decide), a4 j x1 x2 x3 x4 x5]
  · rw [b1 4301 (by decide) (by decide) (by decide)]; exact M3
  · rw [b1 4301 (by decide) (by decide) (by decide)]; exact a3.1
  · by_cases hjk : j = k
    · subst hjk
      rw [lkk, (b2 j ofk).1, b1 4784 (by decide) (by decide) (by decide)]
      have := zTk_2 (q := q)
      exact ⟨a2.2.2.2.2.1, by omega, a2.1⟩
    · have hjk' : j < k := by omega
      obtain ⟨⟨s1, s2, s3, s4, s5, s6⟩, ⟨s7, s8, s9, s10⟩, -⟩ := r8 j hjk'
      have t2 := zTk_2 (q := K j)
      rw [b1 4784 (by decide) (by decide) (by decide), a1 4784 j (by decide) (by decide) hjk]
      by_cases ho : of = nI j
      · rw [lkd j hjk ho]
        exact ⟨(par j hjk' ho).1, by omega, s1⟩
      · rw [lkn j hjk ho, (b2 j ho).1, a1 4880 j (by decide) (by decide) hjk]
        exact ⟨s6, by omega, s1⟩
  · obtain ⟨m1, m2, m3, m4⟩ := M4 hf
    rw [hf] at M3
    refine ⟨⟨?_, ?_, ?_, ?_, ?_⟩, ⟨fun j hj => ?_, fun j x1 x2 => ?_⟩, fun j hj => ?_⟩
    · rw [b1 4301 (by decide) (by decide) (by decide)]; exact a3.1
    · rw [b1 4301 (by decide) (by decide) (by decide)]; exact a3.2
    · rw [b1 4301 (by decide) (by decide) (by decide)]; exact m1
    · rw [b1 4301 (by decide) (by decide) (by decide)]; exact M3
    · rw [b1 4301 (by decide) (by decide) (by decide), a4 11 (by decide) (by decide) (by decide) (by decide) (by decide)]; exact r5
    · rw [b1 4338 (by decide) (by decide) (by decide)]
      by_cases hjk : j = k
      · subst hjk; exact a2.2.2.2.2.2.2.2
      · rw [a1 4338 j (by decide) (by decide) hjk]; exact r6 j (by omega)
    · rw [b1 4338 (by decide) (by decide) (by decide), a1 4338 j (by decide) (by decide) (by omega)]; exact r7 j (by omega) x2
    · by_cases hjk : j = k
      · subst hjk
        have t2 := zTk_2 (q := q)
        refine zRj_e (K := fun _ => q) (V := fun _ => v) (S := fun _ => if q = 8 then a + 2 else 0) (D := fun _ => d) (Lb := fun _ => if q = 1 then b + 1 else b) (lk := fun _ => zTk q) (if_pos rfl) (if_pos rfl) (if_pos rfl) (if_pos rfl) (if_pos rfl) lkk ?_
        unfold zRj
        dsimp only
        rw [b1 4784 (by decide) (by decide) (by decide), b1 4368 (by decide) (by decide) (by decide), b1 4816 (by decide) (by decide) (by decide), b1 4848 (by decide) (by decide) (by decide), b1 4495 (by decide) (by decide) (by decide), (b2 j ofk).1, (b2 j ofk).2.1, (b2 j ofk).2.2]
        refine ⟨⟨a2.1, a2.2.1, m2, a2.2.2.1, a2.2.2.2.1, a2.2.2.2.2.1⟩, ⟨hq, hd, by split <;> omega, Nat.le_refl _⟩, ?_, ?_, fun _ _ => rfl, fun h8 w w1 w2 i hi => ?_⟩
        · rw [if_neg (by omega)]; exact a2.2.2.2.2.2.1
        · rw [if_neg]
          · exact a2.2.2.2.2.2.2.1
          · rintro ⟨x1, x2⟩
            rw [x2] at x1
            cases x1
        · rw [if_pos h8, m4 h8 w w1 w2 i hi]
          have e : zI1 (zu I 4301 22 (nI (a + 1))) j d (if q = 1 then b + 1 else b) q 4559 = I 4559 := by unfold zI1; simp (disch := omega) only [zuR_ne]
          rw [e, hT]
      · have hjk' : j < k := by omega
        obtain ⟨⟨s1, s2, s3, s4, s5, s6⟩, ⟨s7, s8, s9, s10⟩, s11, s12, s13, s14⟩ := r8 j hjk'
        have c8 : ∀ i, i < 64 → I1 4495 (64 * j + i) = I 4495 (64 * j + i) := fun i hi => by
          rw [m3 _ (by omega)]
          unfold zI1
          simp (disch := omega) only [zuR_ne]
        refine zRj_e (K := K) (V := V) (S := fun j => if ow = nI j then k else S j) (D := D) (Lb := Lb) (lk := zLk lk of k q) (if_neg hjk) (if_neg hjk) (if_neg hjk) (if_neg hjk) (if_neg hjk) rfl ?_
        unfold zRj
        dsimp only
        rw [b1 4784 (by decide) (by decide) (by decide), b1 4368 (by decide) (by decide) (by decide), b1 4816 (by decide) (by decide) (by decide), b1 4848 (by decide) (by decide) (by decide), b1 4495 (by decide) (by decide) (by decide), a1 4784 j (by decide) (by decide) hjk, a1 4368 j (by decide) (by decide) hjk, a1 4816 j (by decide) (by decide) hjk, a1 4848 j (by decide) (by decide) hjk, a7 j hjk]
        by_cases ho : of = nI j
        · obtain ⟨p1, p2, p3, p4⟩ := par j hjk' ho
          rw [lkd j hjk ho]
          refine ⟨⟨s1, s2, s3, s4, s5, p1⟩, ⟨s7, s8, s9, by omega⟩, p3, p4, fun x1 x2 => by omega, fun h8 w w1 w2 i hi => ?_⟩
          rw [h8] at s10
          have : zTk 8 = 0 := rfl
          omega
        · rw [lkn j hjk ho, (b2 j ho).1, (b2 j ho).2.1, (b2 j ho).2.2, a1 4880 j (by decide) (by decide) hjk, a1 4432 j (by decide) (by decide) hjk, a1 4464 j (by decide) (by decide) hjk]
          have own : ow ≠ nI j := by
            rcases W with ⟨-, w1, -⟩ | ⟨i, hi, w1, w2, w3, w4, w5, -⟩
            · rw [w1]; exact nI_m1 (by omega)
            · rw [w5]
              split
              · rw [← w1]; exact ho
              · exact nI_m1 (by omega)
          rw [if_neg own]
          refine ⟨⟨s1, s2, s3, s4, s5, s6⟩, ⟨s7, s8, s9, s10⟩, s11, s12, fun x1 x2 => ?_, fun h8 w w1 w2 i hi => ?_⟩
          · exfalso
            have hj1 := s13 x1 x2
            rcases W with ⟨-, -, -, -, w1⟩ | ⟨i, hi, w1, w2, w3, w4, w5, w6⟩
            · omega
            · by_cases hij : i = j
              · exact ho (by rw [← hij]; exact w1)
              · have := w6 j (by omega) hjk'
                omega
          · rw [c8 i (by omega)]
            exact s14 h8 w w1 w2 i hi
end
