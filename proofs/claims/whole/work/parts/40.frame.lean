-- needs: 01 02.names 03 04 05 18 19 20 22 23 24 25 30 31 32
/-! What a change leaves of the invariant: rows that outlast a call -/
/-- the reference's rows -/
def zKm (a : Nat) : Prop := a = 3151 ∨ a = 3184 ∨ a = 3216 ∨ a = 3248 ∨ a = 3280 ∨ a = 3312 ∨ a = 3345 ∨ a = 3375 ∨ a = 3408 ∨ a = 3440 ∨ a = 3472 ∨ a = 3505 ∨ a = 3537 ∨ a = 3567 ∨ a = 3600 ∨ a = 3632 ∨ a = 3664 ∨ a = 3697 ∨ a = 3728 ∨ a = 3760
/-- the rows made since, and the two arrays that hold them, are as they were -/
def zSb (I : zI) (J : zJ) (P : zP) (N : Nat → Nat) (I' : zI) (J' : zJ) (P' : zP) (N' : Nat → Nat) : Prop :=
  (∀ a, 6432 ≤ a → I' a = I a ∧ J' a = J a ∧ P' a = P a ∧ N' a = N a) ∧ P' 2164 = P 2164 ∧ P' 3061 = P 3061
/-- the reference's rows are as they were -/
def zMr (A : zI) (B : zJ) (A' : zI) (B' : zJ) : Prop := ∀ a, zKm a → A' a = A a ∧ B' a = B a
/-- .. those that outputs and scripts lie in -/
def zMo (A : zI) (B : zJ) (A' : zI) (B' : zJ) : Prop := ∀ a, zKm a → a ≠ 3151 → a ≠ 3697 → a ≠ 3728 → a ≠ 3760 → A' a = A a ∧ B' a = B a
theorem zMr_o {A A' : zI} {B B' : zJ} (M : zMr A B A' B') : zMo A B A' B' := fun a h _ _ _ _ => M a h
section
variable {I I' A A' : zI} {J J' B B' : zJ} {P P' : zP} {N N' : Nat → Nat} {n n' c c' t m e h u s d k : Nat} {g f : Nat → Nat → Nat}
theorem zO1_c (H : zSb I J P N I' J' P' N') (hn : n ≤ n') (O : zO1 I J P N A B g n k) : zO1 I' J' P' N' A B g n' k := by
  obtain ⟨p, i, a, l, b, hc, hd, hg⟩ := O
  have g0 := hg 0 (by decide)
  have g1 := hg 1 (by decide)
  have g2 := hg 2 (by decide)
  have g3 := hg 3 (by decide)
  have g4 := hg 4 (by decide)
  have g5 := hg 5 (by decide)
  have r0 := (H.1 (32 * g 0 k + 6) (by omega)).1
  have r1 := (H.1 (32 * g 1 k + 1) (by omega)).1
  have r2 := (H.1 (32 * g 2 k + 16) (by omega)).1
  have r3 := (H.1 (32 * g 3 k + 17) (by omega)).2.1
  have r4 := (H.1 (32 * g 4 k + 17) (by omega)).2.1
  have r5 := (H.1 (32 * g 5 k + 15) (by omega)).1
  have q := H.2.1
  have q0 := (H.1 (32 * g 0 k + 6) (by omega)).2.2.1
  have q1 := (H.1 (32 * g 1 k + 1) (by omega)).2.2.1
  have l2 := (H.1 (32 * g 2 k + 16) (by omega)).2.2.2
  have l3 := (H.1 (32 * g 3 k + 17) (by omega)).2.2.2
  have l4 := (H.1 (32 * g 4 k + 17) (by omega)).2.2.2
  have l5 := (H.1 (32 * g 5 k + 15) (by omega)).2.2.2
  unfold zO1
  rw [r0, r1, r2, r3, r4, r5, q, q0, q1, l2, l3, l4, l5]
  exact ⟨p, i, a, l, b, hc, hd, fun i hi => ⟨(hg i hi).1, Nat.lt_of_lt_of_le (hg i hi).2 hn⟩⟩
theorem zS1_c (H : zSb I J P N I' J' P' N') (hn : n ≤ n') (O : zS1 I J P N A B f n k ∧ zTrm I A B f k) : zS1 I' J' P' N' A B f n' k ∧ zTrm I' A B f k := by
  obtain ⟨⟨p, i, l, b, hc, hg⟩, T⟩ := O
  have g0 := hg 0 (by decide)
  have g1 := hg 1 (by decide)
  have g2 := hg 2 (by decide)
  have g3 := hg 3 (by decide)
  have g4 := hg 4 (by decide)
  have r0 := (H.1 (32 * f 0 k + 7) (by omega)).1
  have r1 := (H.1 (32 * f 1 k + 15) (by omega)).1
  have r2 := (H.1 (32 * f 2 k + 17) (by omega)).2.1
  have r3 := (H.1 (32 * f 3 k + 16) (by omega)).1
  have r4 := (H.1 (32 * f 4 k + 15) (by omega)).1
  have q := H.2.2
  have q0 := (H.1 (32 * f 0 k + 7) (by omega)).2.2.1
  have l1 := (H.1 (32 * f 1 k + 15) (by omega)).2.2.2
  have l2 := (H.1 (32 * f 2 k + 17) (by omega)).2.2.2
  have l3 := (H.1 (32 * f 3 k + 16) (by omega)).2.2.2
  have l4 := (H.1 (32 * f 4 k + 15) (by omega)).2.2.2
  constructor
  · unfold zS1
    rw [r0, r1, r2, r3, r4, q, q0, l1, l2, l3, l4]
    exact ⟨p, i, l, b, hc, fun i hi => ⟨(hg i hi).1, Nat.lt_of_lt_of_le (hg i hi).2 hn⟩⟩
  · unfold zTrm
    rw [r3]
    exact T
theorem zOuts_c (H : zSb I J P N I' J' P' N') (hn : n ≤ n') (O : zOuts I J P N A B g n m) : zOuts I' J' P' N' A B g n' m := ⟨fun k hk => zO1_c H hn (O.1 k hk), O.2⟩
theorem zScs_c (H : zSb I J P N I' J' P' N') (hn : n ≤ n') (O : zScs I J P N A B f n s) : zScs I' J' P' N' A B f n' s := ⟨fun k hk => zS1_c H hn (O.1 k hk), O.2⟩
theorem zAlv_m (h1 : A' 3632 = A 3632) (h2 : A' 3664 = A 3664) {e k : Nat} {t : Int} : zAlv A' e k t = zAlv A e k t := by
  unfold zAlv
  rw [h1, h2]
theorem zAmt_m (h1 : A' 3472 = A 3472) (h2 : B' 3505 = B 3505) (h3 : B' 3537 = B 3537) {k : Nat} {p : Int32} {x : Int64} (j : Nat) : zAmt A' B' k p x j = zAmt A B k p x j := by
  induction j with
  | zero => rfl
  | succ j ih =>
    unfold zAmt
    rw [ih, h1, h2, h3]
theorem zTot_m (h1 : A' 3632 = A 3632) (h2 : A' 3664 = A 3664) (h3 : A' 3472 = A 3472) (h4 : B' 3505 = B 3505) (h5 : B' 3537 = B 3537) {t : Int} {p : Int32} {x : Int64} (k : Nat) : zTot A' B' g e t p x k = zTot A B g e t p x k := by
  induction k with
  | zero => rfl
  | succ k ih =>
    unfold zTot
    have q : zAlv A' e k t = zAlv A e k t := zAlv_m h1 h2
    rw [ih, zAmt_m h3 h4 h5, q]
theorem zPts_m (h : B' 3697 = B 3697) (k : Nat) : zPts B' k = zPts B k := by
  induction k with
  | zero => rfl
  | succ k ih =>
    unfold zPts
    rw [ih, h]
theorem zSum_cm (e1 : J' 2115 6 = J 2115 6) (e2 : I' 2115 7 = I 2115 7) (e3 : I' 2115 8 = I 2115 8) (e4 : J' 2193 = J 2193) (e5 : I' 2224 = I 2224) (e6 : I' 2256 = I 2256) (r18 : B' 3697 = B 3697) (r19 : A' 3728 = A 3728) (r20 : A' 3760 = A 3760) (hc : c ≤ c') (X : zSum I J A B h u c) : zSum I' J' A' B' h u c' := by
  obtain ⟨ap, tk, s1, s2, s3, s4, s5, s6, s7, s8⟩ := X
  refine ⟨ap, tk, ?_⟩
  rw [e1, e2, e3, e4, e5, e6, r18, r19, r20]
  exact ⟨s1, s2, s3, s4, s5, by omega, by omega, by omega⟩
theorem zLat_cm (e : I' 3088 = I 3088) (q : ∀ j, j < 8 → A' 3118 (30 + j) = A 3118 (30 + j)) (X : zLat I A) : zLat I' A' := by
  have q0 : A' 3118 30 = A 3118 30 := q 0 (by decide)
  unfold zLat
  rw [e, q0]
  refine X.imp id (fun ⟨a, b⟩ => ⟨a, fun j hj => ?_⟩)
  rw [q j hj]
  exact b j hj
theorem zTap_cm (ht : t ≤ 4096) (e : ∀ j, j < 4096 → I' 239 j = I 239 j) (q : A' 3151 = A 3151) (X : zTap I A t) : zTap I' A' t := by
  intro j hj
  rw [e j (by omega), q]
  exact X j hj
theorem zOuts_m (H : zMo A B A' B') (O : zOuts I J P N A B g n m) : zOuts I J P N A' B' g n m := by
  have r9 := H 3408 (by unfold zKm; omega) (by decide) (by decide) (by decide) (by decide)
  have r10 := H 3440 (by unfold zKm; omega) (by decide) (by decide) (by decide) (by decide)
  have r11 := H 3472 (by unfold zKm; omega) (by decide) (by decide) (by decide) (by decide)
  have r12 := H 3505 (by unfold zKm; omega) (by decide) (by decide) (by decide) (by decide)
  have r13 := H 3537 (by unfold zKm; omega) (by decide) (by decide) (by decide) (by decide)
  have r14 := H 3567 (by unfold zKm; omega) (by decide) (by decide) (by decide) (by decide)
  have r15 := H 3600 (by unfold zKm; omega) (by decide) (by decide) (by decide) (by decide)
  have r16 := H 3632 (by unfold zKm; omega) (by decide) (by decide) (by decide) (by decide)
  have r17 := H 3664 (by unfold zKm; omega) (by decide) (by decide) (by decide) (by decide)
  unfold zOuts zO1
  rw [r9.1, r16.1, r17.1, r10.1, r15.1, r11.1, r12.2, r13.2, r14.1]
  exact O
theorem zWfO_m (H : zMo A B A' B') (W : zWfO A B g m e h s) : zWfO A' B' g m e h s := by
  have r9 := H 3408 (by unfold zKm; omega) (by decide) (by decide) (by decide) (by decide)
  have r11 := H 3472 (by unfold zKm; omega) (by decide) (by decide) (by decide) (by decide)
  have r12 := H 3505 (by unfold zKm; omega) (by decide) (by decide) (by decide) (by decide)
  have r13 := H 3537 (by unfold zKm; omega) (by decide) (by decide) (by decide) (by decide)
  have r14 := H 3567 (by unfold zKm; omega) (by decide) (by decide) (by decide) (by decide)
  have r16 := H 3632 (by unfold zKm; omega) (by decide) (by decide) (by decide) (by decide)
  have r17 := H 3664 (by unfold zKm; omega) (by decide) (by decide) (by decide) (by decide)
  unfold zWfO
  rw [r9.1, r16.1, r17.1, r11.1, r12.2, r13.2, r14.1]
  exact W
theorem zScs_m (H : zMo A B A' B') (S : zScs I J P N A B f n s) : zScs I J P N A' B' f n s := by
  have r2 := H 3184 (by unfold zKm; omega) (by decide) (by decide) (by decide) (by decide)
  have r3 := H 3216 (by unfold zKm; omega) (by decide) (by decide) (by decide) (by decide)
  have r4 := H 3248 (by unfold zKm; omega) (by decide) (by decide) (by decide) (by decide)
  have r5 := H 3280 (by unfold zKm; omega) (by decide) (by decide) (by decide) (by decide)
  have r6 := H 3312 (by unfold zKm; omega) (by decide) (by decide) (by decide) (by decide)
  have r7 := H 3345 (by unfold zKm; omega) (by decide) (by decide) (by decide) (by decide)
  have r8 := H 3375 (by unfold zKm; omega) (by decide) (by decide) (by decide) (by decide)
  unfold zScs zS1 zTrm
  rw [r2.1, r3.1, r4.1, r5.1, r6.1, r7.2, r8.1]
  exact S
theorem zCon_m (H : zMo A B A' B') (r18 : B' 3697 = B 3697) (C : zCon A B g m e h) : zCon A' B' g m e h := by
  have r11 := H 3472 (by unfold zKm; omega) (by decide) (by decide) (by decide) (by decide)
  have r12 := H 3505 (by unfold zKm; omega) (by decide) (by decide) (by decide) (by decide)
  have r13 := H 3537 (by unfold zKm; omega) (by decide) (by decide) (by decide) (by decide)
  have r16 := H 3632 (by unfold zKm; omega) (by decide) (by decide) (by decide) (by decide)
  have r17 := H 3664 (by unfold zKm; omega) (by decide) (by decide) (by decide) (by decide)
  unfold zCon
  rw [r18]
  refine ⟨C.1, fun t ht p x => ?_⟩
  rw [zTot_m r16.1 r17.1 r11.1 r12.2 r13.2, zPts_m r18]
  exact C.2 t ht p x
theorem zBeg_m (r1 : A' 3118 13 = A 3118 13) (r2 : B' 3697 = B 3697) (r3 : A' 3664 = A 3664) (G : zBeg A B m e h) : zBeg A' B' m e h := by
  unfold zBeg
  rw [r1, r2, r3]
  exact G
/-- nothing that outlasts a call has changed -/
theorem zAll_same (e1 : I' 11 = I 11) (e1' : J' 11 = J 11) (e2 : I' 2115 = I 2115) (e2' : J' 2115 = J 2115) (e3 : I' 3088 = I 3088) (e4 : J' 2193 = J 2193) (e5 : I' 2224 = I 2224) (e6 : I' 2256 = I 2256) (e7 : ∀ j, j < 4096 → I' 239 j = I 239 j) (H : zSb I J P N I' J' P' N') (M : zMr A B A' B') (q : ∀ j, j ≤ 37 → A' 3118 j = A 3118 j ∧ B' 3118 j = B 3118 j) (hn : n ≤ n') (hc : c ≤ c') (X : zAll I J P N A B n c t m e h u s d g f) : zAll I' J' P' N' A' B' n' c' t m e h u s d g f := by
  obtain ⟨V, Su, T, L, O, W, S, C, G⟩ := X
  refine ⟨?_, zSum_cm (by rw [e2']) (by rw [e2]) (by rw [e2]) e4 e5 e6 (M 3697 (by unfold zKm; omega)).2 (M 3728 (by unfold zKm; omega)).1 (M 3760 (by unfold zKm; omega)).1 hc Su, zTap_cm V.2.2.1.1 e7 (M 3151 (by unfold zKm; omega)).1 T, zLat_cm e3 (fun j hj => (q (30 + j) (by omega)).1) L, zOuts_m (zMr_o M) (zOuts_c H hn O), zWfO_m (zMr_o M) W, zScs_m (zMr_o M) (zScs_c H hn S), zCon_m (zMr_o M) (M 3697 (by unfold zKm; omega)).2 C, zBeg_m (q 13 (by decide)).1 (M 3697 (by unfold zKm; omega)).2 (M 3664 (by unfold zKm; omega)).1 G⟩
  unfold zVal
  rw [e1, e1', e2, (q 2 (by decide)).1, (q 11 (by decide)).1, (q 12 (by decide)).1, (q 23 (by decide)).1, (q 24 (by decide)).1, (q 3 (by decide)).1, (q 0 (by decide)).1, (q 13 (by decide)).1, (q 28 (by decide)).1, (q 29 (by decide)).2]
  exact V
end
theorem fN31 : ∀ e ∈ fN, e.1 ≠ 31 ∧ e.1 < 6432 := by decide +kernel
theorem fPs_lt : ∀ e ∈ fPs, e.1 < 6432 ∧ e.1 ≠ 2164 ∧ e.1 ≠ 3061 ∧ ¬ (e.1 = 424 ∧ e.2.1 = 7) := by decide +kernel
/-- the static rows are as they were -/
theorem zStat_c {P P' : zP} {N N' : Nat → Nat} (h : zStat P N) (hP : ∀ a j, a < 6432 → a ≠ 2164 → a ≠ 3061 → ¬ (a = 424 ∧ j = 7) → P' a j = P a j) (hN : ∀ a, a ≠ 31 → a < 6432 → N' a = N a) : zStat P' N' := by
  refine ⟨fun e he => ?_, fun e he => ?_⟩
  · have q := fPs_lt e he
    rw [hP _ _ q.1 q.2.1 q.2.2.1 q.2.2.2]
    exact h.1 e he
  · rw [hN _ (fN31 e he).1 (fN31 e he).2]
    exact h.2 e he
/-! the same where some entries change -/
/-- old rows but for the field spentAt of outputs -/
def zSg (n : Nat) (I : zI) (J : zJ) (P : zP) (N : Nat → Nat) (I' : zI) (J' : zJ) (P' : zP) (N' : Nat → Nat) : Prop :=
  ∀ a, 6432 ≤ a → a < 32 * n → (a % 32 ≠ 6 → I' a = I a) ∧ (∀ j, j ≠ 4 → I' a j = I a j) ∧ J' a = J a ∧ P' a = P a ∧ N' a = N a
/-- the reference's entries of output k, but for spentAt -/
def zMg (A : zI) (B : zJ) (A' : zI) (B' : zJ) (k : Nat) : Prop :=
  (A' 3408 k = A 3408 k ∧ A' 3632 k = A 3632 k ∧ A' 3440 k = A 3440 k ∧ A' 3600 k = A 3600 k) ∧ (∀ j, j < 8 → A' 3472 (8 * k + j) = A 3472 (8 * k + j) ∧ B' 3505 (8 * k + j) = B 3505 (8 * k + j) ∧ B' 3537 (8 * k + j) = B 3537 (8 * k + j)) ∧ ∀ j, j < 128 → A' 3567 (128 * k + j) = A 3567 (128 * k + j)
section
variable {I I' A A' : zI} {J J' B B' : zJ} {P P' : zP} {N N' : Nat → Nat} {n n' c c' t m e h u s d k : Nat} {g g' f f' : Nat → Nat → Nat}
theorem zO1_g (H : zSg n I J P N I' J' P' N') (M : zMg A B A' B' k) (hg' : ∀ i, i < 8 → g' i k = g i k) (hn : n ≤ n') (hP : P' 2164 k = P 2164 k) (hs : I' (32 * g 0 k + 6) 4 = A' 3664 k) (O : zO1 I J P N A B g n k) : zO1 I' J' P' N' A' B' g' n' k := by
  obtain ⟨p, i, a, l, b, hc, hd, hg⟩ := O
  obtain ⟨⟨m1, m2, m3, m4⟩, m5, m6⟩ := M
  have g0 := hg 0 (by decide)
  have g1 := hg 1 (by decide)
  have g2 := hg 2 (by decide)
  have g3 := hg 3 (by decide)
  have g4 := hg 4 (by decide)
  have g5 := hg 5 (by decide)
  have q0 := H (32 * g 0 k + 6) (by omega) (by omega)
  have q1 := H (32 * g 1 k + 1) (by omega) (by omega)
  have q2 := H (32 * g 2 k + 16) (by omega) (by omega)
  have q3 := H (32 * g 3 k + 17) (by omega) (by omega)
  have q4 := H (32 * g 4 k + 17) (by omega) (by omega)
  have q5 := H (32 * g 5 k + 15) (by omega) (by omega)
  unfold zO1
  rw [hg' 0 (by decide), hg' 1 (by decide), hg' 2 (by decide), hg' 3 (by decide), hg' 4 (by decide), hg' 5 (by decide), hg' 6 (by decide), hg' 7 (by decide), hP, q0.2.2.2.1, q1.2.2.2.1, q0.2.1 0 (by decide), q0.2.1 3 (by decide), hs, q1.1 (by omega), q2.1 (by omega), q3.2.2.1, q4.2.2.1, q5.1 (by omega), q2.2.2.2.2, q3.2.2.2.2, q4.2.2.2.2, q5.2.2.2.2, m1, m2, m3, m4]
  refine ⟨p, ⟨i.1, i.2.1, rfl, i.2.2.2⟩, a, l, b, fun j hj => ?_, fun j hj => ?_, fun i hi => ?_⟩
  · obtain ⟨e1, e2, e3⟩ := m5 j (by omega)
    rw [e1, e2, e3]
    exact hc j hj
  · rw [m6 j (by omega)]
    exact hd j hj
  · rw [hg' i (by omega)]
    exact ⟨(hg i hi).1, by have := (hg i hi).2; omega⟩
theorem zS1_g (H : zSg n I J P N I' J' P' N') (hn : n ≤ n') (hP : P' 3061 k = P 3061 k) (O : zS1 I J P N A B f n k ∧ zTrm I A B f k) : zS1 I' J' P' N' A B f n' k ∧ zTrm I' A B f k := by
  obtain ⟨⟨p, i, l, b, hc, hg⟩, T⟩ := O
  have g0 := hg 0 (by decide)
  have g1 := hg 1 (by decide)
  have g2 := hg 2 (by decide)
  have g3 := hg 3 (by decide)
  have g4 := hg 4 (by decide)
  have q0 := H (32 * f 0 k + 7) (by omega) (by omega)
  have q1 := H (32 * f 1 k + 15) (by omega) (by omega)
  have q2 := H (32 * f 2 k + 17) (by omega) (by omega)
  have q3 := H (32 * f 3 k + 16) (by omega) (by omega)
  have q4 := H (32 * f 4 k + 15) (by omega) (by omega)
  constructor
  · unfold zS1
    rw [q0.1 (by omega), q1.1 (by omega), q2.2.2.1, q3.1 (by omega), q4.1 (by omega), hP, q0.2.2.2.1, q1.2.2.2.2, q2.2.2.2.2, q3.2.2.2.2, q4.2.2.2.2]
    exact ⟨p, i, l, b, hc, fun i hi => ⟨(hg i hi).1, Nat.lt_of_lt_of_le (hg i hi).2 hn⟩⟩
  · unfold zTrm
    rw [q3.1 (by omega)]
    exact T
theorem zScs_g (H : zSg n I J P N I' J' P' N') (hn : n ≤ n') (hP : P' 3061 = P 3061) (O : zScs I J P N A B f n s) : zScs I' J' P' N' A B f n' s := ⟨fun k hk => zS1_g H hn (by rw [hP]) (O.1 k hk), O.2⟩
/-- the reference's rows of scripts -/
def zMs (A : zI) (B : zJ) (A' : zI) (B' : zJ) : Prop := A' 3184 = A 3184 ∧ A' 3216 = A 3216 ∧ A' 3248 = A 3248 ∧ A' 3280 = A 3280 ∧ A' 3312 = A 3312 ∧ B' 3345 = B 3345 ∧ A' 3375 = A 3375
theorem zScs_ms (H : zMs A B A' B') (S : zScs I J P N A B f n s) : zScs I J P N A' B' f n s := by
  obtain ⟨r2, r3, r4, r5, r6, r7, r8⟩ := H
  unfold zScs zS1 zTrm
  rw [r2, r3, r4, r5, r6, r7, r8]
  exact S
end
