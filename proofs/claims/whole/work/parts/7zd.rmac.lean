-- needs: 01 02.names 03 04 05 18 19 20 22 23 24 25 30 31 32 33 36 40 42 43 44 46 47 60 61 62 63 64 79f 79g 79h 79i 79j 79k 79l 79m 79n 79o 79p 79q 79r 79s 79t 79u 7a 7b 7c 7d 7e 7f 7g 7h 7i 7j 7k 7l 7m 7s 7t 7u 7v 7w 7x 7y 7z. 7za 7zb 7zc
/-! The reference's machine: its state beside that of our own -/
def yRs (I : zI) (re rm : Nat) (r u Sc : Nat → Nat) : List (Nat × Nat × List Nat) → Prop
  | [] => True
  | (k, y, e) :: s => (I 5744 s.length = nI k ∧ (k = 0 → I 5776 s.length = nI (u (Sc y)) ∧ ∃ q, I 5808 s.length = nI q ∧ yRr I re rm r q e) ∧ (k = 1 → I 5808 s.length = nI (r y))) ∧ yRs I re rm r u Sc s
def yRc (Kd Sc : Nat → Nat) (Nm : Nat → Int64) (M : Nat) (r u : Nat → Nat) (I : zI) (J : zJ) : Prop := ∀ i, i < M → u i < 200 ∧ (Kd i < 7 → I 4944 (u i) = nI (Kd i)) ∧ (7 ≤ Kd i → (∃ k, 7 ≤ k ∧ k ≤ 12 ∧ I 4944 (u i) = nI k) ∧ I 5712 (u i) = nI (r i)) ∧ (Kd i = 0 ∨ Kd i = 6 → J 4977 (u i) = Nm i) ∧ (Kd i = 1 ∨ Kd i = 2 ∨ Kd i = 3 ∨ Kd i = 4 → I 5008 (u i) = nI (u (i + 1))) ∧ (Kd i = 2 → I 5040 (u i) = nI (u (Sc i)))
/-- how our values are numbered there -/
def yRh (Kd : Nat → Nat) (M c0 : Nat) (r : Nat → Nat) : Prop := c0 ≤ 200 ∧ (∀ v, 200 ≤ v → r v = c0 + (v - 200)) ∧ ∀ v, v < M → 7 ≤ Kd v → r v < c0
def yRR (Kd Sc : Nat → Nat) (Nm : Nat → Int64) (M c0 : Nat) (r u : Nat → Nat) (I : zI) (J : zJ) (te de re rm : Nat) (tab : Nat → yV) (top : Nat) (st : List (Nat × Nat × List Nat)) (S W : Nat) : Prop :=
  yRc Kd Sc Nm M r u I J ∧ (I 4908 19 = nI (c0 + (top - 200)) ∧ I 4908 21 = nI te ∧ I 4908 26 = nI de ∧ I 4908 28 = nI re ∧ I 4908 31 = nI rm) ∧ (I 4908 36 = nI st.length ∧ I 4908 45 = nI S ∧ I 4908 46 = nI W ∧ I 4908 47 = nI 20000 ∧ I 4908 48 = nI 3000 ∧ I 4908 49 = 0) ∧ (te ≤ 45000 + 8 * W ∧ de ≤ 1000 + W ∧ re ≤ 191 * W ∧ rm ≤ 1 + W) ∧ (∀ v, yvl Kd M top v → yRv I J de te re rm r u (r v) (tab v)) ∧ yRs I re rm r u Sc st
def yRS (Kd Sc : Nat → Nat) (Nm : Nat → Int64) (M c0 : Nat) (r u : Nat → Nat) (I : zI) (J : zJ) (te de re rm : Nat) : yM → Prop
  | (tab, top, m, x, e, st, S, W, a) => match m with
    | 0 => yRR Kd Sc Nm M c0 r u I J te de re rm tab top st S W ∧ I 4908 51 = nI (u x) ∧ ∃ q, I 4908 52 = nI q ∧ yRr I re rm r q e
    | 1 => yRR Kd Sc Nm M c0 r u I J te de re rm tab top st S W ∧ I 4908 51 = -1 ∧ I 4908 53 = nI (r x)
    | _ => I 4908 49 = nI a ∧ I 4908 45 = nI S ∧ I 4908 46 = nI W ∧ (a = 0 → I 4908 51 = -1 ∧ I 4908 36 = 0 ∧ r x < 3700 ∧ I 4908 53 = nI (r x) ∧ I 5168 (r x) = nI (tab x).1 ∧ ((tab x).1 = 2 → J 5201 (r x) = (tab x).2.1))
def yRF (I : zI) (J : zJ) (I' : zI) (J' : zJ) : Prop := (∀ c, c < 4908 ∨ 6128 ≤ c → I' c = I c) ∧ ∀ c, c < 4908 ∨ 6128 ≤ c → J' c = J c
theorem yRF_r {I : zI} {J : zJ} : yRF I J I J := ⟨fun _ _ => rfl, fun _ _ => rfl⟩
theorem yRF_t {I I' I'' : zI} {J J' J'' : zJ} (h : yRF I J I' J') (h' : yRF I' J' I'' J'') : yRF I J I'' J'' := ⟨fun c hc => (h'.1 c hc).trans (h.1 c hc), fun c hc => (h'.2 c hc).trans (h.2 c hc)⟩
section
variable {I I' I1 I2 : zI} {J J' J2 : zJ} {P : zP} {N : Nat → Nat} {n z te de re rm te' de' c0 vc : Nat} {r u : Nat → Nat} {Q : Option Value → zS → Prop} {Kd Sc l : Nat → Nat} {Nm : Nat → Int64} {M top S W S' W' x v : Nat} {tab : Nat → yV} {e : List Nat} {st st' : List (Nat × Nat × List Nat)}
theorem yRF_m (h : ∀ c, c ≠ 4908 → c ≠ 5744 → c ≠ 5776 → c ≠ 5808 → c ≠ 6032 → I' c = I c) : yRF I J I' J := ⟨fun c hc => h c (by omega) (by omega) (by omega) (by omega) (by omega), fun _ _ => rfl⟩
theorem yRF_o {w : yV} (h : yRo I J I' J' vc te de re rm te' de' r u w) : yRF I J I' J' := ⟨fun c hc => h.1.1 c (by omega) (by omega) (by omega) (by omega) (by omega) (by omega) (by omega) (by omega) (by omega) (by omega), fun c hc => h.1.2 c (by omega) (by omega)⟩
theorem yRF_x (h : yRx I J I' J') : yRF I J I' J' := ⟨fun c hc => h.1 c (by omega) (by omega) (by omega) (by omega) (by omega) (by omega) (by omega) (by omega) (by omega) (by omega), fun c hc => h.2 c (by omega) (by omega)⟩
theorem yRg_m (h : ∀ c, c ≠ 4908 → c ≠ 5744 → c ≠ 5776 → c ≠ 5808 → c ≠ 6032 → I' c = I c) : yRg I J I' J vc te de re rm := by
  refine ⟨fun k _ => ⟨⟨?_, rfl, ?_, ?_⟩, ?_, ?_, ?_, ?_, ?_⟩, fun j _ => ?_, fun j _ => ⟨?_, rfl, ?_, ?_⟩, fun j _ => ?_, fun q _ => ⟨?_, ?_⟩⟩
  all_goals rw [h _ (by decide) (by decide) (by decide) (by decide) (by decide)]
theorem yRs_m {re' rm' : Nat} (h1 : ∀ j, j < st.length → I' 5744 j = I 5744 j ∧ I' 5776 j = I 5776 j ∧ I' 5808 j = I 5808 j) (h4 : re ≤ re') (h5 : rm ≤ rm') (g : yRg I J I' J' vc te de re rm) (h : yRs I re rm r u Sc st) : yRs I' re' rm' r u Sc st := by
  induction st with
  | nil => trivial
  | cons f s ih =>
    obtain ⟨k, y, e⟩ := f
    obtain ⟨⟨s1, s2, s3⟩, s4⟩ := h
    have hl : s.length < (List.cons (k, y, e) s).length := Nat.lt_succ_self _
    obtain ⟨t1, t2, t3⟩ := h1 s.length hl
    refine ⟨⟨t1.trans s1, fun hk => ?_, fun hk => t3.trans (s3 hk)⟩, ih (fun j hj => h1 j (Nat.lt_succ_of_lt hj)) s4⟩
    obtain ⟨a1, q, a2, a3⟩ := s2 hk
    exact ⟨t2.trans a1, q, t3.trans a2, yRr_g h4 h5 g a3⟩
/-- the number of a value -/
theorem yRh_l (hh : yRh Kd M c0 r) (ht : 200 ≤ top) (h : yvl Kd M top v) : r v < c0 + (top - 200) := by
  unfold yvl at h
  rcases h with ⟨h1, h2⟩ | ⟨h1, h2⟩
  · have := hh.2.2 v h1 h2
    omega
  · have := hh.2.1 v h1
    omega
theorem yRR_m (hh : yRh Kd M c0 r) (ht : 200 ≤ top) (h : yRR Kd Sc Nm M c0 r u I J te de re rm tab top st S W) (fr : ∀ c, c ≠ 4908 → c ≠ 5744 → c ≠ 5776 → c ≠ 5808 → c ≠ 6032 → I' c = I c) (ff : ∀ j, j = 19 ∨ j = 21 ∨ j = 26 ∨ j = 28 ∨ j = 31 ∨ j = 47 ∨ j = 48 ∨ j = 49 → I' 4908 j = I 4908 j) (f1 : I' 4908 36 = nI st'.length) (f2 : I' 4908 45 = nI S') (f3 : I' 4908 46 = nI W') (hs : yRs I' re rm r u Sc st') (hW : W ≤ W') : yRR Kd Sc Nm M c0 r u I' J te de re rm tab top st' S' W' := by
  obtain ⟨c, ⟨t1, t2, t3, t4, t5⟩, ⟨-, -, -, g4, g5, g6⟩, ⟨b1, b2, b3, b4⟩, v, -⟩ := h
  have g : yRg I J I' J (c0 + (top - 200)) te de re rm := yRg_m fr
  refine ⟨fun i hi => ?_, ⟨?_, ?_, ?_, ?_, ?_⟩, ⟨f1, f2, f3, ?_, ?_, ?_⟩, ⟨by omega, by omega, ?_, by omega⟩, fun w hw => yRv_g (yRh_l hh ht hw) (Nat.le_refl _) (Nat.le_refl _) (Nat.le_refl _) (Nat.le_refl _) g (v w hw), hs⟩
  · rw [fr 4944 (by decide) (by decide) (by decide) (by decide) (by decide), fr 5712 (by decide) (by decide) (by decide) (by decide) (by decide), fr 5008 (by decide) (by decide) (by decide) (by decide) (by decide), fr 5040 (by decide) (by decide) (by decide) (by decide) (by decide)]
    exact c i hi
  · rw [ff 19 (by omega), t1]
  · rw [ff 21 (by omega), t2]
  · rw [ff 26 (by omega), t3]
  · rw [ff 28 (by omega), t4]
  · rw [ff 31 (by omega), t5]
  · rw [ff 47 (by omega), g4]
  · rw [ff 48 (by omega), g5]
  · rw [ff 49 (by omega), g6]
  · have := Nat.mul_le_mul_left 191 hW
    omega
/-- a value more, and what it needs -/
def yRp (I : zI) (J : zJ) (I' : zI) (J' : zJ) (vc te de re rm te' de' : Nat) (r u : Nat → Nat) (w : yV) : Prop :=
  ((∀ c, c = 4944 ∨ c = 5712 ∨ c = 5008 ∨ c = 5040 ∨ c = 5744 ∨ c = 5776 ∨ c = 5808 → I' c = I c) ∧ J' 4977 = J 4977) ∧ (∀ j, j ≠ 19 → j ≠ 21 → j ≠ 26 → j ≠ 56 → I' 4908 j = I 4908 j) ∧ (I' 4908 19 = nI (vc + 1) ∧ I' 4908 21 = nI te' ∧ I' 4908 26 = nI de') ∧ (te ≤ te' ∧ te' ≤ te + 8 * ysz w ∧ de ≤ de' ∧ de' ≤ de + ysz w ∧ de' ≤ de + 200) ∧ yRg I J I' J' vc te de re rm ∧ yRv I' J' de' te' re rm r u vc w
theorem yRp_o {w : yV} (h : yRo I J I' J' vc te de re rm te' de' r u w) : yRp I J I' J' vc te de re rm te' de' r u w := ⟨⟨fun c hc => h.1.1 c (by omega) (by omega) (by omega) (by omega) (by omega) (by omega) (by omega) (by omega) (by omega) (by omega), h.1.2 4977 (by decide) (by decide)⟩, h.2⟩
/-- a value that needs no more -/
theorem yRp_k {k : Nat} {y : Int64} {w : yV} {a b c d g : Int32} (h21 : I 4908 21 = nI te) (h26 : I 4908 26 = nI de) (hw : ∀ I' J' : Nat → Nat → _, (I' : zI) 5168 vc = nI k → (J' : zJ) 5201 vc = y → I' 5296 vc = a → I' 5328 vc = b → I' 5360 vc = c → I' 5392 vc = d → I' 5424 vc = g → yRg I J I' J' vc te de re rm → yRv I' J' de te re rm r u vc w) : yRp I J (zu (zu (zu (zu (zu (yMk I vc (nI k)) 5296 vc a) 5328 vc b) 5360 vc c) 5392 vc d) 5424 vc g) (zu J 5201 vc y) vc te de re rm te de r u w := by
  have fr : ∀ c', c' ≠ 5296 → c' ≠ 5328 → c' ≠ 5360 → c' ≠ 5392 → c' ≠ 5424 → zu (zu (zu (zu (zu (yMk I vc (nI k)) 5296 vc a) 5328 vc b) 5360 vc c) 5392 vc d) 5424 vc g c' = yMk I vc (nI k) c' := fun c' x1 x2 x3 x4 x5 => by simp only [zuR_ne x1, zuR_ne x2, zuR_ne x3, zuR_ne x4, zuR_ne x5]
  have gg : yRg I J (zu (zu (zu (zu (zu (yMk I vc (nI k)) 5296 vc a) 5328 vc b) 5360 vc c) 5392 vc d) 5424 vc g) (zu J 5201 vc y) vc te de re rm := by
    refine ⟨fun j hj => ?_, fun j _ => ?_, fun j _ => ?_, fun j _ => ?_, fun q _ => ?_⟩
    · obtain ⟨o1, o2⟩ := yMk_o (I := I) (vc := vc) (k := nI k) (j := j) (by omega)
      refine ⟨⟨?_, zu_nj (by omega), ?_, ?_⟩, ?_, ?_, ?_, ?_, ?_⟩
      · rw [fr _ (by decide) (by decide) (by decide) (by decide) (by decide), o1]
      · rw [fr _ (by decide) (by decide) (by decide) (by decide) (by decide), yMk_c (by decide) (by decide) (by decide)]
      · rw [fr _ (by decide) (by decide) (by decide) (by decide) (by decide), yMk_c (by decide) (by decide) (by decide)]
      · simp (disch := omega) only [zuR_ne, zu_nj]; rw [yMk_c (by decide) (by decide) (by decide)]
      · simp (disch := omega) only [zuR_ne, zu_nj]; rw [yMk_c (by decide) (by decide) (by decide)]
      · simp (disch := omega) only [zuR_ne, zu_nj]; rw [o2]
      · simp (disch := omega) only [zuR_ne, zu_nj]; rw [yMk_c (by decide) (by decide) (by decide)]
      · simp (disch := omega) only [zuR_ne, zu_nj]; rw [yMk_c (by decide) (by decide) (by decide)]
    · rw [fr _ (by decide) (by decide) (by decide) (by decide) (by decide), yMk_c (by decide) (by decide) (by decide)]
    · rw [fr 5488 (by decide) (by decide) (by decide) (by decide) (by decide), fr 5552 (by decide) (by decide) (by decide) (by decide) (by decide), fr 5584 (by decide) (by decide) (by decide) (by decide) (by decide), yMk_c (by decide) (by decide) (by decide), yMk_c (by decide) (by decide) (by decide), yMk_c (by decide) (by decide) (by decide), zuR_ne (by decide)]
      exact ⟨rfl, rfl, rfl, rfl⟩
    · rw [fr _ (by decide) (by decide) (by decide) (by decide) (by decide), yMk_c (by decide) (by decide) (by decide)]
    · rw [fr 5648 (by decide) (by decide) (by decide) (by decide) (by decide), fr 5680 (by decide) (by decide) (by decide) (by decide) (by decide), yMk_c (by decide) (by decide) (by decide), yMk_c (by decide) (by decide) (by decide)]
      exact ⟨rfl, rfl⟩
  refine ⟨⟨fun c' hc => ?_, zuR_ne (by decide)⟩, fun j x1 _ _ _ => ?_, ⟨?_, ?_, ?_⟩, ⟨Nat.le_refl _, Nat.le_add_right _ _, Nat.le_refl _, Nat.le_add_right _ _, Nat.le_add_right _ _⟩, gg, hw _ _ ?_ zu_at ?_ ?_ ?_ ?_ zu_at gg⟩
  · rw [fr c' (by omega) (by omega) (by omega) (by omega) (by omega), yMk_c (by omega) (by omega) (by omega)]
  · rw [fr _ (by decide) (by decide) (by decide) (by decide) (by decide), yMk_f x1]
  · rw [fr _ (by decide) (by decide) (by decide) (by decide) (by decide), yMk_19]
  · rw [fr _ (by decide) (by decide) (by decide) (by decide) (by decide), yMk_f (by decide), h21]
  · rw [fr _ (by decide) (by decide) (by decide) (by decide) (by decide), yMk_f (by decide), h26]
  · rw [fr _ (by decide) (by decide) (by decide) (by decide) (by decide), yMk_n.1]
  · simp (disch := omega) only [zuR_ne, zu_at]
  · simp (disch := omega) only [zuR_ne, zu_at]
  · simp (disch := omega) only [zuR_ne, zu_at]
  · simp (disch := omega) only [zuR_ne, zu_at]
/-- a value more -/
theorem yRR_n {w : yV} (hh : yRh Kd M c0 r) (hM : M ≤ 200) (ht : 200 ≤ top) (h : yRR Kd Sc Nm M c0 r u I J te de re rm tab top st S W) (fr1 : ∀ c, c ≠ 4908 → c ≠ 5744 → c ≠ 5776 → c ≠ 5808 → c ≠ 6032 → I1 c = I c) (fs1 : I1 5744 = I 5744 ∧ I1 5776 = I 5776 ∧ I1 5808 = I 5808) (ff1 : ∀ j, j = 28 ∨ j = 31 ∨ j = 47 ∨ j = 48 ∨ j = 49 → I1 4908 j = I 4908 j) (H : yRp I1 J I2 J2 (c0 + (top - 200)) te de re rm te' de' r u w) (fr : ∀ c, c ≠ 4908 → I' c = I2 c) (ff : ∀ j, j = 19 ∨ j = 21 ∨ j = 26 ∨ j = 28 ∨ j = 31 ∨ j = 47 ∨ j = 48 ∨ j = 49 → I' 4908 j = I2 4908 j) (f1 : I' 4908 36 = nI st.length) (f2 : I' 4908 45 = nI S') (f3 : I' 4908 46 = nI W') (hW : W + ysz w ≤ W') : yRR Kd Sc Nm M c0 r u I' J2 te' de' re rm (yup tab top w) (top + 1) st S' W' := by
  obtain ⟨c, ⟨t1, t2, t3, t4, t5⟩, ⟨-, -, -, g4, g5, g6⟩, ⟨b1, b2, b3, b4⟩, v, s⟩ := h
  obtain ⟨⟨o1, o2⟩, o3, ⟨o4, o5, o6⟩, ⟨o7, o8, o9, o10, o11⟩, g, q⟩ := H
  have ev : c0 + (top - 200) + 1 = c0 + (top + 1 - 200) := by omega
  have g0 : yRg I J I1 J (c0 + (top - 200)) te de re rm := yRg_m fr1
  have g2 : yRg I2 J2 I' J2 (c0 + (top - 200) + 1) te' de' re rm := yRg_m (fun c h1 _ _ _ _ => fr c h1)
  have g' : yRg I J I' J2 (c0 + (top - 200)) te de re rm := yRg_t (Nat.le_refl _) (Nat.le_refl _) (Nat.le_refl _) (Nat.le_refl _) (Nat.le_refl _) g0 (yRg_t (Nat.le_succ _) o7 o9 (Nat.le_refl _) (Nat.le_refl _) g g2)
  have co : ∀ c, c = 4944 ∨ c = 5712 ∨ c = 5008 ∨ c = 5040 → I' c = I c := fun c hc => by
    rw [fr c (by omega), o1 c (by omega), fr1 c (by omega) (by omega) (by omega) (by omega) (by omega)]
  refine ⟨fun i hi => ?_, ⟨?_, ?_, ?_, ?_, ?_⟩, ⟨f1, f2, f3, ?_, ?_, ?_⟩, ⟨by omega, by omega, ?_, by omega⟩, fun k hk => ?_, yRs_m (fun j _ => ?_) (Nat.le_refl _) (Nat.le_refl _) g' s⟩
  · rw [co 4944 (by omega), co 5712 (by omega), co 5008 (by omega), co 5040 (by omega), o2]
    exact c i hi
  · rw [ff 19 (by omega), o4, ev]
  · rw [ff 21 (by omega), o5]
  · rw [ff 26 (by omega), o6]
  · rw [ff 28 (by omega), o3 28 (by decide) (by decide) (by decide) (by decide), ff1 28 (by omega), t4]
  · rw [ff 31 (by omega), o3 31 (by decide) (by decide) (by decide) (by decide), ff1 31 (by omega), t5]
  · rw [ff 47 (by omega), o3 47 (by decide) (by decide) (by decide) (by decide), ff1 47 (by omega), g4]
  · rw [ff 48 (by omega), o3 48 (by decide) (by decide) (by decide) (by decide), ff1 48 (by omega), g5]
  · rw [ff 49 (by omega), o3 49 (by decide) (by decide) (by decide) (by decide), ff1 49 (by omega), g6]
  · have : W ≤ W' := by omega
    have := Nat.mul_le_mul_left 191 this
    omega
  · unfold yup
    by_cases hk' : k = top
    · rw [if_pos hk', hk', hh.2.1 top ht]
      exact yRv_g (Nat.lt_succ_self _) (Nat.le_refl _) (Nat.le_refl _) (Nat.le_refl _) (Nat.le_refl _) g2 q
    · rw [if_neg hk']
      have hk2 : yvl Kd M top k := by unfold yvl at hk ⊢; omega
      exact yRv_g (yRh_l hh ht hk2) o7 o9 (Nat.le_refl _) (Nat.le_refl _) g' (v k hk2)
  · rw [fr 5744 (by decide), fr 5776 (by decide), fr 5808 (by decide), o1 5744 (by omega), o1 5776 (by omega), o1 5808 (by omega), fs1.1, fs1.2.1, fs1.2.2]
    exact ⟨rfl, rfl, rfl⟩
set_option maxRecDepth 20000 in
theorem e218 {k nd rs : Int32} {len : Nat} (hS : zStat P N) (hl : len < 400) (h36 : I 4908 36 = nI len) (hQ : ∀ I' : zI, (∀ c, c ≠ 4908 → c ≠ 5744 → c ≠ 5776 → c ≠ 5808 → I' c = I c) → (∀ j, j ≠ 36 → j ≠ 37 → I' 4908 j = I 4908 j) → I' 4908 36 = nI (len + 1) → (I' 5744 len = k ∧ I' 5776 len = nd ∧ I' 5808 len = rs) → (∀ j, j ≠ len → I' 5744 j = I 5744 j ∧ I' 5776 j = I 5776 j ∧ I' 5808 j = I 5808 j) → Q none (I', J, P, N, n, z)) : zC 218 [.ref 4908, .int k, .int nd, .int rs] (I, J, P, N, n, z) Q := by
  generalize h37 : I 4908 37 = mw
  have gen : ∀ x : Int32, Q none (zu (zu (zu (zu (zu I 5744 len k) 5776 len nd) 5808 len rs) 4908 36 (nI (len + 1))) 4908 37 x, J, P, N, n, z) := fun x => hQ _ (fun c a1 a2 a3 a4 => by rw [zuR_ne a1, zuR_ne a1, zuR_ne a4, zuR_ne a3, zuR_ne a2]) (fun j a1 a2 => by rw [zu_nj a2, zu_nj a1, zuR_ne (by decide), zuR_ne (by decide), zuR_ne (by decide)]) (by rw [zu_nj (by decide), zu_at]) (by simp (disch := omega) only [zuR_ne, zu_at, and_self]) (fun j hj => by simp (disch := omega) only [zuR_ne, zu_nj, and_self])
  by_cases hm : nI (len + 1) ≤ mw
  · have q := gen mw
    have t : (nI (len + 1) ≤ mw) = True := eq_true hm
    simp (decide := true) (disch := omega) only [h36, h37, zuR_ne, zu_nj, zu_at, t, zi218, zt218, zo218_0, zo218_1, zo218_2, zy_ldI, zy_ldL, zy_ldA, zy_stI, zy_stL, zy_stA, zy_cI, zy_cL, zy_nul, zy_inc, zy_bI, zy_bL, zy_sL, zy_un, zy_cmp, zy_dup, zy_dup2, zy_pop, zy_pop2, zy_jn, zy_jnn, zy_go, zy_fal, zy_tsw, zy_lsw, zy_get, zy_put, zy_ald, zy_ast, zy_len, zy_newa, zy_new, zy_cal, zy_ret, zy_tak, zy_cst, zy_acp, zy_oini, zy_cln, zy_thr, zy_bad, zy_lco, zy_if0, zy_ic0, zy_if1, zy_ic1, zy_if2, zy_ic2, zy_if3, zy_ic3, zy_if4, zy_ic4, zy_if5, zy_ic5, zK_go, zK_to, zK_end, zK_callH, zK_iteC, zK_none, zsLd, zsSt, zsInc, zsBI, zsBL, zsSL, zsUn, zsCmp, zsDup, zsDup2, zsPop, zsPop2, zsJn, zsTsw, zsLsw, zsGet, zsPut, zsAld, zsAst, zsLen, zsNewa, zsCal, zsRet, zsCst, zsAcp, zsOini, zsCln, zsLco, zsThr, zxBI, zxBL, zxSL, zxU, zset1, zset2, zclr, zcat, zmake_mk, zcomp, zH_i, zH_l, zH_r, zH_u, zH_n, List.set_cons_zero, List.set_cons_succ, List.getElem?_cons_zero, List.getElem?_cons_succ, List.length_cons, List.length_nil, List.take_succ_cons, List.take_zero, List.drop_succ_cons, List.drop_zero, List.reverse_cons, List.reverse_nil, List.nil_append, List.cons_append, List.map_cons, List.map_nil, List.sum_cons, List.sum_nil, Option.toList_some, Option.toList_none, Value.category, Nat.reduceAdd, Nat.reduceMul, Nat.reduceMod, Nat.reduceDiv, Nat.reduceSub, Nat.reduceLT, Nat.reduceLeDiff, Nat.reduceEqDiff, Nat.zero_le, Nat.le_refl, Int32.reduceToNatClampNeg, Int32.reduceLT, Int32.reduceLE, Int32.reduceAdd, Int32.reduceSub, Int32.reduceMul, ↓reduceIte, reduceCtorEq, Nat.add_zero, Nat.zero_add, true_or, or_true, false_or, or_false, true_and, and_true, false_and, and_false, not_true_eq_false, not_false_eq_true, if_true, if_false, true_implies, false_implies, implies_true, forall_const, false_imp_iff, true_imp_iff, va_rf, zlay, zent, List.replicate_zero, List.append_nil, List.replicate_succ, List.length_append, ne_eq, Option.some.injEq, Value.int.injEq, Value.long.injEq, Int32.reduceOfNat, Int32.reduceToInt, Int.reduceLT, Int.reduceLE, Int.reduceSub, Int.reduceToNat, Int.reduceAdd, Int.reduceNeg, Int32.reduceDiv, Int64.reduceAdd, Int64.reduceSub, lg_cmp_ge, lg_cmp_le, lg_cmp_gt, lg_cmp_lt, lg_cmp_eq, wlt_t, wlt_f, wle_t, wle_f, wmod, wI_lt, wI_le, wI_eq, wI_neg, wI_pos, wI_cl, wI_ge, wI_po, w64_lt, w64_le, w64_eq, w64_lt0, w64_le0, w64_eq0, w64_32, zc317, zc319, wI_add, wI_a1, wI_s1, wI_e0, wI_m8, wI_m128, wI_m64, wI_m190, not_true_eq_false, not_false_eq_true, sP_4908_33 hS, sP_4908_34 hS, sP_4908_35 hS, sN_5744 hS, sN_5776 hS, sN_5808 hS, sN_6417 hS]
    exact q
  · have q := gen (nI (len + 1))
    simp (decide := true) (disch := omega) only [h36, h37, zuR_ne, zu_nj, zu_at, hm, zi218, zt218, zo218_0, zo218_1, zo218_2, zy_ldI, zy_ldL, zy_ldA, zy_stI, zy_stL, zy_stA, zy_cI, zy_cL, zy_nul, zy_inc, zy_bI, zy_bL, zy_sL, zy_un, zy_cmp, zy_dup, zy_dup2, zy_pop, zy_pop2, zy_jn, zy_jnn, zy_go, zy_fal, zy_tsw, zy_lsw, zy_get, zy_put, zy_ald, zy_ast, zy_len, zy_newa, zy_new, zy_cal, zy_ret, zy_tak, zy_cst, zy_acp, zy_oini, zy_cln, zy_thr, zy_bad, zy_lco, zy_if0, zy_ic0, zy_if1, zy_ic1, zy_if2, zy_ic2, zy_if3, zy_ic3, zy_if4, zy_ic4, zy_if5, zy_ic5, zK_go, zK_to, zK_end, zK_callH, zK_iteC, zK_none, zsLd, zsSt, zsInc, zsBI, zsBL, zsSL, zsUn, zsCmp, zsDup, zsDup2, zsPop, zsPop2, zsJn, zsTsw, zsLsw, zsGet, zsPut, zsAld, zsAst, zsLen, zsNewa, zsCal, zsRet, zsCst, zsAcp, zsOini, zsCln, zsLco, zsThr, zxBI, zxBL, zxSL, zxU, zset1, zset2, zclr, zcat, zmake_mk, zcomp, zH_i, zH_l, zH_r, zH_u, zH_n, List.set_cons_zero, List.set_cons_succ, List.getElem?_cons_zero, List.getElem?_cons_succ, List.length_cons, List.length_nil, List.take_succ_cons, List.take_zero, List.drop_succ_cons, List.drop_zero, List.reverse_cons, List.reverse_nil, List.nil_append, List.cons_append, List.map_cons, List.map_nil, List.sum_cons, List.sum_nil, Option.toList_some, Option.toList_none, Value.category, Nat.reduceAdd, Nat.reduceMul, Nat.reduceMod, Nat.reduceDiv, Nat.reduceSub, Nat.reduceLT, Nat.reduceLeDiff, Nat.reduceEqDiff, Nat.zero_le, Nat.le_refl, Int32.reduceToNatClampNeg, Int32.reduceLT, Int32.reduceLE, Int32.reduceAdd, Int32.reduceSub, Int32.reduceMul, ↓reduceIte, reduceCtorEq, Nat.add_zero, Nat.zero_add, true_or, or_true, false_or, or_false, true_and, and_true, false_and, and_false, not_true_eq_false, not_false_eq_true, if_true, if_false, true_implies, false_implies, implies_true, forall_const, false_imp_iff, true_imp_iff, va_rf, zlay, zent, List.replicate_zero, List.append_nil, List.replicate_succ, List.length_append, ne_eq, Option.some.injEq, Value.int.injEq, Value.long.injEq, Int32.reduceOfNat, Int32.reduceToInt, Int.reduceLT, Int.reduceLE, Int.reduceSub, Int.reduceToNat, Int.reduceAdd, Int.reduceNeg, Int32.reduceDiv, Int64.reduceAdd, Int64.reduceSub, lg_cmp_ge, lg_cmp_le, lg_cmp_gt, lg_cmp_lt, lg_cmp_eq, wlt_t, wlt_f, wle_t, wle_f, wmod, wI_lt, wI_le, wI_eq, wI_neg, wI_pos, wI_cl, wI_ge, wI_po, w64_lt, w64_le, w64_eq, w64_lt0, w64_le0, w64_eq0, w64_32, zc317, zc319, wI_add, wI_a1, wI_s1, wI_e0, wI_m8, wI_m128, wI_m64, wI_m190, not_true_eq_false, not_false_eq_true, sP_4908_33 hS, sP_4908_34 hS, sP_4908_35 hS, sN_5744 hS, sN_5776 hS, sN_5808 hS, sN_6417 hS]
    exact q
end
