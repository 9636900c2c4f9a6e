-- needs: 01 02.names 03 04 05 18 19 20 22 23 24 25 30 31 32 33 36 40 42 43 44 46 47 60 61 62 63 64 79f 79g 79h 79i 79j 79k 79l 79m 79n 79o 79p 79q 79r 79s 79t 79u
/-! DATA as rows: how many nodes, kinds, counts, numbers, sizes, levels, bytes -/
abbrev yD : Type := Nat × (Nat → Nat) × (Nat → Nat) × (Nat → Int64) × (Nat → Nat) × (Nat → Nat) × (Nat → Nat → Int32)
/-- one node, then a row behind it -/
def yhd {α : Type} (a : α) (f : Nat → α) (j : Nat) : α := if j = 0 then a else f j
theorem yhd_0 {α : Type} {a : α} {f : Nat → α} : yhd a f 0 = a := rfl
theorem yhd_s {α : Type} {a : α} {f : Nat → α} {j : Nat} (h : j ≠ 0) : yhd a f j = f j := if_neg h
def yint (x : Int64) : yD := (1, fun _ => 0, fun _ => 0, fun _ => x, fun _ => 1, fun _ => 1, fun _ _ => 0)
def yemp : yD := (1, fun _ => 4, fun _ => 0, fun _ => 0, fun _ => 1, fun _ => 1, fun _ _ => 0)
def ybyt (n : Nat) (y : Nat → Int32) : yD := (1, fun _ => 2, fun _ => n, fun _ => 0, fun _ => 1, fun _ => 1, fun _ => y)
/-- another kind and number -/
def yas (f : Nat) (t : Int64) : yD → yD
  | (K, F, C, T, Z, L, Y) => (K, yhd f F, C, yhd t T, Z, L, Y)
/-- what lies at node k -/
def ysub (k : Nat) : yD → yD
  | (_, F, C, T, Z, L, Y) => (Z k, fun j => F (k + j), fun j => C (k + j), fun j => T (k + j), fun j => Z (k + j), fun j => L (k + j) + 1 - L k, fun j => Y (k + j))
/-- a LIST without its first -/
def yoth : yD → yD
  | (K, F, C, T, Z, L, Y) => (K - Z 1, yhd 4 (fun j => F (j + Z 1)), yhd (C 0 - 1) (fun j => C (j + Z 1)), yhd 0 (fun j => T (j + Z 1)), yhd (K - Z 1) (fun j => Z (j + Z 1)), yhd 1 (fun j => L (j + Z 1)), fun j => Y (j + Z 1))
/-- two rows, one behind the other, from place 1 on -/
def ytw {α : Type} (n : Nat) (f g : Nat → α) (j : Nat) : α := if j ≤ n then f (j - 1) else g (j - n)
/-- a LIST with one more ahead -/
def ycon : yD → yD → yD
  | (K, F, C, T, Z, L, Y), (K', F', C', T', Z', L', Y') => (K + K', yhd 4 (ytw K F F'), yhd (C' 0 + 1) (ytw K C C'), yhd 0 (ytw K T T'), yhd (K + K') (ytw K Z Z'), yhd 1 (ytw K (fun j => L j + 1) L'), ytw K Y Y')
/-- bytes are bytes -/
def yby (F C : Nat → Nat) (Y : Nat → Nat → Int32) (K : Nat) : Prop := ∀ j, j < K → F j = 2 → ∀ i, i < C j → (Y j i).toInt8.toInt32 = Y j i
def ywf : yD → Prop
  | (K, F, C, T, Z, L, Y) => zDt F C Z L K ∧ yby F C Y K
theorem zWi_ge {Z : Nat → Nat} {j : Nat} : ∀ i, j + 1 ≤ zWi Z j i := by
  intro i
  induction i with
  | zero => exact Nat.le_refl _
  | succ i ih => show j + 1 ≤ zWi Z j i + Z (zWi Z j i); omega
/-- the same rows elsewhere -/
theorem zWi_sh {Z Z' : Nat → Nat} {j j' c : Nat} (h : ∀ i, i < c → Z' (j' + (zWi Z j i - j)) = Z (zWi Z j i)) : ∀ i, i ≤ c → zWi Z' j' i = j' + (zWi Z j i - j) := by
  intro i
  induction i with
  | zero =>
    intro _
    show j' + 1 = j' + (j + 1 - j)
    omega
  | succ i ih =>
    intro hi
    have e := ih (by omega)
    have h' := h i (by omega)
    have g := zWi_ge (Z := Z) (j := j) i
    show zWi Z' j' i + Z' (zWi Z' j' i) = j' + (zWi Z j i + Z (zWi Z j i) - j)
    rw [e, h']
    omega
/-- a node's facts, taken elsewhere: what lies at x lies at x + s, or at x - s -/
theorem zDt_mv {F C Z L F' C' Z' L' : Nat → Nat} {K K' j j' : Nat} (D : zDt F C Z L K) (hj : j < K) (lj : L j ≤ L' j' + (L j - 1)) (hd : ∀ x, j ≤ x → x < j + Z j → F' (j' + (x - j)) = F x ∧ C' (j' + (x - j)) = C x ∧ Z' (j' + (x - j)) = Z x ∧ L' (j' + (x - j)) + L j = L x + L' j') (hK : j' + Z j ≤ K') (hL : L' j' ≤ 12) :
    (1 ≤ Z' j' ∧ j' + Z' j' ≤ K') ∧ (F' j' = 0 ∨ F' j' = 2 ∨ F' j' = 4 ∨ F' j' = 5 ∨ F' j' = 6) ∧ (C' j' ≤ 199 ∧ (F' j' = 0 → C' j' = 0) ∧ (F' j' = 2 → C' j' ≤ 64) ∧ (F' j' = 5 → C' j' % 2 = 0)) ∧ zWi Z' j' (zKc (F' j') (C' j')) = j' + Z' j' ∧ (∀ i, i < zKc (F' j') (C' j') → zWi Z' j' i < K' ∧ L' (zWi Z' j' i) = L' j' + 1) ∧ L' j' ≤ 12 := by
  obtain ⟨⟨z1, z2⟩, f1, c1, w1, w2, l1⟩ := D.2 j hj
  obtain ⟨e1, e2, e3, e4⟩ := hd j (Nat.le_refl _) (by omega)
  rw [Nat.sub_self, Nat.add_zero] at e1 e2 e3 e4
  rw [e1, e2, e3]
  have hin : ∀ i, i < zKc (F j) (C j) → j ≤ zWi Z j i ∧ zWi Z j i < j + Z j := by
    have mono : ∀ d i, i + d = zKc (F j) (C j) → zWi Z j i + d ≤ j + Z j := by
      intro d
      induction d with
      | zero => intro i hi; rw [show i = zKc (F j) (C j) by omega, w1]; omega
      | succ d ih =>
        intro i hi
        have a := ih (i + 1) (by omega)
        have b := (D.2 _ (w2 i (by omega)).1).1.1
        have : zWi Z j (i + 1) = zWi Z j i + Z (zWi Z j i) := rfl
        omega
    intro i hi
    have := mono (zKc (F j) (C j) - i) i (by omega)
    have := zWi_ge (Z := Z) (j := j) i
    omega
  have sh := zWi_sh (Z := Z) (Z' := Z') (j := j) (j' := j') (c := zKc (F j) (C j)) (fun i hi => (hd _ (hin i hi).1 (hin i hi).2).2.2.1)
  refine ⟨⟨z1, by omega⟩, f1, c1, ?_, fun i hi => ?_, hL⟩
  · rw [sh _ (Nat.le_refl _), w1]
    omega
  · rw [sh i (by omega)]
    obtain ⟨h1, h2⟩ := hin i hi
    have h3 := (hd _ h1 h2).2.2.2
    have h4 := (w2 i hi).2
    exact ⟨by omega, by omega⟩
theorem ywf_int {x : Int64} : ywf (yint x) := by
  refine ⟨⟨⟨by omega, by omega, rfl, rfl⟩, fun j hj => ?_⟩, fun j _ h => by cases h⟩
  have : j = 0 := by omega
  subst this
  dsimp only
  exact ⟨by omega, Or.inl rfl, ⟨by omega, fun _ => rfl, fun h => by omega, fun h => by omega⟩, rfl, fun i hi => absurd hi (Nat.not_lt_zero i), by omega⟩
theorem ywf_emp : ywf yemp := by
  refine ⟨⟨⟨by omega, by omega, rfl, rfl⟩, fun j hj => ?_⟩, fun j _ h => by cases h⟩
  have : j = 0 := by omega
  subst this
  dsimp only
  exact ⟨by omega, Or.inr (Or.inr (Or.inl rfl)), ⟨by omega, fun _ => rfl, fun h => by omega, fun h => by omega⟩, rfl, fun i hi => absurd hi (Nat.not_lt_zero i), by omega⟩
theorem ywf_byt {n : Nat} {y : Nat → Int32} (hn : n ≤ 64) (hy : ∀ i, i < n → (y i).toInt8.toInt32 = y i) : ywf (ybyt n y) := by
  refine ⟨⟨⟨by omega, by omega, rfl, rfl⟩, fun j hj => ?_⟩, fun j _ _ => hy⟩
  have : j = 0 := by omega
  subst this
  dsimp only
  exact ⟨by omega, Or.inr (Or.inl rfl), ⟨by omega, fun h => by omega, fun _ => hn, fun h => by omega⟩, rfl, fun i hi => absurd hi (Nat.not_lt_zero i), by omega⟩
section
variable {F C Z L F' C' Z' L' : Nat → Nat} {T T' : Nat → Int64} {Y Y' : Nat → Nat → Int32} {K K' : Nat}
theorem ywf_as {f : Nat} {t : Int64} (h : ywf (K, F, C, T, Z, L, Y)) (h0 : 4 ≤ F 0) (hf : f = 4 ∨ f = 5 ∨ f = 6) (h5 : f = 5 → C 0 % 2 = 0) : ywf (yas f t (K, F, C, T, Z, L, Y)) := by
  obtain ⟨D, B⟩ := h
  refine ⟨⟨D.1, fun j hj => ?_⟩, fun j hj hj2 => ?_⟩
  · obtain ⟨z, f1, c1, w1, w2, l1⟩ := D.2 j hj
    by_cases h : j = 0
    · subst h
      rw [yhd_0]
      have e : zKc f (C 0) = zKc (F 0) (C 0) := by unfold zKc; rw [if_pos (by omega), if_pos h0]
      rw [e]
      exact ⟨z, by omega, ⟨c1.1, by omega, by omega, fun x => h5 x⟩, w1, w2, l1⟩
    · rw [yhd_s h]
      exact ⟨z, f1, c1, w1, w2, l1⟩
  · by_cases h : j = 0
    · subst h
      rw [yhd_0] at hj2
      omega
    · rw [yhd_s h] at hj2
      exact B j hj hj2
/-- within a part levels are not lower, and nothing reaches beyond it -/
theorem zDt_lv (D : zDt F C Z L K) : ∀ m k, Z k ≤ m → k < K → ∀ x, k ≤ x → x < k + Z k → L k ≤ L x ∧ x + Z x ≤ k + Z k := by
  intro m
  induction m with
  | zero => intro k hm hk x h1 h2; omega
  | succ m ih =>
    intro k hm hk x h1 h2
    obtain ⟨⟨z1, z2⟩, f1, c1, w1, w2, l1⟩ := D.2 k hk
    by_cases hx : x = k
    · rw [hx]; exact ⟨Nat.le_refl _, Nat.le_refl _⟩
    have go : ∀ c, c ≤ zKc (F k) (C k) → x < zWi Z k c → L k ≤ L x ∧ x + Z x ≤ k + Z k := by
      intro c
      induction c with
      | zero => intro _ h; have : zWi Z k 0 = k + 1 := rfl; omega
      | succ c ihc =>
        intro hc h
        by_cases hl : x < zWi Z k c
        · exact ihc (by omega) hl
        · have e : zWi Z k (c + 1) = zWi Z k c + Z (zWi Z k c) := rfl
          have g := zWi_ge (Z := Z) (j := k) c
          have w := w2 c (by omega)
          have le : zWi Z k c + Z (zWi Z k c) ≤ k + Z k := by
            have mono : ∀ d i, i + d = zKc (F k) (C k) → zWi Z k i ≤ k + Z k := by
              intro d
              induction d with
              | zero => intro i hi; rw [show i = zKc (F k) (C k) by omega, w1]; exact Nat.le_refl _
              | succ d ihd =>
                intro i hi
                have a := ihd (i + 1) (by omega)
                have : zWi Z k (i + 1) = zWi Z k i + Z (zWi Z k i) := rfl
                omega
            have := mono (zKc (F k) (C k) - (c + 1)) (c + 1) (by omega)
            omega
          have := ih (zWi Z k c) (by omega) w.1 x (by omega) (by omega)
          omega
    exact go (zKc (F k) (C k)) (Nat.le_refl _) (by omega)
theorem zDt_l1 (D : zDt F C Z L K) {x : Nat} (hx : x < K) : 1 ≤ L x := by
  have := (zDt_lv D K 0 (by have := D.1; omega) (by have := D.1; omega) x (Nat.zero_le _) (by have := D.1; omega)).1
  have := D.1
  omega
theorem ywf_sub {k : Nat} (h : ywf (K, F, C, T, Z, L, Y)) (hk : k < K) : ywf (ysub k (K, F, C, T, Z, L, Y)) := by
  obtain ⟨D, B⟩ := h
  obtain ⟨⟨z1, z2⟩, -⟩ := D.2 k hk
  have hK := D.1.2.1
  refine ⟨⟨⟨z1, by omega, rfl, ?_⟩, fun j hj => ?_⟩, fun j hj => B (k + j) (by omega)⟩
  · show L k + 1 - L k = 1
    omega
  · have lv := fun x h1 h2 => zDt_lv D (Z k) k (Nat.le_refl _) hk x h1 h2
    have l1 := zDt_l1 D hk
    have lj := (lv (k + j) (by omega) (by omega)).1
    have lz := (lv (k + j) (by omega) (by omega)).2
    obtain ⟨⟨y1, y2⟩, -, -, -, -, l2⟩ := D.2 (k + j) (by omega)
    refine zDt_mv (F' := fun j => F (k + j)) (C' := fun j => C (k + j)) (Z' := fun j => Z (k + j)) (L' := fun j => L (k + j) + 1 - L k) (K' := Z k) D (j := k + j) (by omega) (by show L (k + j) ≤ L (k + j) + 1 - L k + _; omega) (fun x h1 h2 => ?_) ?_ (by show L (k + j) + 1 - L k ≤ 12; omega)
    · have e : k + (j + (x - (k + j))) = x := by omega
      show F _ = _ ∧ C _ = _ ∧ Z _ = _ ∧ L _ + 1 - L k + L (k + j) = L x + (L (k + j) + 1 - L k)
      rw [e]
      have q := (lv x (by omega) (by have := (lv (k + j) (by omega) (by omega)).2; omega)).1
      exact ⟨rfl, rfl, rfl, by omega⟩
    · show j + Z (k + j) ≤ Z k
      omega
/-- places of what a list holds -/
theorem zDt_le (D : zDt F C Z L K) {k : Nat} (hk : k < K) : ∀ c, c ≤ zKc (F k) (C k) → zWi Z k c ≤ k + Z k := by
  have mono : ∀ d i, i + d = zKc (F k) (C k) → zWi Z k i ≤ k + Z k := by
    intro d
    induction d with
    | zero => intro i hi; rw [show i = zKc (F k) (C k) by omega, (D.2 k hk).2.2.2.1]; exact Nat.le_refl _
    | succ d ihd =>
      intro i hi
      have a := ihd (i + 1) (by omega)
      have : zWi Z k (i + 1) = zWi Z k i + Z (zWi Z k i) := rfl
      omega
  exact fun c hc => mono (zKc (F k) (C k) - c) c (by omega)
theorem ywf_oth (h : ywf (K, F, C, T, Z, L, Y)) (h4 : F 0 = 4) (h0 : C 0 ≠ 0) : ywf (yoth (K, F, C, T, Z, L, Y)) ∧ Z 1 < K := by
  obtain ⟨D, B⟩ := h
  have hD := D.1
  obtain ⟨⟨z1, z2⟩, f1, c1, w1, w2, l1⟩ := D.2 0 (by omega)
  have ek : zKc (F 0) (C 0) = C 0 := by unfold zKc; rw [if_pos (by omega)]
  rw [ek] at w1 w2
  have k1 : 1 < K := (w2 0 (by omega)).1
  have z11 := (D.2 1 k1).1
  have hlt : Z 1 < K := by omega
  refine ⟨⟨⟨⟨by omega, by omega, rfl, rfl⟩, fun j hj => ?_⟩, fun j hj hj2 => ?_⟩, hlt⟩
  · by_cases h : j = 0
    · subst h
      rw [yhd_0, yhd_0, yhd_0, yhd_0]
      have e1 : zKc 4 (C 0 - 1) = C 0 - 1 := by unfold zKc; rw [if_pos (by omega)]
      rw [e1]
      have sh : ∀ i, i ≤ C 0 - 1 → zWi (yhd (K - Z 1) (fun j => Z (j + Z 1))) 0 i + Z 1 = zWi Z 0 (i + 1) := by
        intro i
        induction i with
        | zero => intro _; rfl
        | succ i ih =>
          intro hi
          have e := ih (by omega)
          have g := zWi_ge (Z := yhd (K - Z 1) (fun j => Z (j + Z 1))) (j := 0) i
          show zWi (yhd (K - Z 1) (fun j => Z (j + Z 1))) 0 i + yhd (K - Z 1) (fun j => Z (j + Z 1)) (zWi (yhd (K - Z 1) (fun j => Z (j + Z 1))) 0 i) + Z 1 = zWi Z 0 (i + 1) + Z (zWi Z 0 (i + 1))
          rw [yhd_s (by omega), ← e]
          omega
      refine ⟨⟨by omega, by omega⟩, by omega, ⟨by omega, by omega, by omega, by omega⟩, ?_, fun i hi => ?_, by omega⟩
      · have := sh (C 0 - 1) (Nat.le_refl _)
        rw [show C 0 - 1 + 1 = C 0 by omega, w1] at this
        omega
      · have e := sh i (by omega)
        have g := zWi_ge (Z := yhd (K - Z 1) (fun j => Z (j + Z 1))) (j := 0) i
        obtain ⟨a1, a2⟩ := w2 (i + 1) (by omega)
        refine ⟨by omega, ?_⟩
        rw [yhd_s (by omega), e, a2]
        omega
    · have hj : j < K - Z 1 := hj
      obtain ⟨⟨y1, y2⟩, -, -, -, -, l2⟩ := D.2 (j + Z 1) (by omega)
      refine zDt_mv D (j := j + Z 1) (by omega) ?_ (fun x h1 h2 => ?_) (by omega) ?_
      · rw [yhd_s h]; omega
      · rw [yhd_s (by omega), yhd_s (by omega), yhd_s (by omega), yhd_s (by omega), yhd_s h, show j + (x - (j + Z 1)) + Z 1 = x by omega]
        exact ⟨rfl, rfl, rfl, by omega⟩
      · rw [yhd_s h]; exact l2
  · by_cases h : j = 0
    · subst h
      rw [yhd_0] at hj2
      omega
    · have hj : j < K - Z 1 := hj
      rw [yhd_s h] at hj2 ⊢
      exact B (j + Z 1) (by omega) hj2
theorem ytw_a {α : Type} {n j : Nat} {f g : Nat → α} (h : j ≤ n) : ytw n f g j = f (j - 1) := if_pos h
theorem ytw_b {α : Type} {n j : Nat} {f g : Nat → α} (h : n < j) : ytw n f g j = g (j - n) := if_neg (by omega)
theorem ywf_con (h : ywf (K, F, C, T, Z, L, Y)) (h' : ywf (K', F', C', T', Z', L', Y')) (h4 : F' 0 = 4) (hK : K + K' ≤ 200) (hL : ∀ j, j < K → L j < 12) : ywf (ycon (K, F, C, T, Z, L, Y) (K', F', C', T', Z', L', Y')) := by
  obtain ⟨D, B⟩ := h
  obtain ⟨D', B'⟩ := h'
  have hD := D.1
  have hD' := D'.1
  obtain ⟨⟨z1, z2⟩, f1, c1, w1, w2, l1⟩ := D'.2 0 (by omega)
  have ek : zKc (F' 0) (C' 0) = C' 0 := by unfold zKc; rw [if_pos (by omega)]
  rw [ek] at w1 w2
  refine ⟨⟨⟨by omega, hK, rfl, rfl⟩, fun j hj => ?_⟩, fun j hj hj2 => ?_⟩
  · by_cases h : j = 0
    · subst h
      rw [yhd_0, yhd_0, yhd_0, yhd_0]
      have e1 : zKc 4 (C' 0 + 1) = C' 0 + 1 := by unfold zKc; rw [if_pos (by omega)]
      rw [e1]
      have sh : ∀ i, i ≤ C' 0 → zWi (yhd (K + K') (ytw K Z Z')) 0 (i + 1) = K + zWi Z' 0 i := by
        intro i
        induction i with
        | zero =>
          intro _
          show 0 + 1 + yhd (K + K') (ytw K Z Z') (0 + 1) = K + (0 + 1)
          rw [yhd_s (by omega), ytw_a (by omega)]
          show 0 + 1 + Z 0 = _
          omega
        | succ i ih =>
          intro hi
          have e := ih (by omega)
          have g := zWi_ge (Z := Z') (j := 0) i
          show zWi (yhd (K + K') (ytw K Z Z')) 0 (i + 1) + yhd (K + K') (ytw K Z Z') (zWi (yhd (K + K') (ytw K Z Z')) 0 (i + 1)) = K + (zWi Z' 0 i + Z' (zWi Z' 0 i))
          rw [e, yhd_s (by omega), ytw_b (by omega), show K + zWi Z' 0 i - K = zWi Z' 0 i by omega]
          omega
      have lt := zWi_lt (Z := Z') (j := 0) (C' 0) (fun i hi => (D'.2 _ (w2 i hi).1).1.1)
      refine ⟨⟨by omega, by omega⟩, by omega, ⟨by omega, by omega, by omega, by omega⟩, ?_, fun i hi => ?_, by omega⟩
      · have := sh (C' 0) (Nat.le_refl _)
        rw [this, w1]
        omega
      · cases i with
        | zero =>
          show 0 + 1 < K + K' ∧ yhd 1 (ytw K (fun j => L j + 1) L') (0 + 1) = 1 + 1
          rw [yhd_s (by omega), ytw_a (by omega)]
          refine ⟨by omega, ?_⟩
          show L 0 + 1 = 1 + 1
          omega
        | succ i =>
          have e := sh i (by omega)
          have g := zWi_ge (Z := Z') (j := 0) i
          obtain ⟨a1, a2⟩ := w2 i (by omega)
          rw [e, yhd_s (by omega), ytw_b (by omega), show K + zWi Z' 0 i - K = zWi Z' 0 i by omega, a2]
          exact ⟨by omega, by omega⟩
    · have hj : j < K + K' := hj
      by_cases hs : j ≤ K
      · obtain ⟨⟨y1, y2⟩, -, -, -, -, l2⟩ := D.2 (j - 1) (by omega)
        have l3 := hL (j - 1) (by omega)
        refine zDt_mv D (j := j - 1) (by omega) ?_ (fun x h1 h2 => ?_) (by omega) ?_
        · rw [yhd_s h, ytw_a hs]; omega
        · rw [yhd_s (by omega), yhd_s (by omega), yhd_s (by omega), yhd_s (by omega), yhd_s h, ytw_a (by omega), ytw_a (by omega), ytw_a (by omega), ytw_a (by omega), ytw_a (by omega), show j + (x - (j - 1)) - 1 = x by omega]
          exact ⟨rfl, rfl, rfl, by omega⟩
        · rw [yhd_s h, ytw_a hs]; omega
      · obtain ⟨⟨y1, y2⟩, -, -, -, -, l2⟩ := D'.2 (j - K) (by omega)
        refine zDt_mv D' (j := j - K) (by omega) ?_ (fun x h1 h2 => ?_) (by omega) ?_
        · rw [yhd_s h, ytw_b (by omega)]; omega
        · rw [yhd_s (by omega), yhd_s (by omega), yhd_s (by omega), yhd_s (by omega), yhd_s h, ytw_b (by omega), ytw_b (by omega), ytw_b (by omega), ytw_b (by omega), ytw_b (by omega), show j + (x - (j - K)) - K = x by omega]
          exact ⟨rfl, rfl, rfl, by omega⟩
        · rw [yhd_s h, ytw_b (by omega)]; exact l2
  · by_cases h : j = 0
    · subst h
      rw [yhd_0] at hj2
      omega
    · have hj : j < K + K' := hj
      rw [yhd_s h] at hj2 ⊢
      by_cases hs : j ≤ K
      · rw [ytw_a hs] at hj2 ⊢
        rw [ytw_a hs]
        exact B (j - 1) (by omega) hj2
      · rw [ytw_b (by omega)] at hj2 ⊢
        rw [ytw_b (by omega)]
        exact B' (j - K) (by omega) hj2
end
