/-! What holds between two calls. -/
def zsJ (f : Nat → Int64) : Nat → Int64
  | 0 => 0
  | k + 1 => zsJ f k + f k
def zsN (f : Nat → Nat) : Nat → Nat
  | 0 => 0
  | k + 1 => zsN f k + f k
/-- the numbers: length of the tape, outputs, endowed ones, height, blocks to undo, scripts, depth. I, J hold the class, A, B the reference -/
def zVal (I : zI) (J : zJ) (A : zI) (B : zJ) (t m e h u s d : Nat) : Prop :=
  (I 11 9 = nI t ∧ I 2115 2 = nI m ∧ I 2115 3 = nI e ∧ I 2115 4 = nI h ∧ I 2115 5 = nI u ∧ I 11 8 = nI s ∧ I 2115 1 = nI d) ∧
  (A 3118 2 = nI t ∧ A 3118 11 = nI m ∧ A 3118 12 = nI e ∧ A 3118 23 = nI h ∧ A 3118 24 = nI u ∧ A 3118 3 = nI s ∧ A 3118 0 = nI d) ∧
  (t ≤ 4096 ∧ m ≤ 1024 ∧ e ≤ m ∧ u ≤ h ∧ u ≤ d ∧ 1 ≤ d ∧ d ≤ 64 ∧ s ≤ 32) ∧
  (I 11 10 = A 3118 13 ∧ (A 3118 13 = 0 ∨ A 3118 13 = 1) ∧ I 11 11 = A 3118 28 ∧ J 11 12 = B 3118 29)
/-- the pot and the counts, and what they were; ap and tk count what was applied and taken at a height, c bounds them -/
def zSum (I : zI) (J : zJ) (A : zI) (B : zJ) (h u c : Nat) : Prop := ∃ ap tk : Nat → Nat,
  J 2115 6 = zsJ (B 3697) (h + 1) ∧ I 2115 7 = nI (zsN ap (h + 1)) ∧ I 2115 8 = nI (zsN tk (h + 1)) ∧
  (∀ i, i ≤ h → h ≤ i + u → J 2193 (i % 65) = zsJ (B 3697) i ∧ I 2224 (i % 65) = nI (zsN ap i) ∧ I 2256 (i % 65) = nI (zsN tk i)) ∧
  (∀ k, k ≤ h → A 3728 k = nI (ap k) ∧ A 3760 k = nI (tk k)) ∧ h ≤ c ∧ zsN ap (h + 1) ≤ c ∧ zsN tk (h + 1) ≤ c
/-- the tape: bytes, the same ones -/
def zTap (I A : zI) (t : Nat) : Prop := ∀ j, j < t → I 239 j = A 3151 j ∧ (A 3151 j).toInt8.toInt32 = A 3151 j
def zLat (I A : zI) : Prop := (A 3118 30 < 0 ∧ ∀ j, j < 8 → I 3088 j = -1) ∨ (¬ A 3118 30 < 0 ∧ ∀ j, j < 8 → I 3088 j = A 3118 (30 + j))
/-- output k: g 0 .. g 5 number its cells (output, coins, policies, names, amounts, datum), g 6 its coins, g 7 its bytes -/
def zO1 (I : zI) (J : zJ) (P : zP) (N : Nat → Nat) (A : zI) (B : zJ) (g : Nat → Nat → Nat) (n k : Nat) : Prop :=
  (P 2164 k = some (32 * g 0 k + 6) ∧ P (32 * g 0 k + 6) 1 = some (32 * g 1 k + 1) ∧ P (32 * g 0 k + 6) 2 = some (32 * g 5 k + 15) ∧
    P (32 * g 1 k + 1) 0 = some (32 * g 2 k + 16) ∧ P (32 * g 1 k + 1) 1 = some (32 * g 3 k + 17) ∧ P (32 * g 1 k + 1) 2 = some (32 * g 4 k + 17)) ∧
  (I (32 * g 0 k + 6) 0 = A 3408 k ∧ I (32 * g 0 k + 6) 3 = A 3632 k ∧ I (32 * g 0 k + 6) 4 = A 3664 k ∧ I (32 * g 1 k + 1) 3 = nI (g 6 k)) ∧
  (A 3440 k = nI (g 6 k) ∧ A 3600 k = nI (g 7 k)) ∧
  (N (32 * g 5 k + 15) = g 7 k ∧ N (32 * g 2 k + 16) = g 6 k ∧ N (32 * g 3 k + 17) = g 6 k ∧ N (32 * g 4 k + 17) = g 6 k) ∧
  (g 6 k ≤ 8 ∧ g 7 k ≤ 128) ∧
  (∀ j, j < g 6 k → I (32 * g 2 k + 16) j = A 3472 (8 * k + j) ∧ J (32 * g 3 k + 17) j = B 3505 (8 * k + j) ∧ J (32 * g 4 k + 17) j = B 3537 (8 * k + j)) ∧
  (∀ j, j < g 7 k → I (32 * g 5 k + 15) j = A 3567 (128 * k + j)) ∧
  (∀ i, i < 6 → 201 ≤ g i k ∧ g i k < n)
def zOuts (I : zI) (J : zJ) (P : zP) (N : Nat → Nat) (A : zI) (B : zJ) (g : Nat → Nat → Nat) (n m : Nat) : Prop :=
  (∀ k, k < m → zO1 I J P N A B g n k) ∧ ∀ i k, i < k → k < m → g 0 i < g 0 k
/-- the order of kinds of coins -/
def zAhd (p : Int32) (x : Int64) (q : Int32) (y : Int64) : Prop := p < q ∨ (p = q ∧ (x ^^^ -9223372036854775808) < (y ^^^ -9223372036854775808))
/-- what holds of the reference's outputs alone -/
def zWfO (A : zI) (B : zJ) (g : Nat → Nat → Nat) (m e h s : Nat) : Prop :=
  ∀ k, k < m → (∃ y, y ≤ h ∧ A 3632 k = nI y) ∧ (A 3664 k = -1 ∨ ∃ x, x ≤ h ∧ A 3664 k = nI x) ∧ (∃ a, a < 256 + s ∧ A 3408 k = nI a) ∧
    (∀ j, j < g 6 k → (∃ p, p ≤ s ∧ A 3472 (8 * k + j) = nI p) ∧ 1 ≤ B 3537 (8 * k + j) ∧ B 3537 (8 * k + j) ≤ 4611686018427387904 ∧ (A 3472 (8 * k + j) = 0 → B 3505 (8 * k + j) = 0)) ∧
    (∀ i j, i < j → j < g 6 k → zAhd (A 3472 (8 * k + i)) (B 3505 (8 * k + i)) (A 3472 (8 * k + j)) (B 3505 (8 * k + j))) ∧
    (k + 1 < m → e ≤ k → ∀ x y, A 3632 k = nI x → A 3632 (k + 1) = nI y → x < 2 ^ 31 → y < 2 ^ 31 → x ≤ y) ∧ (k < e → A 3632 k = 0) ∧ zDk (A 3567) k (g 7 k)
/-- script k: f 0 .. f 4 number its cells (term, kinds, numbers, seconds, bytes), f 5 its nodes, f 6 its bytes -/
def zS1 (I : zI) (J : zJ) (P : zP) (N : Nat → Nat) (A : zI) (B : zJ) (f : Nat → Nat → Nat) (n k : Nat) : Prop :=
  (P 3061 k = some (32 * f 0 k + 7) ∧ P (32 * f 0 k + 7) 0 = some (32 * f 1 k + 15) ∧ P (32 * f 0 k + 7) 1 = some (32 * f 2 k + 17) ∧ P (32 * f 0 k + 7) 2 = some (32 * f 3 k + 16) ∧ P (32 * f 0 k + 7) 3 = some (32 * f 4 k + 15)) ∧
  (I (32 * f 0 k + 7) 4 = nI (f 5 k) ∧ A 3184 k = nI (f 5 k) ∧ I (32 * f 0 k + 7) 5 = A 3216 k ∧ A 3248 k = nI (f 6 k) ∧ I (32 * f 0 k + 7) 6 = A 3280 k) ∧
  (N (32 * f 1 k + 15) = f 5 k ∧ N (32 * f 2 k + 17) = f 5 k ∧ N (32 * f 3 k + 16) = f 5 k ∧ N (32 * f 4 k + 15) = f 6 k) ∧
  (1 ≤ f 5 k ∧ f 5 k ≤ 190 ∧ f 6 k ≤ 4096) ∧
  (∀ i, i < f 5 k → I (32 * f 1 k + 15) i = A 3312 (190 * k + i) ∧ J (32 * f 2 k + 17) i = B 3345 (190 * k + i) ∧
    (A 3312 (190 * k + i) = 8 → ∃ w p, w ≤ 64 ∧ B 3345 (190 * k + i) = (nI w).toInt64 ∧ I (32 * f 3 k + 16) i = nI p ∧ p + w ≤ f 6 k ∧ ∀ j, j < w → I (32 * f 4 k + 15) (p + j) = A 3375 (64 * (190 * k + i) + j) ∧ (A 3375 (64 * (190 * k + i) + j)).toInt8.toInt32 = A 3375 (64 * (190 * k + i) + j))) ∧
  (∀ i, i < 5 → 201 ≤ f i k ∧ f i k < n)
/-- the nodes of script k make one term: z their sizes, l the lambdas around them, w their levels -/
def zTrm (I : zI) (A : zI) (B : zJ) (f : Nat → Nat → Nat) (k : Nat) : Prop :=
  ∃ z l w : Nat → Nat, z 0 = f 5 k ∧ l 0 = 0 ∧ w 0 = 1 ∧ ∀ i, i < f 5 k → 1 ≤ z i ∧ i + z i ≤ f 5 k ∧ w i ≤ 60 ∧ l i < w i ∧ ∃ q, q < 12 ∧ A 3312 (190 * k + i) = nI q ∧
    (q = 0 → z i = 1 ∧ ∃ x, 1 ≤ x ∧ x ≤ l i ∧ B 3345 (190 * k + i) = (nI x).toInt64) ∧
    (q = 1 → z i = 1 + z (i + 1) ∧ 1 ≤ z (i + 1) ∧ l (i + 1) = l i + 1 ∧ w (i + 1) = w i + 1 ∧ B 3345 (190 * k + i) = 0) ∧
    (q = 3 ∨ q = 4 → z i = 1 + z (i + 1) ∧ 1 ≤ z (i + 1) ∧ l (i + 1) = l i ∧ w (i + 1) = w i + 1 ∧ B 3345 (190 * k + i) = 0) ∧
    (q = 2 → z i = 1 + z (i + 1) + z (i + 1 + z (i + 1)) ∧ 1 ≤ z (i + 1) ∧ 1 ≤ z (i + 1 + z (i + 1)) ∧ l (i + 1) = l i ∧ w (i + 1) = w i + 1 ∧ l (i + 1 + z (i + 1)) = l i ∧ w (i + 1 + z (i + 1)) = w i + 1 ∧ B 3345 (190 * k + i) = 0 ∧ I (32 * f 3 k + 16) i = nI (i + 1 + z (i + 1))) ∧
    (5 ≤ q → z i = 1) ∧ (q = 6 → ∃ x, x < 32 ∧ B 3345 (190 * k + i) = (nI x).toInt64) ∧ (q = 9 → B 3345 (190 * k + i) = 0 ∨ B 3345 (190 * k + i) = 1) ∧
    (q = 5 ∨ q = 10 ∨ q = 11 → B 3345 (190 * k + i) = 0)
def zScs (I : zI) (J : zJ) (P : zP) (N : Nat → Nat) (A : zI) (B : zJ) (f : Nat → Nat → Nat) (n s : Nat) : Prop :=
  (∀ k, k < s → zS1 I J P N A B f n k ∧ zTrm I A B f k) ∧ (∀ i k, i < k → k < s → f 0 i < f 0 k) ∧ ∀ k, s ≤ k → A 3280 k = 0
/-- how much of a kind output k holds -/
def zAmt (A : zI) (B : zJ) (k : Nat) (p : Int32) (x : Int64) : Nat → Int
  | 0 => 0
  | j + 1 => zAmt A B k p x j + if A 3472 (8 * k + j) = p ∧ B 3505 (8 * k + j) = x then (B 3537 (8 * k + j)).toInt else 0
/-- was output k made ahead of height t (or endowed), and not spent ahead of it? -/
def zAlv (A : zI) (e k : Nat) (t : Int) : Prop := (k < e ∨ (A 3632 k).toInt < t) ∧ ((A 3664 k).toInt < 0 ∨ t ≤ (A 3664 k).toInt)
noncomputable def zTot (A : zI) (B : zJ) (g : Nat → Nat → Nat) (e : Nat) (t : Int) (p : Int32) (x : Int64) : Nat → Int
  | 0 => 0
  | k + 1 => zTot A B g e t p x k + @ite Int (zAlv A e k t) (Classical.propDecidable _) (zAmt A B k p x (g 6 k)) 0
def zPts (B : zJ) : Nat → Int
  | 0 => 0
  | k + 1 => zPts B k + (B 3697 k).toInt
/-- never more of a kind than there can be, now and at each height before -/
def zCon (A : zI) (B : zJ) (g : Nat → Nat → Nat) (m e h : Nat) : Prop :=
  (∀ k, k ≤ h → 0 ≤ (B 3697 k).toInt) ∧ ∀ t, t ≤ h + 1 → ∀ (p : Int32) (x : Int64), zTot A B g e t p x m + (if p = 0 ∧ x = 0 then zPts B t else 0) ≤ 4611686018427387904
/-- as long as outputs can be endowed nothing has happened -/
def zBeg (A : zI) (B : zJ) (m e h : Nat) : Prop := A 3118 13 = 0 → h = 0 ∧ e = m ∧ B 3697 0 = 0 ∧ ∀ k, k < m → A 3664 k = -1
/-- all of it -/
def zAll (I : zI) (J : zJ) (P : zP) (N : Nat → Nat) (A : zI) (B : zJ) (n c : Nat) (t m e h u s d : Nat) (g f : Nat → Nat → Nat) : Prop :=
  zVal I J A B t m e h u s d ∧ zSum I J A B h u c ∧ zTap I A t ∧ zLat I A ∧ zOuts I J P N A B g n m ∧ zWfO A B g m e h s ∧ zScs I J P N A B f n s ∧ zCon A B g m e h ∧ zBeg A B m e h
/-- what holds ahead of the call at place i of the script -/
def zInv (L : Nat) (xs : Nat → Int32) (i : Nat) (σ : zS) : Prop := match σ with
  | (I, J, P, N, n, z) => zScr L xs (I, J, P, N, n, z) ∧ zStat P N ∧ (I 54 = zTK0 ∧ N 54 = 32) ∧ (201 ≤ n ∧ n + N 31 ≤ 201 + 12 * i ∧ z ≤ 1542900 + 1200 * i) ∧
    ∃ t m e h u s d g f, zAll I J P N I J n i t m e h u s d g f
