-- needs: 01 02.names 03 04 05 18 19 20 22 23 24 25 30 31 32 33 36 40 42 43 44 46 47 60 61 62 63 64 65 66 67 68
/-! the nodes that have been read make one term -/
/-- node i: z sizes, l lambdas around, w levels -/
def zNd (t : Nat) (K : Nat → Nat) (V : Nat → Int64) (S z l w : Nat → Nat) (i : Nat) : Prop :=
  (1 ≤ z i ∧ w i ≤ 60 ∧ l i < w i ∧ K i < 12) ∧
  (K i = 0 → z i = 1 ∧ ∃ x, 1 ≤ x ∧ x ≤ l i ∧ V i = (nI x).toInt64) ∧
  (K i = 1 → z i = 1 + z (i + 1) ∧ 1 ≤ z (i + 1) ∧ l (i + 1) = l i + 1 ∧ w (i + 1) = w i + 1 ∧ V i = 0) ∧
  (K i = 3 ∨ K i = 4 → z i = 1 + z (i + 1) ∧ 1 ≤ z (i + 1) ∧ l (i + 1) = l i ∧ w (i + 1) = w i + 1 ∧ V i = 0) ∧
  (K i = 2 → z i = 1 + z (i + 1) + z (i + 1 + z (i + 1)) ∧ 1 ≤ z (i + 1) ∧ 1 ≤ z (i + 1 + z (i + 1)) ∧ l (i + 1) = l i ∧ w (i + 1) = w i + 1 ∧ l (i + 1 + z (i + 1)) = l i ∧ w (i + 1 + z (i + 1)) = w i + 1 ∧ V i = 0 ∧ S i = i + 1 + z (i + 1)) ∧
  (5 ≤ K i → z i = 1) ∧ (K i = 6 → ∃ x, x < 32 ∧ V i = (nI x).toInt64) ∧ (K i = 9 → V i = 0 ∨ V i = 1) ∧ (K i = 5 ∨ K i = 10 ∨ K i = 11 → V i = 0) ∧
  (K i = 8 → ∃ x, x ≤ 64 ∧ V i = (nI x).toInt64 ∧ S i + x ≤ t)
theorem zNd_c {t lo hi i : Nat} {K K' S S' z z' l l' w w' : Nat → Nat} {V V' : Nat → Int64} (h : ∀ j, lo ≤ j → j < hi → K' j = K j ∧ V' j = V j ∧ S' j = S j ∧ z' j = z j ∧ l' j = l j ∧ w' j = w j) (h1 : lo ≤ i) (h2 : i + z i ≤ hi) (H : zNd t K V S z l w i) : zNd t K' V' S' z' l' w' i := by
  obtain ⟨a1, a2, a3, a4, a5, a6, a7, a8, a9, a10⟩ := H
  obtain ⟨e1, e2, e3, e4, e5, e6⟩ := h i h1 (by omega)
  unfold zNd
  rw [e1, e2, e3, e4, e5, e6]
  refine ⟨a1, a2, fun hK => ?_, fun hK => ?_, fun hK => ?_, a6, a7, a8, a9, a10⟩
  · obtain ⟨b1, b2, b3, b4, b5⟩ := a3 hK
    obtain ⟨-, -, -, f4, f5, f6⟩ := h (i + 1) (by omega) (by omega)
    rw [f4, f5, f6]
    exact ⟨b1, b2, b3, b4, b5⟩
  · obtain ⟨b1, b2, b3, b4, b5⟩ := a4 hK
    obtain ⟨-, -, -, f4, f5, f6⟩ := h (i + 1) (by omega) (by omega)
    rw [f4, f5, f6]
    exact ⟨b1, b2, b3, b4, b5⟩
  · obtain ⟨b1, b2, b3, b4, b5, b6, b7, b8, b9⟩ := a5 hK
    obtain ⟨-, -, -, f4, f5, f6⟩ := h (i + 1) (by omega) (by omega)
    rw [f4, f5, f6]
    obtain ⟨-, -, -, g4, g5, g6⟩ := h (i + 1 + z (i + 1)) (by omega) (by omega)
    rw [g4, g5, g6]
    exact ⟨b1, b2, b3, b4, b5, b6, b7, b8, b9⟩
/-- what the number of a node can be -/
theorem zRn_v {B : Nat → Nat} {t q b a : Nat} (hb : b < 2 ^ 31) (h : (zRn B t q b a).1 = 0) :
    (q = 0 → ∃ x, 1 ≤ x ∧ x ≤ b ∧ (zRn B t q b a).2.2 = (nI x).toInt64) ∧ (q = 6 → ∃ x, x < 32 ∧ (zRn B t q b a).2.2 = (nI x).toInt64) ∧ (q = 9 → (zRn B t q b a).2.2 = 0 ∨ (zRn B t q b a).2.2 = 1) ∧
    (q = 8 → ∃ x, x ≤ 64 ∧ (zRn B t q b a).2.2 = (nI x).toInt64 ∧ a + 1 + x ≤ t) ∧ (¬ q = 0 → ¬ q = 6 → ¬ q = 7 → ¬ q = 8 → ¬ q = 9 → (zRn B t q b a).2.2 = 0) := by
  refine ⟨fun hq => ?_, fun hq => ?_, fun hq => ?_, fun hq => ?_, fun h0 h6 h7 h8 h9 => ?_⟩
  · subst hq
    unfold zRn at h ⊢
    rw [if_pos rfl] at h ⊢
    dsimp only at h ⊢
    generalize (zRu B t 5 0 a 0).2.2 = v at h ⊢
    split at h
    · rename_i x; exact absurd h x
    · split at h
      · cases h
      · rename_i h1
        split at h
        · cases h
        · rename_i h2
          have h3 : ¬ v < 1 := fun x => h1 (Or.inl x)
          have h4 := Int64.not_lt.1 h3
          have h5 := Int64.not_lt.1 h2
          rw [Int64.le_iff_toInt_le] at h4 h5
          rw [w64_toInt hb] at h5
          have e1 : (1 : Int64).toInt = 1 := rfl
          rw [e1] at h4
          refine ⟨v.toInt.toNat, by omega, by omega, ?_⟩
          apply Int64.toInt_inj.1
          rw [w64_toInt (by omega)]
          omega
  · subst hq
    unfold zRn at h ⊢
    rw [if_neg (by decide), if_pos (Or.inl rfl)] at h ⊢
    split at h
    · cases h
    · rename_i h1
      rw [if_neg h1]
      have h : (if 31 < B a then 3 else 0) = 0 := h
      split at h
      · cases h
      · rename_i h2
        exact ⟨B a, by omega, rfl⟩
  · subst hq
    unfold zRn at h ⊢
    rw [if_neg (by decide), if_pos (Or.inr rfl)] at h ⊢
    split at h
    · cases h
    · rename_i h1
      rw [if_neg h1]
      have h : (if 1 < B a then 3 else 0) = 0 := h
      dsimp only
      split at h
      · cases h
      · rename_i h2
        have h3 : B a = 0 ∨ B a = 1 := by omega
        rcases h3 with h3 | h3
        · rw [h3]; exact Or.inl rfl
        · rw [h3]; exact Or.inr rfl
  · subst hq
    unfold zRn at h ⊢
    rw [if_neg (by decide), if_neg (by decide), if_neg (by decide), if_pos rfl] at h ⊢
    split at h
    · cases h
    · rename_i h1
      rw [if_neg h1]
      split at h
      · cases h
      · rename_i h2
        rw [if_neg h2]
        split at h
        · cases h
        · rename_i h3
          rw [if_neg h3]
          exact ⟨B a, by omega, rfl, by omega⟩
  · unfold zRn
    rw [if_neg h0, if_neg (by omega), if_neg h7, if_neg h8]
theorem nI_m1 {j : Nat} (hj : j < 2 ^ 31) : ¬ (-1 : Int32) = nI j := by
  intro h
  have h1 : (nI j < 0) = False := wI_neg hj
  rw [← h] at h1
  have h2 : (-1 : Int32) < 0 := by decide
  rw [h1] at h2
  exact h2
theorem zNf_q {B : Nat → Nat} {t k a d b : Nat} (h : zNf B t k a d b = 0) : a < t ∧ B a < 12 ∧ d ≤ 60 ∧ k < 200 ∧ (zRn B t (B a) b (a + 1)).1 = 0 := by
  unfold zNf at h
  split at h
  · cases h
  · split at h
    · cases h
    · split at h
      · cases h
      · split at h
        · cases h
        · exact ⟨by omega, by omega, by omega, by omega, h⟩
theorem zPr_s {B : Nat → Nat} {t r k a dm d b : Nat} {o : Int32} {W : List (Nat × Nat × Int32)} {K S : Nat → Nat} {V : Nat → Int64} (hf : zNf B t k a d b = 0) : zPr B t (r + 1) (k, a, dm, (d, b, o) :: W, K, V, S) = zPr B t r (k + 1, (zRn B t (B a) b (a + 1)).2.1, max dm d, zKd (B a) d b k ++ W, (fun j => if j = k then B a else K j), (fun j => if j = k then (zRn B t (B a) b (a + 1)).2.2 else V j), (fun j => if j = k then (if B a = 8 then a + 2 else 0) else if o = nI j then k else S j)) := by
  conv => lhs; unfold zPr
  dsimp only
  rw [if_pos hf]
theorem zPr_x {B : Nat → Nat} {t r k a dm d b : Nat} {o : Int32} {W : List (Nat × Nat × Int32)} {K S : Nat → Nat} {V : Nat → Int64} (hf : ¬ zNf B t k a d b = 0) : zPr B t (r + 1) (k, a, dm, (d, b, o) :: W, K, V, S) = (zNf B t k a d b, (k, a, dm, (d, b, o) :: W, K, V, S)) := by
  unfold zPr
  dsimp only
  rw [if_neg hf]
/-- the depth is that of a node, or has been there -/
def zDm (dm' dm k n : Nat) (w : Nat → Nat) : Prop := dm' = dm ∨ ∃ i, k ≤ i ∧ i < k + n ∧ w i = dm'
/-- n nodes from k on make one term -/
def zTr (B : Nat → Nat) (t r k a dm d b : Nat) (o : Int32) (W : List (Nat × Nat × Int32)) (K : Nat → Nat) (V : Nat → Int64) (S : Nat → Nat) : Prop :=
  ∃ n a' dm' K' V' S' z l w, (1 ≤ n ∧ k + n ≤ 200 ∧ n ≤ r) ∧ zPr B t r (k, a, dm, (d, b, o) :: W, K, V, S) = zPr B t (r - n) (k + n, a', dm', W, K', V', S') ∧ (z k = n ∧ l k = b ∧ w k = d) ∧
    (∀ i, k ≤ i → i < k + n → i + z i ≤ k + n ∧ w i ≤ dm' ∧ zNd t K' V' S' z l w i) ∧ (∀ j, j < k → K' j = K j ∧ V' j = V j ∧ S' j = if o = nI j then k else S j) ∧ dm ≤ dm' ∧ zDm dm' dm k n w
theorem zPr_t {B : Nat → Nat} {t : Nat} : ∀ R r, r ≤ R → ∀ k a dm d b o W K V S, k + r = 201 → k ≤ 200 → b < d → (zPr B t r (k, a, dm, (d, b, o) :: W, K, V, S)).1 = 0 → zTr B t r k a dm d b o W K V S := by
  intro R
  induction R with
  | zero => intro r hr k a dm d b o W K V S h1 h2; omega
  | succ R ih =>
    intro r hr k a dm d b o W K V S hk hk2 hb h0
    obtain ⟨r, rfl⟩ : ∃ r', r = r' + 1 := ⟨r - 1, by omega⟩
    by_cases hf : zNf B t k a d b = 0
    · obtain ⟨f1, f2, f3, f4, f5⟩ := zNf_q hf
      have e := zPr_s (r := r) (dm := dm) (o := o) (W := W) (K := K) (S := S) (V := V) hf
      rw [e] at h0
      obtain ⟨v0, v6, v9, v8, vn⟩ := zRn_v (show b < 2 ^ 31 by omega) f5
      unfold zTr
      rw [e]
      generalize (zRn B t (B a) b (a + 1)).2.1 = pos at h0 ⊢
      generalize (zRn B t (B a) b (a + 1)).2.2 = val at h0 v0 v6 v9 v8 vn ⊢
      generalize B a = q at h0 v0 v6 v9 v8 vn f2 ⊢
      by_cases hu : q = 1 ∨ q = 3 ∨ q = 4
      · obtain ⟨b', e1, hb', hb1⟩ : ∃ b', zKd q d b k = [(d + 1, b', -1)] ∧ b' < d + 1 ∧ ((q = 1 ∧ b' = b + 1) ∨ (¬ q = 1 ∧ b' = b)) := by
          unfold zKd
          rcases hu with h | h | h
          · exact ⟨b + 1, by rw [if_pos h], by omega, Or.inl ⟨h, rfl⟩⟩
          · exact ⟨b, by rw [if_neg (by omega), if_pos (Or.inl h)], by omega, Or.inr ⟨by omega, rfl⟩⟩
          · exact ⟨b, by rw [if_neg (by omega), if_pos (Or.inr h)], by omega, Or.inr ⟨by omega, rfl⟩⟩
        rw [e1] at h0 ⊢
        obtain ⟨n, a', dm', K', V', S', z, l, w, ⟨n1, n2, n3⟩, E, ⟨z1, z2, z3⟩, H, G, m1, m2⟩ := ih r (by omega) (k + 1) pos (max dm d) (d + 1) b' (-1) W _ _ _ (by omega) (by omega) hb' h0
        dsimp only at G
        have E' : zPr B t r (k + 1, pos, max dm d, [(d + 1, b', -1)] ++ W, (fun j => if j = k then q else K j), (fun j => if j = k then val else V j), (fun j => if j = k then (if q = 8 then a + 2 else 0) else if o = nI j then k else S j)) = _ := E
        refine ⟨n + 1, a', dm', K', V', S', fun i => if i = k then n + 1 else z i, fun i => if i = k then b else l i, fun i => if i = k then d else w i, ⟨by omega, by omega, by omega⟩, ?_, ⟨if_pos rfl, if_pos rfl, if_pos rfl⟩, fun i h1 h2 => ?_, fun j hj => ?_, by omega, ?_⟩
        · rw [E', show r + 1 - (n + 1) = r - n by omega, show k + (n + 1) = k + 1 + n by omega]
        · obtain ⟨g1, g2, g3⟩ := G k (by omega)
          rw [if_pos rfl] at g1 g2
          by_cases hik : i = k
          · subst hik
            unfold zNd
            dsimp only
            refine ⟨by rw [if_pos rfl]; omega, by rw [if_pos rfl]; omega, ⟨by rw [if_pos rfl]; omega, by rw [if_pos rfl]; omega, by rw [if_pos rfl, if_pos rfl]; omega, by omega⟩, fun hq => by omega, fun hq => ?_, fun hq => ?_, fun hq => by omega, fun hq => by omega, fun hq => by omega, fun hq => by omega, fun hq => by omega, fun hq => by omega⟩
            · rw [if_pos rfl, if_pos rfl, if_pos rfl, if_neg (by omega), if_neg (by omega), if_neg (by omega)]
              refine ⟨by omega, by omega, by omega, by omega, g2.trans (vn (by omega) (by omega) (by omega) (by omega) (by omega))⟩
            · rw [if_pos rfl, if_pos rfl, if_pos rfl, if_neg (by omega), if_neg (by omega), if_neg (by omega)]
              refine ⟨by omega, by omega, by omega, by omega, g2.trans (vn (by omega) (by omega) (by omega) (by omega) (by omega))⟩
          · obtain ⟨x1, x2, x3⟩ := H i (by omega) (by omega)
            dsimp only
            refine ⟨by rw [if_neg hik]; omega, by rw [if_neg hik]; exact x2, zNd_c (lo := k + 1) (hi := k + 1 + n) (fun j y1 y2 => ⟨rfl, rfl, rfl, if_neg (by omega), if_neg (by omega), if_neg (by omega)⟩) (by omega) x1 x3⟩
        · obtain ⟨g1, g2, g3⟩ := G j (by omega)
          rw [if_neg (by omega)] at g1 g2
          rw [if_neg (nI_m1 (by omega)), if_neg (by omega)] at g3
          exact ⟨g1, g2, g3⟩
        · rcases m2 with m2 | ⟨i, i1, i2, i3⟩
          · by_cases hmd : d ≤ dm
            · exact Or.inl (by omega)
            · exact Or.inr ⟨k, by omega, by omega, by dsimp only; rw [if_pos rfl]; omega⟩
          · exact Or.inr ⟨i, by omega, by omega, by dsimp only; rw [if_neg (by omega)]; exact i3⟩
      · by_cases hq2 : q = 2
        · have e1 : zKd q d b k = [(d + 1, b, -1), (d + 1, b, nI k)] := by
            unfold zKd
            rw [if_neg (by omega), if_neg (by omega), if_pos hq2]
          rw [e1] at h0 ⊢
          obtain ⟨n, a', dm', K', V', S', z, l, w, ⟨n1, n2, n3⟩, E, ⟨z1, z2, z3⟩, H, G, m1, m2⟩ := ih r (by omega) (k + 1) pos (max dm d) (d + 1) b (-1) ((d + 1, b, nI k) :: W) _ _ _ (by omega) (by omega) (by omega) h0
          dsimp only at G
          have E' : zPr B t r (k + 1, pos, max dm d, [(d + 1, b, -1), (d + 1, b, nI k)] ++ W, (fun j => if j = k then q else K j), (fun j => if j = k then val else V j), (fun j => if j = k then (if q = 8 then a + 2 else 0) else if o = nI j then k else S j)) = _ := E
          rw [E'] at h0
          obtain ⟨n', a'', dm'', K'', V'', S'', z', l', w', ⟨n1', n2', n3'⟩, E2, ⟨z1', z2', z3'⟩, H', G', m1', m2'⟩ := ih (r - n) (by omega) (k + 1 + n) a' dm' (d + 1) b (nI k) W K' V' S' (by omega) (by omega) (by omega) h0
          obtain ⟨g1, g2, g3⟩ := G k (by omega)
          rw [if_pos rfl] at g1 g2
          obtain ⟨g1', g2', g3'⟩ := G' k (by omega)
          rw [if_pos rfl] at g3'
          refine ⟨n + n' + 1, a'', dm'', K'', V'', S'', fun i => if i = k then n + n' + 1 else if i < k + 1 + n then z i else z' i, fun i => if i = k then b else if i < k + 1 + n then l i else l' i, fun i => if i = k then d else if i < k + 1 + n then w i else w' i, ⟨by omega, by omega, by omega⟩, ?_, ⟨if_pos rfl, if_pos rfl, if_pos rfl⟩, fun i h1 h2 => ?_, fun j hj => ?_, by omega, ?_⟩
          · rw [E', E2, show r + 1 - (n + n' + 1) = r - n - n' by omega, show k + (n + n' + 1) = k + 1 + n + n' by omega]
          · by_cases hik : i = k
            · subst hik
              have y1 : (if i + 1 = i then n + n' + 1 else if i + 1 < i + 1 + n then z (i + 1) else z' (i + 1)) = n := by rw [if_neg (by omega), if_pos (by omega), z1]
              have y2 : (if i + 1 + n = i then n + n' + 1 else if i + 1 + n < i + 1 + n then z (i + 1 + n) else z' (i + 1 + n)) = n' := by rw [if_neg (by omega), if_neg (by omega), z1']
              unfold zNd
              dsimp only
              refine ⟨by rw [if_pos rfl]; omega, by rw [if_pos rfl]; omega, ⟨by rw [if_pos rfl]; omega, by rw [if_pos rfl]; omega, by rw [if_pos rfl, if_pos rfl]; omega, by omega⟩, fun hq => by omega, fun hq => by omega, fun hq => by omega, fun hq => ?_, fun hq => by omega, fun hq => by omega, fun hq => by omega, fun hq => by omega, fun hq => by omega⟩
              rw [if_pos rfl, if_pos rfl, if_pos rfl, y1, y2, if_neg (by omega), if_pos (by omega), if_neg (by omega), if_pos (by omega), if_neg (by omega), if_neg (by omega), if_neg (by omega), if_neg (by omega)]
              refine ⟨by omega, by omega, by omega, by omega, by omega, by omega, by omega, ?_, g3'⟩
              rw [g2', g2]
              exact vn (by omega) (by omega) (by omega) (by omega) (by omega)
            · by_cases hi : i < k + 1 + n
              · obtain ⟨x1, x2, x3⟩ := H i (by omega) (by omega)
                dsimp only
                refine ⟨by rw [if_neg hik, if_pos hi]; omega, by rw [if_neg hik, if_pos hi]; omega, zNd_c (lo := k + 1) (hi := k + 1 + n) (fun j y1 y2 => ?_) (by omega) x1 x3⟩
                obtain ⟨g4, g5, g6⟩ := G' j (by omega)
                rw [if_neg (by rw [wI_eq (by omega) (by omega)]; omega)] at g6
                exact ⟨g4, g5, g6, by rw [if_neg (by omega), if_pos (by omega)], by rw [if_neg (by omega), if_pos (by omega)], by rw [if_neg (by omega), if_pos (by omega)]⟩
              · obtain ⟨x1, x2, x3⟩ := H' i (by omega) (by omega)
                dsimp only
                exact ⟨by rw [if_neg hik, if_neg hi]; omega, by rw [if_neg hik, if_neg hi]; omega, zNd_c (lo := k + 1 + n) (hi := k + 1 + n + n') (fun j y1 y2 => ⟨rfl, rfl, rfl, by rw [if_neg (by omega), if_neg (by omega)], by rw [if_neg (by omega), if_neg (by omega)], by rw [if_neg (by omega), if_neg (by omega)]⟩) (by omega) x1 x3⟩
          · obtain ⟨g4, g5, g6⟩ := G j (by omega)
            rw [if_neg (by omega)] at g4 g5
            rw [if_neg (nI_m1 (by omega)), if_neg (by omega)] at g6
            obtain ⟨g7, g8, g9⟩ := G' j (by omega)
            rw [if_neg (by rw [wI_eq (by omega) (by omega)]; omega)] at g9
            exact ⟨g7.trans g4, g8.trans g5, g9.trans g6⟩
          · rcases m2' with m2' | ⟨i, i1, i2, i3⟩
            · rcases m2 with m2 | ⟨i, i1, i2, i3⟩
              · by_cases hmd : d ≤ dm
                · exact Or.inl (by omega)
                · exact Or.inr ⟨k, by omega, by omega, by dsimp only; rw [if_pos rfl]; omega⟩
              · exact Or.inr ⟨i, by omega, by omega, by dsimp only; rw [if_neg (by omega), if_pos i2]; omega⟩
            · exact Or.inr ⟨i, by omega, by omega, by dsimp only; rw [if_neg (by omega), if_neg (by omega)]; exact i3⟩
        · have e1 : zKd q d b k = [] := by
            unfold zKd
            rw [if_neg (by omega), if_neg (by omega), if_neg hq2]
          rw [e1] at h0 ⊢
          refine ⟨1, pos, max dm d, _, _, _, fun _ => 1, fun _ => b, fun _ => d, ⟨by omega, by omega, by omega⟩, rfl, ⟨rfl, rfl, rfl⟩, fun i h1 h2 => ?_, fun j hj => ⟨if_neg (by omega), if_neg (by omega), if_neg (by omega)⟩, by omega, ?_⟩
          · obtain rfl : i = k := by omega
            unfold zNd
            dsimp only
            refine ⟨by omega, by omega, ?_⟩
            rw [if_pos rfl, if_pos rfl, if_pos rfl]
            refine ⟨⟨by omega, by omega, by omega, by omega⟩, fun hq => ⟨rfl, v0 hq⟩, fun hq => by omega, fun hq => by omega, fun hq => by omega, fun _ => rfl, v6, v9, fun hq => vn (by omega) (by omega) (by omega) (by omega) (by omega), fun hq => ?_⟩
            obtain ⟨x, x1, x2, x3⟩ := v8 hq
            exact ⟨x, x1, x2, by rw [if_pos hq]; omega⟩
          · by_cases hmd : d ≤ dm
            · exact Or.inl (by omega)
            · exact Or.inr ⟨k, by omega, by omega, by dsimp only; omega⟩
    · rw [zPr_x hf] at h0
      exact absurd h0 hf
/-- a term that has been read -/
def zTt (t k dm : Nat) (K : Nat → Nat) (V : Nat → Int64) (S z l w : Nat → Nat) : Prop := (1 ≤ k ∧ k ≤ 200 ∧ z 0 = k ∧ l 0 = 0 ∧ w 0 = 1) ∧ (∀ i, i < k → i + z i ≤ k ∧ w i ≤ dm ∧ zNd t K V S z l w i) ∧ ∃ i, i < k ∧ w i = dm
theorem zTm_t {B : Nat → Nat} {t : Nat} (h : (zTm B t).1 = 0) : (zTm B t).2.2.2.2.1 = [] ∧ ∃ z l w, zTt t (zTm B t).2.1 (zTm B t).2.2.2.1 (zTm B t).2.2.2.2.2.1 (zTm B t).2.2.2.2.2.2.1 (zTm B t).2.2.2.2.2.2.2 z l w := by
  obtain ⟨n, a', dm', K', V', S', z, l, w, ⟨n1, n2, n3⟩, E, ⟨z1, z2, z3⟩, H, G, m1, m2⟩ := zPr_t (B := B) (t := t) 201 201 (by omega) 0 0 0 1 0 (-1) [] (fun _ => 0) (fun _ => 0) (fun _ => 0) (by omega) (by omega) (by omega) h
  have e : zTm B t = (0, (0 + n, a', dm', [], K', V', S')) := by
    show zPr B t 201 (0, 0, 0, [(1, 0, -1)], fun _ => 0, fun _ => 0, fun _ => 0) = _
    rw [E]
    cases 201 - n with
    | zero => rfl
    | succ r => rfl
  rw [e]
  refine ⟨rfl, z, l, w, ⟨by show 1 ≤ 0 + n; omega, by show 0 + n ≤ 200; omega, by show z 0 = 0 + n; omega, z2, z3⟩, fun i hi => H i (by omega) hi, ?_⟩
  rcases m2 with m2 | ⟨i, i1, i2, i3⟩
  · obtain ⟨-, x, y⟩ := H 0 (by omega) (by omega)
    omega
  · exact ⟨i, i2, i3⟩
