/-! What each operation's step was, from its result. -/
section
variable {ls : zL} {st : List Value} {σ : zS} {x : zR}
theorem zvLd0 {i : Nat} (h : zsLd 0 i ls st σ = some x) : ∃ v, ls[i]? = some (some (.int v)) ∧ x = .inl (0, ls, .int v :: st, σ) := by
  cases hv : ls[i]? with
  | none => simp [zsLd, hv] at h
  | some o => cases o with
    | none => simp [zsLd, hv] at h
    | some v => cases v <;> simp [zsLd, hv] at h <;> exact ⟨_, rfl, h.symm⟩
theorem zvLd1 {i : Nat} (h : zsLd 1 i ls st σ = some x) : ∃ v, ls[i]? = some (some (.long v)) ∧ x = .inl (0, ls, .long v :: st, σ) := by
  cases hv : ls[i]? with
  | none => simp [zsLd, hv] at h
  | some o => cases o with
    | none => simp [zsLd, hv] at h
    | some v => cases v <;> simp [zsLd, hv] at h <;> exact ⟨_, rfl, h.symm⟩
theorem zvLd2 {i : Nat} (h : zsLd 2 i ls st σ = some x) : (∃ v, ls[i]? = some (some (.ref v)) ∧ x = .inl (0, ls, .ref v :: st, σ)) ∨ (ls[i]? = some (some .null) ∧ x = .inl (0, ls, .null :: st, σ)) := by
  cases hv : ls[i]? with
  | none => simp [zsLd, hv] at h
  | some o => cases o with
    | none => simp [zsLd, hv] at h
    | some v => cases v <;> simp [zsLd, hv] at h <;> first | exact Or.inl ⟨_, rfl, h.symm⟩ | exact Or.inr ⟨rfl, h.symm⟩
theorem zvSt0 {i : Nat} (h : zsSt 0 i ls st σ = some x) : ∃ v r, st = .int v :: r ∧ i < ls.length ∧ x = .inl (0, zset1 ls i (.int v), r, σ) := by
  match st, h with
  | .int v :: r, h =>
    simp only [zsSt] at h
    split at h
    · rename_i hi; cases h; exact ⟨v, r, rfl, hi, rfl⟩
    · cases h
theorem zvSt1 {i : Nat} (h : zsSt 1 i ls st σ = some x) : ∃ v r, st = .long v :: r ∧ i + 1 < ls.length ∧ x = .inl (0, zset2 ls i (.long v), r, σ) := by
  match st, h with
  | .long v :: r, h =>
    simp only [zsSt] at h
    split at h
    · rename_i hi; cases h; exact ⟨v, r, rfl, hi, rfl⟩
    · cases h
theorem zvSt2 {i : Nat} (h : zsSt 2 i ls st σ = some x) : (∃ v r, st = .ref v :: r ∧ i < ls.length ∧ x = .inl (0, zset1 ls i (.ref v), r, σ)) ∨ (∃ r, st = .null :: r ∧ i < ls.length ∧ x = .inl (0, zset1 ls i .null, r, σ)) := by
  match st, h with
  | .ref v :: r, h =>
    simp only [zsSt] at h
    split at h
    · rename_i hi; cases h; exact Or.inl ⟨v, r, rfl, hi, rfl⟩
    · cases h
  | .null :: r, h =>
    simp only [zsSt] at h
    split at h
    · rename_i hi; cases h; exact Or.inr ⟨r, rfl, hi, rfl⟩
    · cases h
theorem zvInc {i : Nat} {c : Int32} (h : zsInc i c ls st σ = some x) : ∃ v, ls[i]? = some (some (.int v)) ∧ i < ls.length ∧ x = .inl (0, zset1 ls i (.int (v + c)), st, σ) := by
  cases hv : ls[i]? with
  | none => simp [zsInc, hv] at h
  | some o => cases o with
    | none => simp [zsInc, hv] at h
    | some v => cases v <;> simp [zsInc, hv] at h <;> exact ⟨_, rfl, h.1, h.2.symm⟩
theorem zvBI {k : Nat} (h : zsBI k ls st σ = some x) : ∃ a b r v, st = .int b :: .int a :: r ∧ zxBI k a b = some v ∧ x = .inl (0, ls, .int v :: r, σ) := by
  unfold zsBI at h
  split at h
  · split at h
    · rename_i hv; cases h; exact ⟨_, _, _, _, rfl, hv, rfl⟩
    · cases h
  · cases h
theorem zvBL {k : Nat} (h : zsBL k ls st σ = some x) : ∃ a b r v, st = .long b :: .long a :: r ∧ zxBL k a b = some v ∧ x = .inl (0, ls, .long v :: r, σ) := by
  unfold zsBL at h
  split at h
  · split at h
    · rename_i hv; cases h; exact ⟨_, _, _, _, rfl, hv, rfl⟩
    · cases h
  · cases h
theorem zvSL {k : Nat} (h : zsSL k ls st σ = some x) : ∃ a b r v, st = .int b :: .long a :: r ∧ zxSL k a b = some v ∧ x = .inl (0, ls, .long v :: r, σ) := by
  unfold zsSL at h
  split at h
  · split at h
    · rename_i hv; cases h; exact ⟨_, _, _, _, rfl, hv, rfl⟩
    · cases h
  · cases h
theorem zvUn {k : Nat} (h : zsUn k ls st σ = some x) : ∃ v r w, st = v :: r ∧ zxU k v = some w ∧ x = .inl (0, ls, w :: r, σ) := by
  unfold zsUn at h
  split at h
  · split at h
    · rename_i hv; cases h; exact ⟨_, _, _, rfl, hv, rfl⟩
    · cases h
  · cases h
theorem zvU0 {v w : Value} (h : zxU 0 v = some w) : ∃ a, v = .int a ∧ w = .int (-a) := by cases v <;> simp [zxU] at h; exact ⟨_, rfl, h.symm⟩
theorem zvU1 {v w : Value} (h : zxU 1 v = some w) : ∃ a, v = .int a ∧ w = .long a.toInt64 := by cases v <;> simp [zxU] at h; exact ⟨_, rfl, h.symm⟩
theorem zvU2 {v w : Value} (h : zxU 2 v = some w) : ∃ a, v = .long a ∧ w = .int a.toInt32 := by cases v <;> simp [zxU] at h; exact ⟨_, rfl, h.symm⟩
theorem zvU3 {v w : Value} (h : zxU 3 v = some w) : ∃ a, v = .int a ∧ w = .int a.toInt8.toInt32 := by cases v <;> simp [zxU] at h; exact ⟨_, rfl, h.symm⟩
theorem zvCmp (h : zsCmp ls st σ = some x) : ∃ a b r, st = .long b :: .long a :: r ∧ x = .inl (0, ls, .int (lg_cmp a b) :: r, σ) := by
  unfold zsCmp at h
  split at h
  · cases h; exact ⟨_, _, _, rfl, rfl⟩
  · cases h
theorem zvDup (h : zsDup ls st σ = some x) : ∃ v r, st = v :: r ∧ v.category = 1 ∧ x = .inl (0, ls, v :: v :: r, σ) := by
  unfold zsDup at h
  split at h
  · split at h
    · rename_i hv; cases h; exact ⟨_, _, rfl, hv, rfl⟩
    · cases h
  · cases h
theorem zvDup2 (h : zsDup2 ls st σ = some x) : (∃ v r, st = v :: r ∧ v.category = 2 ∧ x = .inl (0, ls, v :: v :: r, σ)) ∨ ∃ v w r, st = v :: w :: r ∧ v.category = 1 ∧ w.category = 1 ∧ x = .inl (0, ls, v :: w :: v :: w :: r, σ) := by
  unfold zsDup2 at h
  split at h
  · split at h
    · rename_i hv; cases h; exact Or.inl ⟨_, _, rfl, hv, rfl⟩
    · split at h
      · split at h
        · rename_i hv; cases h; exact Or.inr ⟨_, _, _, rfl, hv.1, hv.2, rfl⟩
        · cases h
      · cases h
  · cases h
theorem zvPop (h : zsPop ls st σ = some x) : ∃ v r, st = v :: r ∧ v.category = 1 ∧ x = .inl (0, ls, r, σ) := by
  unfold zsPop at h
  split at h
  · split at h
    · rename_i hv; cases h; exact ⟨_, _, rfl, hv, rfl⟩
    · cases h
  · cases h
theorem zvPop2 (h : zsPop2 ls st σ = some x) : ∃ v r, st = v :: r ∧ v.category = 2 ∧ x = .inl (0, ls, r, σ) := by
  unfold zsPop2 at h
  split at h
  · split at h
    · rename_i hv; cases h; exact ⟨_, _, rfl, hv, rfl⟩
    · cases h
  · cases h
theorem zvIf {k b : Nat} (h : zsIf k b ls st σ = some x) : ∃ v r, st = .int v :: r ∧ ((zxC k v 0 ∧ x = .inl (b + 1, ls, r, σ)) ∨ (¬ zxC k v 0 ∧ x = .inl (0, ls, r, σ))) := by
  unfold zsIf at h
  split at h
  · split at h
    · rename_i hv; cases h; exact ⟨_, _, rfl, Or.inl ⟨hv, rfl⟩⟩
    · rename_i hv; cases h; exact ⟨_, _, rfl, Or.inr ⟨hv, rfl⟩⟩
  · cases h
theorem zvIc {k b : Nat} (h : zsIc k b ls st σ = some x) : ∃ u v r, st = .int v :: .int u :: r ∧ ((zxC k u v ∧ x = .inl (b + 1, ls, r, σ)) ∨ (¬ zxC k u v ∧ x = .inl (0, ls, r, σ))) := by
  unfold zsIc at h
  split at h
  · split at h
    · rename_i hv; cases h; exact ⟨_, _, _, rfl, Or.inl ⟨hv, rfl⟩⟩
    · rename_i hv; cases h; exact ⟨_, _, _, rfl, Or.inr ⟨hv, rfl⟩⟩
  · cases h
theorem zvJn {b b' : Nat} (h : zsJn b b' ls st σ = some x) : (∃ r, st = .null :: r ∧ x = .inl (b, ls, r, σ)) ∨ ∃ a r, st = .ref a :: r ∧ x = .inl (b', ls, r, σ) := by
  unfold zsJn at h
  split at h
  · cases h; exact Or.inl ⟨_, rfl, rfl⟩
  · cases h; exact Or.inr ⟨_, _, rfl, rfl⟩
  · cases h
theorem zvTsw {b : Nat} {lo : Int32} {bs : List Nat} (h : zsTsw b lo bs ls st σ = some x) : ∃ v r, st = .int v :: r ∧ (((v.toInt < lo.toInt ∨ lo.toInt + bs.length ≤ v.toInt) ∧ x = .inl (b + 1, ls, r, σ)) ∨ (¬ (v.toInt < lo.toInt ∨ lo.toInt + bs.length ≤ v.toInt) ∧ ∃ b', bs[(v.toInt - lo.toInt).toNat]? = some b' ∧ x = .inl (b' + 1, ls, r, σ))) := by
  unfold zsTsw at h
  split at h
  · split at h
    · rename_i hv; cases h; exact ⟨_, _, rfl, Or.inl ⟨hv, rfl⟩⟩
    · rename_i hv
      split at h
      · rename_i hb; cases h; exact ⟨_, _, rfl, Or.inr ⟨hv, _, hb, rfl⟩⟩
      · cases h
  · cases h
theorem zvLsw {b : Nat} {ks bs : List Nat} (h : zsLsw b ks bs ls st σ = some x) : ∃ v r, st = .int v :: r ∧ ((∃ b', zxLk v.toInt ks bs = some b' ∧ x = .inl (b' + 1, ls, r, σ)) ∨ (zxLk v.toInt ks bs = none ∧ x = .inl (b + 1, ls, r, σ))) := by
  unfold zsLsw at h
  split at h
  · split at h
    · rename_i hb; cases h; exact ⟨_, _, rfl, Or.inl ⟨_, hb, rfl⟩⟩
    · rename_i hb; cases h; exact ⟨_, _, rfl, Or.inr ⟨hb, rfl⟩⟩
  · cases h
theorem zvGet {c k t : Nat} (h : zsGet c k t ls st σ = some x) : ∃ a r, st = .ref a :: r ∧ a % 32 = c ∧ ((t = 1 ∧ x = .inl (0, ls, .long (σ.2.1 a k) :: r, σ)) ∨ (t = 2 ∧ x = .inl (0, ls, va_rf (σ.2.2.1 a k) :: r, σ)) ∨ (t ≠ 1 ∧ t ≠ 2 ∧ x = .inl (0, ls, .int (σ.1 a k) :: r, σ))) := by
  unfold zsGet at h
  split at h
  · split at h
    · rename_i hc
      split at h
      · cases h; exact ⟨_, _, rfl, hc, Or.inl ⟨rfl, rfl⟩⟩
      · cases h; exact ⟨_, _, rfl, hc, Or.inr (Or.inl ⟨rfl, rfl⟩)⟩
      · rename_i h1 h2; cases h; exact ⟨_, _, rfl, hc, Or.inr (Or.inr ⟨h1, h2, rfl⟩)⟩
    · cases h
  · cases h
theorem zvPut {c k t : Nat} (h : zsPut c k t ls st σ = some x) : ∃ v a r, st = v :: .ref a :: r ∧ a % 32 = c ∧ ((∃ y, v = .int y ∧ (t = 0 ∨ (t = 3 ∧ (y = 0 ∨ y = 1))) ∧ x = .inl (0, ls, r, (zu σ.1 a k y, σ.2))) ∨ (∃ y, v = .long y ∧ t = 1 ∧ x = .inl (0, ls, r, (σ.1, zu σ.2.1 a k y, σ.2.2))) ∨ (∃ y, v = va_rf y ∧ t = 2 ∧ x = .inl (0, ls, r, (σ.1, σ.2.1, zu σ.2.2.1 a k y, σ.2.2.2)))) := by
  unfold zsPut at h
  split at h
  · split at h
    · rename_i hc; cases h; exact ⟨_, _, _, rfl, hc, Or.inl ⟨_, rfl, Or.inl rfl, rfl⟩⟩
    · cases h
  · split at h
    · rename_i hc; cases h; exact ⟨_, _, _, rfl, hc, Or.inr (Or.inl ⟨_, rfl, rfl, rfl⟩)⟩
    · cases h
  · split at h
    · rename_i v a r hc; cases h; exact ⟨_, _, _, rfl, hc, Or.inr (Or.inr ⟨some v, rfl, rfl, rfl⟩)⟩
    · cases h
  · split at h
    · rename_i hc; cases h; exact ⟨_, _, _, rfl, hc, Or.inr (Or.inr ⟨none, rfl, rfl, rfl⟩)⟩
    · cases h
  · split at h
    · rename_i hc; cases h; exact ⟨_, _, _, rfl, hc.1, Or.inl ⟨_, rfl, Or.inr ⟨rfl, hc.2⟩, rfl⟩⟩
    · cases h
  · cases h
theorem zvAld {t : Nat} (h : zsAld t ls st σ = some x) : ∃ i a r, st = .int i :: .ref a :: r ∧ ¬ (i < 0 ∨ σ.2.2.2.1 a ≤ i.toNatClampNeg) ∧ ((t = 0 ∧ (a % 32 = 16 ∨ a % 32 = 22) ∧ x = .inl (0, ls, .int (σ.1 a i.toNatClampNeg) :: r, σ)) ∨ (t = 1 ∧ a % 32 = 17 ∧ x = .inl (0, ls, .long (σ.2.1 a i.toNatClampNeg) :: r, σ)) ∨ (t = 2 ∧ (a % 32 = 19 ∨ a % 32 = 20 ∨ a % 32 = 21) ∧ x = .inl (0, ls, va_rf (σ.2.2.1 a i.toNatClampNeg) :: r, σ)) ∨ (t = 3 ∧ (a % 32 = 15 ∨ a % 32 = 18) ∧ x = .inl (0, ls, .int (σ.1 a i.toNatClampNeg) :: r, σ))) := by
  unfold zsAld at h
  split at h
  · split at h
    · cases h
    · rename_i hi
      split at h
      · split at h
        · rename_i hc; cases h; exact ⟨_, _, _, rfl, hi, Or.inl ⟨rfl, hc, rfl⟩⟩
        · cases h
      · split at h
        · rename_i hc; cases h; exact ⟨_, _, _, rfl, hi, Or.inr (Or.inl ⟨rfl, hc, rfl⟩)⟩
        · cases h
      · split at h
        · rename_i hc; cases h; exact ⟨_, _, _, rfl, hi, Or.inr (Or.inr (Or.inl ⟨rfl, hc, rfl⟩))⟩
        · cases h
      · split at h
        · rename_i hc; cases h; exact ⟨_, _, _, rfl, hi, Or.inr (Or.inr (Or.inr ⟨rfl, hc, rfl⟩))⟩
        · cases h
      · cases h
  · cases h
theorem zvAst0 (h : zsAst 0 ls st σ = some x) : ∃ y i a r, st = .int y :: .int i :: .ref a :: r ∧ ¬ (i < 0 ∨ σ.2.2.2.1 a ≤ i.toNatClampNeg) ∧ a % 32 = 16 ∧ x = .inl (0, ls, r, (zu σ.1 a i.toNatClampNeg y, σ.2)) := by
  match st, h with
  | .int y :: .int i :: .ref a :: r, h =>
    simp only [zsAst] at h
    split at h
    · cases h
    · rename_i hc; cases h; exact ⟨y, i, a, r, rfl, fun e => hc (Or.inl e), Decidable.not_not.mp fun e => hc (Or.inr e), rfl⟩
theorem zvAst1 (h : zsAst 1 ls st σ = some x) : ∃ y i a r, st = .long y :: .int i :: .ref a :: r ∧ ¬ (i < 0 ∨ σ.2.2.2.1 a ≤ i.toNatClampNeg) ∧ a % 32 = 17 ∧ x = .inl (0, ls, r, (σ.1, zu σ.2.1 a i.toNatClampNeg y, σ.2.2)) := by
  match st, h with
  | .long y :: .int i :: .ref a :: r, h =>
    simp only [zsAst] at h
    split at h
    · cases h
    · rename_i hc; cases h; exact ⟨y, i, a, r, rfl, fun e => hc (Or.inl e), Decidable.not_not.mp fun e => hc (Or.inr e), rfl⟩
theorem zvAst2 (h : zsAst 2 ls st σ = some x) : (∃ y i a r, st = .ref y :: .int i :: .ref a :: r ∧ ¬ (i < 0 ∨ σ.2.2.2.1 a ≤ i.toNatClampNeg) ∧ y % 32 = zcomp (a % 32) ∧ x = .inl (0, ls, r, (σ.1, σ.2.1, zu σ.2.2.1 a i.toNatClampNeg (some y), σ.2.2.2))) ∨ (∃ i a r, st = .null :: .int i :: .ref a :: r ∧ ¬ (i < 0 ∨ σ.2.2.2.1 a ≤ i.toNatClampNeg) ∧ (a % 32 = 19 ∨ a % 32 = 20 ∨ a % 32 = 21) ∧ x = .inl (0, ls, r, (σ.1, σ.2.1, zu σ.2.2.1 a i.toNatClampNeg none, σ.2.2.2))) := by
  match st, h with
  | .ref y :: .int i :: .ref a :: r, h =>
    simp only [zsAst] at h
    split at h
    · cases h
    · rename_i hc; cases h; exact Or.inl ⟨y, i, a, r, rfl, fun e => hc (Or.inl e), Decidable.not_not.mp fun e => hc (Or.inr e), rfl⟩
  | .null :: .int i :: .ref a :: r, h =>
    simp only [zsAst] at h
    split at h
    · cases h
    · rename_i hc; cases h; exact Or.inr ⟨i, a, r, rfl, fun e => hc (Or.inl e), Decidable.not_not.mp fun e => hc (Or.inr e), rfl⟩
theorem zvAst3 (h : zsAst 3 ls st σ = some x) : ∃ y i a r, st = .int y :: .int i :: .ref a :: r ∧ ¬ (i < 0 ∨ σ.2.2.2.1 a ≤ i.toNatClampNeg) ∧ ((a % 32 = 15 ∧ x = .inl (0, ls, r, (zu σ.1 a i.toNatClampNeg y.toInt8.toInt32, σ.2))) ∨ (a % 32 = 18 ∧ (y = 0 ∨ y = 1) ∧ x = .inl (0, ls, r, (zu σ.1 a i.toNatClampNeg y, σ.2)))) := by
  match st, h with
  | .int y :: .int i :: .ref a :: r, h =>
    simp only [zsAst] at h
    split at h
    · cases h
    · rename_i hc
      split at h
      · rename_i h1; cases h; exact ⟨y, i, a, r, rfl, hc, Or.inl ⟨h1, rfl⟩⟩
      · split at h
        · rename_i h1; cases h; exact ⟨y, i, a, r, rfl, hc, Or.inr ⟨h1.1, h1.2, rfl⟩⟩
        · cases h
theorem zvLen (h : zsLen ls st σ = some x) : ∃ a r, st = .ref a :: r ∧ 15 ≤ a % 32 ∧ a % 32 ≤ 22 ∧ x = .inl (0, ls, .int (nI (σ.2.2.2.1 a)) :: r, σ) := by
  unfold zsLen at h
  split at h
  · split at h
    · rename_i hc; cases h; exact ⟨_, _, rfl, hc.1, hc.2, rfl⟩
    · cases h
  · cases h
theorem zvNewa {kd : Nat} (h : zsNewa kd ls st σ = some x) : ∃ n r, st = .int n :: r ∧ ¬ n < 0 ∧ n.toNatClampNeg ≤ 67108864 ∧ kd < 22 ∧ x = .inl (0, ls, .ref (32 * σ.2.2.2.2.1 + kd) :: r, zmake σ kd n.toNatClampNeg n.toNatClampNeg) := by
  unfold zsNewa at h
  split at h
  · split at h
    · cases h
    · rename_i hc; cases h; exact ⟨_, _, rfl, fun e => hc (Or.inl (Or.inl e)), Nat.le_of_not_lt fun e => hc (Or.inl (Or.inr e)), Nat.lt_of_not_le fun e => hc (Or.inr e), rfl⟩
  · cases h
theorem zvCal {q n md c : Nat} (h : zsCal q n md c ls st σ = some x) : n ≤ st.length ∧ zcat (st.drop n) ≤ 8 ∧ x = .inr (.inl (q, (st.take n).reverse, ls, st.drop n, σ)) ∧ (md = 0 ∨ ∃ a as, (st.take n).reverse = .ref a :: as ∧ a % 32 = c) := by
  unfold zsCal at h
  split at h
  · rename_i hn
    split at h
    · cases h; exact ⟨hn.1, hn.2, rfl, Or.inl rfl⟩
    · rename_i hr
      split at h
      · rename_i hc; cases h; exact ⟨hn.1, hn.2, by rw [hr], Or.inr ⟨_, _, hr, hc⟩⟩
      · cases h
    · cases h
  · cases h
theorem zvRet {t : Nat} (h : zsRet t st σ = some x) : (t = 0 ∧ st = [] ∧ x = .inr (.inr (none, σ))) ∨ (∃ v, t = 1 ∧ st = [.int v] ∧ x = .inr (.inr (some (.int v), σ))) ∨ (∃ v, t = 2 ∧ st = [.int v] ∧ (v = 0 ∨ v = 1) ∧ x = .inr (.inr (some (.int v), σ))) ∨ (∃ v, t = 3 ∧ st = [.long v] ∧ x = .inr (.inr (some (.long v), σ))) ∨ (∃ o, t = 4 ∧ st = [va_rf o] ∧ x = .inr (.inr (some (va_rf o), σ))) := by
  unfold zsRet at h
  split at h
  · cases h; exact Or.inl ⟨rfl, rfl, rfl⟩
  · cases h; exact Or.inr (Or.inl ⟨_, rfl, rfl, rfl⟩)
  · split at h
    · rename_i hv; cases h; exact Or.inr (Or.inr (Or.inl ⟨_, rfl, rfl, hv, rfl⟩))
    · cases h
  · cases h; exact Or.inr (Or.inr (Or.inr (Or.inl ⟨_, rfl, rfl, rfl⟩)))
  · rename_i v; cases h; exact Or.inr (Or.inr (Or.inr (Or.inr ⟨some v, rfl, rfl, rfl⟩)))
  · cases h; exact Or.inr (Or.inr (Or.inr (Or.inr ⟨none, rfl, rfl, rfl⟩)))
  · cases h
theorem zvAcp (h : zsAcp ls st σ = some x) : ∃ n dp b sp a r, st = .int n :: .int dp :: .ref b :: .int sp :: .ref a :: r ∧ ¬ sp < 0 ∧ ¬ dp < 0 ∧ ¬ n < 0 ∧ sp.toNatClampNeg + n.toNatClampNeg ≤ σ.2.2.2.1 a ∧ dp.toNatClampNeg + n.toNatClampNeg ≤ σ.2.2.2.1 b ∧ zcat r ≤ 8 ∧ a % 32 = b % 32 ∧
    (((a % 32 = 15 ∨ a % 32 = 16) ∧ x = .inl (0, ls, r, (zcp σ.1 a sp.toNatClampNeg b dp.toNatClampNeg n.toNatClampNeg, σ.2))) ∨ (a % 32 = 17 ∧ x = .inl (0, ls, r, (σ.1, zcp σ.2.1 a sp.toNatClampNeg b dp.toNatClampNeg n.toNatClampNeg, σ.2.2)))) := by
  unfold zsAcp at h
  split at h
  · split at h
    · cases h
    · rename_i hc
      simp only [not_or, Nat.not_lt, Decidable.not_not] at hc
      obtain ⟨⟨h1, h2, h3⟩, h4, h5, h6, h7⟩ := hc
      split at h
      · rename_i hk; cases h; exact ⟨_, _, _, _, _, _, rfl, h1, h2, h3, h4, h5, h6, h7, Or.inl ⟨hk, rfl⟩⟩
      · split at h
        · rename_i hk; cases h; exact ⟨_, _, _, _, _, _, rfl, h1, h2, h3, h4, h5, h6, h7, Or.inr ⟨hk, rfl⟩⟩
        · cases h
  · cases h
theorem zvLco {q : Nat} (h : zsLco q ls st σ = some x) : ∃ b z y w a r, st = .ref b :: .int z :: .int y :: .int w :: .ref a :: r ∧ a % 32 = 11 ∧ b % 32 = 17 ∧ 0 < σ.2.2.2.1 b ∧ zcat r ≤ 8 ∧ x = .inr (.inl (q, [.ref a, .int w, .int y, .int z], ls, .ref b :: r, σ)) := by
  unfold zsLco at h
  split at h
  · split at h
    · rename_i hc; cases h; exact ⟨_, _, _, _, _, _, rfl, hc.1.1, hc.1.2.1, hc.1.2.2, hc.2, rfl⟩
    · cases h
  · cases h
theorem zvOini (h : zsOini ls st σ = some x) : ∃ a r, st = .ref a :: r ∧ zcat r ≤ 8 ∧ x = .inl (0, ls, r, σ) := by
  unfold zsOini at h
  split at h
  · split at h
    · rename_i hc; cases h; exact ⟨_, _, rfl, hc, rfl⟩
    · cases h
  · cases h
theorem zvCst {kd : Nat} (h : zsCst kd ls st σ = some x) : ∃ a r, st = .ref a :: r ∧ a % 32 = kd ∧ (kd = 15 ∨ kd = 16 ∨ kd = 17) ∧ x = .inl (0, ls, .ref a :: r, σ) := by
  unfold zsCst at h
  split at h
  · split at h
    · rename_i hc; cases h; exact ⟨_, _, rfl, hc.1, hc.2, rfl⟩
    · cases h
  · cases h
end
