/-! the law's loop as a whole -/
theorem nI_sub4 {L i : Nat} (hL : L < 2 ^ 31) (hi : i < 2 ^ 31) : (nI L - 4 < nI i) ↔ L < i + 4 := by
  rw [Int32.lt_iff_toInt_lt, Int32.toInt_sub, nI_toInt hL, nI_toInt hi]
  have e : (4 : Int32).toInt = 4 := rfl
  rw [e, Int.bmod_eq_of_le (by omega) (by omega)]
  omega
def zTwoI (qx qm : Nat) (as : List Value) (L : Nat) (xs : Nat → Int32) (σ : zS) (K : zS → Prop) : Prop := zC qx (.ref 11 :: as) σ (fun r τ => ∃ y, r = some (.int y) ∧ zScr L xs τ ∧ zC qm (.ref 3118 :: as) τ (fun r' τ' => r' = some (.int y) ∧ K τ'))
def zTwoJ (qx qm : Nat) (as : List Value) (L : Nat) (xs : Nat → Int32) (σ : zS) (K : zS → Prop) : Prop := zC qx (.ref 11 :: as) σ (fun r τ => ∃ y, r = some (.long y) ∧ zScr L xs τ ∧ zC qm (.ref 3118 :: as) τ (fun r' τ' => r' = some (.long y) ∧ K τ'))
def zTwoV (σ : zS) (K : zS → Prop) : Prop := zC 158 [.ref 11] σ (fun r τ => r = none ∧ zC 248 [.ref 3118] τ (fun r' τ' => r' = none ∧ K τ'))
def zTwoT (a b c : Int32) (L : Nat) (xs : Nat → Int32) (σ : zS) (K : zS → Prop) : Prop := zC 165 [.ref 11, .int a, .int b, .int c] σ (fun r τ => (∃ y, r = some (.long y) ∧ zScr L xs τ ∧ zC 306 [.ref 3118, .int a, .int b, .int c] (τ.1, zu τ.2.1 6417 0 y, τ.2.2) (fun r' τ' => r' = some (.long y) ∧ τ'.2.1 6417 0 = y ∧ τ'.2.2.2.1 6417 = 1 ∧ τ'.1 3118 63 = 0 ∧ K τ')) ∨ (r = some (.retAddr 41) ∧ zScr L xs τ ∧ zC 306 [.ref 3118, .int a, .int b, .int c] (zthrown τ) (fun r' τ' => ∃ y, r' = some (.long y) ∧ τ'.1 3118 63 = 1 ∧ K τ')))
/-- call k with three ints -/
def zCall (k : Nat) (a b c : Int32) (L : Nat) (xs : Nat → Int32) (σ : zS) (K : zS → Prop) : Prop := match k with
  | 0 => zTwoI 157 247 [.long (zlg a b), .int c] L xs σ K
  | 1 => zTwoV σ K
  | 2 => zTwoI 159 255 [.int a, .long (zlg b c)] L xs σ K
  | 3 => zTwoI 160 256 [] L xs σ K
  | 4 => zTwoI 161 302 [] L xs σ K
  | 5 => zTwoI 162 303 [] L xs σ K
  | 6 => zTwoI 163 304 [.int a] L xs σ K
  | 7 => zTwoI 164 305 [.int a, .int b] L xs σ K
  | 8 => zTwoT a b c L xs σ K
  | 9 => zTwoI 166 307 [.int a, .int b] L xs σ K
  | 10 => zTwoJ 167 308 [.int a, .long (zlg b c)] L xs σ K
  | 11 => zTwoI 168 309 [.int a, .int b] L xs σ K
  | 12 => zTwoI 169 310 [.int a] L xs σ K
  | 13 => zTwoI 170 311 [.int a, .int b] L xs σ K
  | 14 => zTwoJ 171 312 [.int a] L xs σ K
  | _ => K σ
def zbk (k : Nat) : Nat := match k with
  | 0 => 2 | 1 => 3 | 2 => 4 | 3 => 5 | 4 => 6 | 5 => 7 | 6 => 8 | 7 => 9 | 8 => 10 | 9 => 13 | 10 => 14 | 11 => 15 | 12 => 16 | 13 => 17 | 14 => 18 | _ => 19
theorem zdisp {L i k : Nat} {xs : Nat → Int32} {u v w : Option Value} {σ : zS} {Q : Option Value → zS → Prop} (hL : L < 2 ^ 31) (hi : i + 3 < L) (hs : zScr L xs σ) (hk : k < 16) (h0 : xs i &&& 15 = nI k) (h : zQ zt328 (zt328 (zbk k)) (zls i u v w) [] σ Q) : zQ zt328 zo328_1 (zls i u v w) [] σ Q := by
  obtain ⟨s1, s2, s3⟩ := hs
  have hc0 : (nI i).toNatClampNeg = i := nI_clamp (by omega)
  have hn0 : ¬ nI i < 0 := nI_pos (by omega)
  have hl0 : ¬ L ≤ i := by omega
  have hb : ¬ (nI L - 4 < nI i) := fun h => by have := (nI_sub4 hL (by omega)).1 h; omega
  simp only [zo328_1, zls, s1, s2, hc0, hn0, hl0, hb, h0, zt328, zQ_cons, zK_go, zK_to, zK_end, zK_call, zK_iteD, zK_none, zp_ldI, zp_ldL, zp_ldA, zp_stI, zp_stL, zp_stA, zp_cI, zp_cL, zp_nul, zp_inc, zp_bI, zp_bL, zp_sL, zp_un, zp_cmp, zp_dup, zp_dup2, zp_pop, zp_pop2, zp_if, zp_ic, zp_jn, zp_jnn, zp_go, zp_fal, zp_tsw, zp_lsw, zp_get, zp_put, zp_ald, zp_ast, zp_len, zp_newa, zp_new, zp_cal, zp_ret, zp_tak, zp_cst, zp_acp, zp_oini, zp_cln, zp_thr, zp_bad, zp_lco, zsLd, zsSt, zsInc, zsBI, zsBL, zsSL, zsUn, zsCmp, zsDup, zsDup2, zsPop, zsPop2, zsIf, zsIc, zsJn, zsTsw, zsLsw, zsGet, zsPut, zsAld, zsAst, zsLen, zsNewa, zsCal, zsRet, zsCst, zsAcp, zsOini, zsCln, zsLco, zsThr, zxBI, zxBL, zxSL, zxU, zxC, zset1, zset2, zclr, zcat, zmake_mk, zcomp, zaft_c, zaft_cn, List.set_cons_zero, List.set_cons_succ, List.getElem?_cons_zero, List.getElem?_cons_succ, List.length_cons, List.length_nil, List.take_succ_cons, List.take_zero, List.drop_succ_cons, List.drop_zero, List.reverse_cons, List.reverse_nil, List.nil_append, List.cons_append, List.map_cons, List.map_nil, List.sum_cons, List.sum_nil, Option.toList_some, Option.toList_none, Value.category, Nat.reduceAdd, Nat.reduceMul, Nat.reduceMod, Nat.reduceDiv, Nat.reduceSub, Nat.reduceLT, Nat.reduceLeDiff, Nat.reduceEqDiff, Nat.zero_le, Nat.le_refl, Int32.reduceToNatClampNeg, Int32.reduceLT, Int32.reduceLE, Int32.reduceAdd, Int32.reduceSub, Int32.reduceMul, reduceIte, reduceCtorEq, Nat.add_zero, Nat.zero_add, true_or, or_true, false_or, or_false, true_and, and_true, false_and, and_false, not_true_eq_false, not_false_eq_true, if_true, if_false, true_implies, false_implies, implies_true, forall_const, false_imp_iff, true_imp_iff, va_rf, ne_eq, Nat.reduceAdd, Int32.reduceOfNat]
  have e : (nI k).toInt = (k : Int) := nI_toInt (by omega)
  rw [e]
  have e0 : Int32.toInt 0 = 0 := rfl
  rw [e0]
  have hz : ((k : Int) - 0).toNat = k := by omega
  rw [hz]
  by_cases hk15 : k = 15
  · subst hk15
    exact ⟨fun _ => h, fun hh => absurd (Or.inr (by omega)) hh⟩
  · refine ⟨fun hh => by rcases hh with hh | hh <;> omega, fun _ => ?_⟩
    revert h
    have : k = 0 ∨ k = 1 ∨ k = 2 ∨ k = 3 ∨ k = 4 ∨ k = 5 ∨ k = 6 ∨ k = 7 ∨ k = 8 ∨ k = 9 ∨ k = 10 ∨ k = 11 ∨ k = 12 ∨ k = 13 ∨ k = 14 := by omega
    rcases this with rfl | rfl | rfl | rfl | rfl | rfl | rfl | rfl | rfl | rfl | rfl | rfl | rfl | rfl | rfl <;> exact fun h => h
theorem zcall_b {L i k : Nat} {xs : Nat → Int32} {u v w : Option Value} {σ : zS} {Q : Option Value → zS → Prop} (hL : L < 2 ^ 31) (hi : i + 3 < L) (hs : zScr L xs σ) (hk : k < 16) (h : zCall k (xs (i + 1)) (xs (i + 2)) (xs (i + 3)) L xs σ (fun τ => ∀ u v w, zQ zt328 zo328_19 (zls i u v w) [] τ Q)) : zQ zt328 (zt328 (zbk k)) (zls i u v w) [] σ Q := by
  have : k = 0 ∨ k = 1 ∨ k = 2 ∨ k = 3 ∨ k = 4 ∨ k = 5 ∨ k = 6 ∨ k = 7 ∨ k = 8 ∨ k = 9 ∨ k = 10 ∨ k = 11 ∨ k = 12 ∨ k = 13 ∨ k = 14 ∨ k = 15 := by omega
  rcases this with rfl | rfl | rfl | rfl | rfl | rfl | rfl | rfl | rfl | rfl | rfl | rfl | rfl | rfl | rfl | rfl
  · exact zb2 hL hi hs (zC.mono h (fun r τ ⟨y, h1, h2, h3⟩ => ⟨y, h1, h2, zC.mono h3 (fun r' τ' ⟨h4, h5⟩ => ⟨h4, h5 _ _ _⟩)⟩))
  · exact zb3 hL hi hs (zC.mono h (fun r τ ⟨h1, h3⟩ => ⟨h1, zC.mono h3 (fun r' τ' ⟨h4, h5⟩ => ⟨h4, h5 _ _ _⟩)⟩))
  · exact zb4 hL hi hs (zC.mono h (fun r τ ⟨y, h1, h2, h3⟩ => ⟨y, h1, h2, zC.mono h3 (fun r' τ' ⟨h4, h5⟩ => ⟨h4, h5 _ _ _⟩)⟩))
  · exact zb5 hL hi hs (zC.mono h (fun r τ ⟨y, h1, h2, h3⟩ => ⟨y, h1, h2, zC.mono h3 (fun r' τ' ⟨h4, h5⟩ => ⟨h4, h5 _ _ _⟩)⟩))
  · exact zb6 hL hi hs (zC.mono h (fun r τ ⟨y, h1, h2, h3⟩ => ⟨y, h1, h2, zC.mono h3 (fun r' τ' ⟨h4, h5⟩ => ⟨h4, h5 _ _ _⟩)⟩))
  · exact zb7 hL hi hs (zC.mono h (fun r τ ⟨y, h1, h2, h3⟩ => ⟨y, h1, h2, zC.mono h3 (fun r' τ' ⟨h4, h5⟩ => ⟨h4, h5 _ _ _⟩)⟩))
  · exact zb8 hL hi hs (zC.mono h (fun r τ ⟨y, h1, h2, h3⟩ => ⟨y, h1, h2, zC.mono h3 (fun r' τ' ⟨h4, h5⟩ => ⟨h4, h5 _ _ _⟩)⟩))
  · exact zb9 hL hi hs (zC.mono h (fun r τ ⟨y, h1, h2, h3⟩ => ⟨y, h1, h2, zC.mono h3 (fun r' τ' ⟨h4, h5⟩ => ⟨h4, h5 _ _ _⟩)⟩))
  · refine zb10 hL hi hs (zC.mono h ?_)
    rintro r τ (⟨y, h1, h2, h3⟩ | ⟨h1, h2, h3⟩)
    · exact Or.inl ⟨y, h1, h2, zC.mono h3 (fun r' τ' ⟨h4, h5, h6, h7, h8⟩ => ⟨h4, h5, h6, h7, h8 _ _ _⟩)⟩
    · exact Or.inr ⟨h1, h2, zC.mono h3 (fun r' τ' ⟨y, h4, h7, h8⟩ => ⟨y, h4, h7, h8 _ _ _⟩)⟩
  · exact zb13 hL hi hs (zC.mono h (fun r τ ⟨y, h1, h2, h3⟩ => ⟨y, h1, h2, zC.mono h3 (fun r' τ' ⟨h4, h5⟩ => ⟨h4, h5 _ _ _⟩)⟩))
  · exact zb14 hL hi hs (zC.mono h (fun r τ ⟨y, h1, h2, h3⟩ => ⟨y, h1, h2, zC.mono h3 (fun r' τ' ⟨h4, h5⟩ => ⟨h4, h5 _ _ _⟩)⟩))
  · exact zb15 hL hi hs (zC.mono h (fun r τ ⟨y, h1, h2, h3⟩ => ⟨y, h1, h2, zC.mono h3 (fun r' τ' ⟨h4, h5⟩ => ⟨h4, h5 _ _ _⟩)⟩))
  · exact zb16 hL hi hs (zC.mono h (fun r τ ⟨y, h1, h2, h3⟩ => ⟨y, h1, h2, zC.mono h3 (fun r' τ' ⟨h4, h5⟩ => ⟨h4, h5 _ _ _⟩)⟩))
  · exact zb17 hL hi hs (zC.mono h (fun r τ ⟨y, h1, h2, h3⟩ => ⟨y, h1, h2, zC.mono h3 (fun r' τ' ⟨h4, h5⟩ => ⟨h4, h5 _ _ _⟩)⟩))
  · exact zb18 hL hi hs (zC.mono h (fun r τ ⟨y, h1, h2, h3⟩ => ⟨y, h1, h2, zC.mono h3 (fun r' τ' ⟨h4, h5⟩ => ⟨h4, h5 _ _ _⟩)⟩))
  · exact h _ _ _
theorem zdone {L i : Nat} {xs : Nat → Int32} {u v w : Option Value} {σ : zS} {Q : Option Value → zS → Prop} (hL : L < 2 ^ 31) (hi : L < i + 4) (hi2 : i < 2 ^ 31) (hs : zScr L xs σ) (h : Q (some (.int 1)) σ) : zQ zt328 zo328_1 (zls i u v w) [] σ Q := by
  obtain ⟨s1, s2, s3⟩ := hs
  have hb : nI L - 4 < nI i := (nI_sub4 hL hi2).2 hi
  simp only [zo328_1, zo328_20, zls, s1, hb, zt328, zQ_cons, zK_go, zK_to, zK_end, zK_call, zK_iteD, zK_none, zp_ldI, zp_ldL, zp_ldA, zp_stI, zp_stL, zp_stA, zp_cI, zp_cL, zp_nul, zp_inc, zp_bI, zp_bL, zp_sL, zp_un, zp_cmp, zp_dup, zp_dup2, zp_pop, zp_pop2, zp_if, zp_ic, zp_jn, zp_jnn, zp_go, zp_fal, zp_tsw, zp_lsw, zp_get, zp_put, zp_ald, zp_ast, zp_len, zp_newa, zp_new, zp_cal, zp_ret, zp_tak, zp_cst, zp_acp, zp_oini, zp_cln, zp_thr, zp_bad, zp_lco, zsLd, zsSt, zsInc, zsBI, zsBL, zsSL, zsUn, zsCmp, zsDup, zsDup2, zsPop, zsPop2, zsIf, zsIc, zsJn, zsTsw, zsLsw, zsGet, zsPut, zsAld, zsAst, zsLen, zsNewa, zsCal, zsRet, zsCst, zsAcp, zsOini, zsCln, zsLco, zsThr, zxBI, zxBL, zxSL, zxU, zxC, zset1, zset2, zclr, zcat, zmake_mk, zcomp, zaft_c, zaft_cn, List.set_cons_zero, List.set_cons_succ, List.getElem?_cons_zero, List.getElem?_cons_succ, List.length_cons, List.length_nil, List.take_succ_cons, List.take_zero, List.drop_succ_cons, List.drop_zero, List.reverse_cons, List.reverse_nil, List.nil_append, List.cons_append, List.map_cons, List.map_nil, List.sum_cons, List.sum_nil, Option.toList_some, Option.toList_none, Value.category, Nat.reduceAdd, Nat.reduceMul, Nat.reduceMod, Nat.reduceDiv, Nat.reduceSub, Nat.reduceLT, Nat.reduceLeDiff, Nat.reduceEqDiff, Nat.zero_le, Nat.le_refl, Int32.reduceToNatClampNeg, Int32.reduceLT, Int32.reduceLE, Int32.reduceAdd, Int32.reduceSub, Int32.reduceMul, reduceIte, reduceCtorEq, Nat.add_zero, Nat.zero_add, true_or, or_true, false_or, or_false, true_and, and_true, false_and, and_false, not_true_eq_false, not_false_eq_true, if_true, if_false, true_implies, false_implies, implies_true, forall_const, false_imp_iff, true_imp_iff, va_rf, ne_eq, Nat.reduceAdd, Int32.reduceOfNat]
  exact h
theorem zCall.mono {k : Nat} {a b c : Int32} {L : Nat} {xs : Nat → Int32} {σ : zS} {K K' : zS → Prop} (h : zCall k a b c L xs σ K) (hi : ∀ τ, K τ → K' τ) : zCall k a b c L xs σ K' := by
  unfold zCall at h ⊢
  split at h
  all_goals first
    | exact zC.mono h (fun r τ ⟨y, h1, h2, h3⟩ => ⟨y, h1, h2, zC.mono h3 (fun r' τ' ⟨h4, h5⟩ => ⟨h4, hi _ h5⟩)⟩)
    | exact zC.mono h (fun r τ ⟨h1, h3⟩ => ⟨h1, zC.mono h3 (fun r' τ' ⟨h4, h5⟩ => ⟨h4, hi _ h5⟩)⟩)
    | exact hi _ h
    | refine zC.mono h ?_
      rintro r τ (⟨y, h1, h2, h3⟩ | ⟨h1, h2, h3⟩)
      · exact Or.inl ⟨y, h1, h2, zC.mono h3 (fun r' τ' ⟨h4, h5, h6, h7, h8⟩ => ⟨h4, h5, h6, h7, hi _ h8⟩)⟩
      · exact Or.inr ⟨h1, h2, zC.mono h3 (fun r' τ' ⟨y, h4, h7, h8⟩ => ⟨y, h4, h7, hi _ h8⟩)⟩
theorem zloop {L : Nat} {xs : Nat → Int32} {Q : Option Value → zS → Prop} (hL : L ≤ 2049) (Inv : Nat → zS → Prop) (hS : ∀ i σ, Inv i σ → zScr L xs σ) (hE : ∀ i σ, Inv i σ → L < i + 4 → Q (some (.int 1)) σ) (hC : ∀ i σ k, i + 3 < L → Inv i σ → k < 16 → xs i &&& 15 = nI k → zCall k (xs (i + 1)) (xs (i + 2)) (xs (i + 3)) L xs σ (Inv (i + 4))) : ∀ (m i : Nat) (u v w : Option Value) (σ : zS), L ≤ i + m → i ≤ 4096 → Inv i σ → zQ zt328 zo328_1 (zls i u v w) [] σ Q := by
  intro m
  induction m with
  | zero =>
    intro i u v w σ hm hi h
    exact zdone (by omega) (by omega) (by omega) (hS i σ h) (hE i σ h (by omega))
  | succ m ih =>
    intro i u v w σ hm hi h
    by_cases hl : i + 3 < L
    · obtain ⟨k, hk, h0⟩ := pk_andE (xs i) (m := 15) 4 rfl
      refine zdisp (by omega) hl (hS i σ h) hk h0 (zcall_b (by omega) hl (hS i σ h) hk ?_)
      have hc := hC i σ k hl h hk h0
      refine zCall.mono hc (fun τ hτ u v w => ?_)
      have := ih (i + 4) u v w τ (by omega) (by omega) hτ
      simp only [zo328_19, zls, nS4, zt328, zQ_cons, zK_go, zK_to, zK_end, zK_call, zK_iteD, zK_none, zp_ldI, zp_ldL, zp_ldA, zp_stI, zp_stL, zp_stA, zp_cI, zp_cL, zp_nul, zp_inc, zp_bI, zp_bL, zp_sL, zp_un, zp_cmp, zp_dup, zp_dup2, zp_pop, zp_pop2, zp_if, zp_ic, zp_jn, zp_jnn, zp_go, zp_fal, zp_tsw, zp_lsw, zp_get, zp_put, zp_ald, zp_ast, zp_len, zp_newa, zp_new, zp_cal, zp_ret, zp_tak, zp_cst, zp_acp, zp_oini, zp_cln, zp_thr, zp_bad, zp_lco, zsLd, zsSt, zsInc, zsBI, zsBL, zsSL, zsUn, zsCmp, zsDup, zsDup2, zsPop, zsPop2, zsIf, zsIc, zsJn, zsTsw, zsLsw, zsGet, zsPut, zsAld, zsAst, zsLen, zsNewa, zsCal, zsRet, zsCst, zsAcp, zsOini, zsCln, zsLco, zsThr, zxBI, zxBL, zxSL, zxU, zxC, zset1, zset2, zclr, zcat, zmake_mk, zcomp, zaft_c, zaft_cn, List.set_cons_zero, List.set_cons_succ, List.getElem?_cons_zero, List.getElem?_cons_succ, List.length_cons, List.length_nil, List.take_succ_cons, List.take_zero, List.drop_succ_cons, List.drop_zero, List.reverse_cons, List.reverse_nil, List.nil_append, List.cons_append, List.map_cons, List.map_nil, List.sum_cons, List.sum_nil, Option.toList_some, Option.toList_none, Value.category, Nat.reduceAdd, Nat.reduceMul, Nat.reduceMod, Nat.reduceDiv, Nat.reduceSub, Nat.reduceLT, Nat.reduceLeDiff, Nat.reduceEqDiff, Nat.zero_le, Nat.le_refl, Int32.reduceToNatClampNeg, Int32.reduceLT, Int32.reduceLE, Int32.reduceAdd, Int32.reduceSub, Int32.reduceMul, reduceIte, reduceCtorEq, Nat.add_zero, Nat.zero_add, true_or, or_true, false_or, or_false, true_and, and_true, false_and, and_false, not_true_eq_false, not_false_eq_true, if_true, if_false, true_implies, false_implies, implies_true, forall_const, false_imp_iff, true_imp_iff, va_rf, ne_eq, Nat.reduceAdd, Int32.reduceOfNat]
      exact this
    · exact zdone (by omega) (by omega) (by omega) (hS i σ h) (hE i σ h (by omega))
