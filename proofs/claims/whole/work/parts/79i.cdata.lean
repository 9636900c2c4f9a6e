-- needs: 01 02.names 03 04 05 18 19 20 22 23 24 25 30 31 32 33 36 40 42 43 44 46 47 60 61 62 63 64 79f 79g 79h
/-! READING DATA by the class -/
/-- what has been begun, the innermost first, and what is to come in each -/
def zLo (I : zI) (b0 bt : Nat) : Nat → List Nat → List Nat → Prop
  | _, W, [] => W = [bt]
  | ex, W, o :: O => ∃ l W', W = l :: W' ∧ I 368 O.length = nI (b0 + o) ∧ I 400 O.length = nI (l + ex) ∧ l ≤ 402 ∧ zLo I b0 bt 1 W' O
def zOl (B : Nat → Nat) (k : Nat) : List Nat → Prop
  | [] => True
  | o :: O => zlvl B o = O.length + 1 ∧ o < k ∧ (∀ i, o < i → i < k → zlvl B o < zlvl B i) ∧ zOl B k O
/-- n nodes from j on are one -/
def zIsp (B : Nat → Nat) (j n : Nat) : Prop := 1 ≤ n ∧ (∀ i, 0 < i → i < n → zlvl B j < zlvl B (j + i)) ∧ zlvl B (j + n) ≤ zlvl B j
def zSpn (I : zI) (B : Nat → Nat) (b0 k : Nat) (O : List Nat) : Prop := ∀ j, j < k → j ∈ O ∨ ∃ n, zIsp B j n ∧ j + n ≤ k ∧ I 144 (b0 + j) = nI n
/-- the rows of the first k nodes -/
def zRw (I : zI) (J : zJ) (fr b0 : Nat) (B : Nat → Nat) (k : Nat) : Prop := ∀ j, j < k → I 79 (b0 + j) = nI (znQ B (zat B j)) ∧ I 112 (b0 + j) = nI (znC B (zat B j)) ∧ J 209 (b0 + j) = znT B (zat B j) ∧ (znQ B (zat B j) = 2 → I 176 (b0 + j) = nI (fr + zhX B (zat B j))) ∧ I 336 j = nI (fr + zat B j)
theorem zuC {α : Type} {F : Nat → Nat → α} {a b c d j : Nat} {v w : α} (h : c ≠ a) : zu (zu F a b v) c d w c j = zu F c d w c j := by
  by_cases hj : j = d
  · rw [hj, zu_at, zu_at]
  · rw [zu_nj hj, zu_nj hj, zuR_ne h]
theorem zppx_l : ∀ W, (zppx W).length ≤ W.length := by
  intro W
  induction W with
  | nil => exact Nat.le_refl _
  | cons l W ih =>
    unfold zppx
    split
    · exact Nat.le_succ_of_le ih
    · exact Nat.le_refl _
theorem zLo_len {I : zI} {b0 bt : Nat} : ∀ (O : List Nat) (ex : Nat) (W : List Nat), zLo I b0 bt ex W O → W.length = O.length + 1 := by
  intro O
  induction O with
  | nil => intro ex W h; have h : W = [bt] := h; rw [h]; rfl
  | cons o O ih =>
    rintro ex W ⟨l, W', rfl, -, -, -, h⟩
    show W'.length + 1 = O.length + 1 + 1
    rw [ih 1 W' h]
theorem zLo_c {I I' : zI} {b0 bt : Nat} : ∀ (O : List Nat) (ex : Nat) (W : List Nat), (∀ j, j < O.length → I' 368 j = I 368 j ∧ I' 400 j = I 400 j) → zLo I b0 bt ex W O → zLo I' b0 bt ex W O := by
  intro O
  induction O with
  | nil => intro ex W _ h; exact h
  | cons o O ih =>
    rintro ex W hj ⟨l, W', rfl, h1, h2, h3, h4⟩
    obtain ⟨e1, e2⟩ := hj O.length (by show O.length < O.length + 1; omega)
    exact ⟨l, W', rfl, e1.trans h1, e2.trans h2, h3, ih 1 W' (fun j hj' => hj j (by show j < O.length + 1; omega)) h4⟩
theorem zOl_up {B : Nat → Nat} {k : Nat} : ∀ O, O.length < zlvl B k → zOl B k O → zOl B (k + 1) O := by
  intro O
  induction O with
  | nil => intro _ _; trivial
  | cons o O ih =>
    rintro hl ⟨h1, h2, h3, h4⟩
    have hl : O.length + 1 < zlvl B k := hl
    refine ⟨h1, by omega, fun i i1 i2 => ?_, ih (by omega) h4⟩
    by_cases hik : i = k
    · subst hik; omega
    · exact h3 i i1 (by omega)
section
variable {J : zJ} {P : zP} {N : Nat → Nat} {n z t fr : Nat} {Q : Option Value → zS → Prop}
/-- what the closing changes -/
def zCf (I I' : zI) (b0 : Nat) : Prop := ∀ c j, ¬ (c = 290 ∧ j = 4) → ¬ (c = 144 ∧ b0 ≤ j) → c ≠ 400 → I' c j = I c j
set_option maxRecDepth 20000 in
set_option maxHeartbeats 4000000 in
theorem l40 {b0 k : Nat} {B : Nat → Nat} {x : Int32} (hS : zStat P N) (hb : b0 + k + 1 ≤ 3801) : ∀ (O X : List Nat) (I : zI), O.length ≤ 12 → I 290 4 = nI O.length → I 37 7 = nI (b0 + k + 1) → zLo I b0 0 0 X O → zppx X = (zsq B (k + 1)).2 → zOl B (k + 1) O → zSpn I B b0 (k + 1) O →
    (∀ (I' : zI) (O' : List Nat), zCf I I' b0 → I' 290 4 = nI O'.length → ((zsq B (k + 1)).2 = [] ∧ O' = [] ∨ ¬ (zsq B (k + 1)).2 = [] ∧ ¬ O' = [] ∧ zLo I' b0 0 0 (zsq B (k + 1)).2 O') → O'.length ≤ 12 → zOl B (k + 1) O' → zSpn I' B b0 (k + 1) O' → Q none (I', J, P, N, n, z)) →
    zQ zt40 zo40_3 [some (.ref 290), some (.int x)] [] (I, J, P, N, n, z) Q := by
  intro O
  induction O with
  | nil =>
    intro X I h12 h4 h7 hLo hX hOl hSp hR
    have hLo : X = [0] := hLo
    have e : (zsq B (k + 1)).2 = [] := by rw [← hX, hLo]; rfl
    have q := hR I [] (fun _ _ _ _ _ => rfl) h4 (Or.inl ⟨e, rfl⟩) (by decide) trivial hSp
    have e0 : nI ([] : List Nat).length = 0 := rfl
    rw [e0] at h4
    rw [zo40_3]
    simp (decide := true) (disch := omega) only [h4, zi40, zt40, zo40_0, zo40_1, zo40_2, zo40_4, zy_ldI, zy_ldL, zy_ldA, zy_stI, zy_stL, zy_stA, zy_cI, zy_cL, zy_nul, zy_inc, zy_bI, zy_bL, zy_sL, zy_un, zy_cmp, zy_dup, zy_dup2, zy_pop, zy_pop2, zy_jn, zy_jnn, zy_go, zy_fal, zy_tsw, zy_lsw, zy_get, zy_put, zy_ald, zy_ast, zy_len, zy_newa, zy_new, zy_cal, zy_ret, zy_tak, zy_cst, zy_acp, zy_oini, zy_cln, zy_thr, zy_bad, zy_lco, zy_if0, zy_ic0, zy_if1, zy_ic1, zy_if2, zy_ic2, zy_if3, zy_ic3, zy_if4, zy_ic4, zy_if5, zy_ic5, zK_go, zK_to, zK_end, zK_callH, zK_iteC, zK_none, zsLd, zsSt, zsInc, zsBI, zsBL, zsSL, zsUn, zsCmp, zsDup, zsDup2, zsPop, zsPop2, zsJn, zsTsw, zsLsw, zsGet, zsPut, zsAld, zsAst, zsLen, zsNewa, zsCal, zsRet, zsCst, zsAcp, zsOini, zsCln, zsLco, zsThr, zxBI, zxBL, zxSL, zxU, zset1, zset2, zclr, zcat, zmake_mk, zcomp, zH_i, zH_l, zH_r, zH_u, zH_n, List.set_cons_zero, List.set_cons_succ, List.getElem?_cons_zero, List.getElem?_cons_succ, List.length_cons, List.length_nil, List.take_succ_cons, List.take_zero, List.drop_succ_cons, List.drop_zero, List.reverse_cons, List.reverse_nil, List.nil_append, List.cons_append, List.map_cons, List.map_nil, List.sum_cons, List.sum_nil, Option.toList_some, Option.toList_none, Value.category, Nat.reduceAdd, Nat.reduceMul, Nat.reduceMod, Nat.reduceDiv, Nat.reduceSub, Nat.reduceLT, Nat.reduceLeDiff, Nat.reduceEqDiff, Nat.zero_le, Nat.le_refl, Int32.reduceToNatClampNeg, Int32.reduceLT, Int32.reduceLE, Int32.reduceAdd, Int32.reduceSub, Int32.reduceMul, ↓reduceIte, reduceCtorEq, Nat.add_zero, Nat.zero_add, true_or, or_true, false_or, or_false, true_and, and_true, false_and, and_false, not_true_eq_false, not_false_eq_true, if_true, if_false, true_implies, false_implies, implies_true, forall_const, false_imp_iff, true_imp_iff, va_rf, zlay, zent, List.replicate_zero, List.append_nil, List.replicate_succ, List.length_append, ne_eq, Option.some.injEq, Value.int.injEq, Value.long.injEq, Int32.reduceOfNat, Int32.reduceToInt, Int.reduceLT, Int.reduceLE, Int.reduceSub, Int.reduceToNat, Int.reduceAdd, Int.reduceNeg, Int32.reduceDiv, Int64.reduceAdd, Int64.reduceSub, lg_cmp_ge, lg_cmp_le, lg_cmp_gt, lg_cmp_lt, lg_cmp_eq, wlt_t, wlt_f, wle_t, wle_f, wmod, wI_lt, wI_le, wI_eq, wI_neg, wI_pos, wI_cl, wI_ge, wI_po, w64_lt, w64_le, w64_eq, w64_lt0, w64_le0, w64_eq0, w64_32, zc317, zc319, wI_add, wI_a1, wI_s1, wI_e0, wI_m8, wI_m128, wI_m64, wI_m190, not_true_eq_false, not_false_eq_true, sP_290_0 hS, sP_290_2 hS, sP_290_3 hS, sN_368 hS, sN_400 hS, sN_6417 hS]
    exact q
  | cons o O ih =>
    intro X I h12 h4 h7 hLo hX hOl hSp hR
    have hLo0 := hLo
    obtain ⟨l, W', rfl, h1, h2, h3, hLo⟩ := hLo
    have h12 : O.length + 1 ≤ 12 := h12
    have h4 : I 290 4 = nI (O.length + 1) := h4
    have eP : nI (O.length + 1) - 1 = nI O.length := nI_pred _
    have h2 : I 400 O.length = nI l := h2
    rw [zo40_3]
    by_cases hl : l = 0
    · subst hl
      have h2 : I 400 O.length = 0 := h2
      have hX' : zppx W' = (zsq B (k + 1)).2 := hX
      obtain ⟨o1, o2, o3, o4⟩ := hOl
      have hlen := zLo_len _ _ _ hLo
      have hsp : zIsp B o (k + 1 - o) := by
        refine ⟨by omega, fun i i1 i2 => o3 (o + i) (by omega) (by omega), ?_⟩
        rw [show o + (k + 1 - o) = k + 1 by omega, o1]
        show (zsq B (k + 1)).2.length ≤ _
        rw [← hX']
        have := zppx_l W'
        omega
      have esub : nI (b0 + k + 1) - nI (b0 + o) = nI (k + 1 - o) := by
        rw [wI_sub (by omega)]
        congr 1
        omega
      have sp : ∀ I' : zI, (∀ j, I' 144 j = zu I 144 (b0 + o) (nI (k + 1 - o)) 144 j) → zSpn I' B b0 (k + 1) O := fun I' hI' j hj => by
        by_cases hjo : j = o
        · subst hjo
          exact Or.inr ⟨k + 1 - j, hsp, by omega, by rw [hI', zu_at]⟩
        · rcases hSp j hj with h | ⟨m, m1, m2, m3⟩
          · rcases List.mem_cons.1 h with h | h
            · exact absurd h hjo
            · exact Or.inl h
          · exact Or.inr ⟨m, m1, m2, by rw [hI', zu_nj (by omega)]; exact m3⟩
      cases O with
      | nil =>
        have q := ih W' (zu (zu I 290 4 0) 144 (b0 + o) (nI (k + 1 - o))) (by decide) (by simp (disch := omega) only [zuR_ne, zu_at]; rfl) (by simp (disch := omega) only [zuR_ne]; exact h7) hLo hX' o4 (sp _ (fun j => zuC (by decide))) (fun I' O' f1 => hR I' O' (fun c j x1 x2 x3 => by rw [f1 c j x1 x2 x3]; unfold zu; rw [if_neg (by omega), if_neg (by omega)]))
        have e1 : nI (([] : List Nat).length + 1) = 1 := rfl
        have e0 : ([] : List Nat).length = 0 := rfl
        rw [e1] at h4
        rw [e0] at h1 h2
        simp (decide := true) (disch := omega) only [h4, h2, h1, h7, esub, zuR_ne, zu_nj, zu_at, zi40, zt40, zo40_0, zo40_1, zo40_2, zo40_4, zi91, zt91, zo91_0, zy_ldI, zy_ldL, zy_ldA, zy_stI, zy_stL, zy_stA, zy_cI, zy_cL, zy_nul, zy_inc, zy_bI, zy_bL, zy_sL, zy_un, zy_cmp, zy_dup, zy_dup2, zy_pop, zy_pop2, zy_jn, zy_jnn, zy_go, zy_fal, zy_tsw, zy_lsw, zy_get, zy_put, zy_ald, zy_ast, zy_len, zy_newa, zy_new, zy_cal, zy_ret, zy_tak, zy_cst, zy_acp, zy_oini, zy_cln, zy_thr, zy_bad, zy_lco, zy_if0, zy_ic0, zy_if1, zy_ic1, zy_if2, zy_ic2, zy_if3, zy_ic3, zy_if4, zy_ic4, zy_if5, zy_ic5, zK_go, zK_to, zK_end, zK_callH, zK_iteC, zK_none, zsLd, zsSt, zsInc, zsBI, zsBL, zsSL, zsUn, zsCmp, zsDup, zsDup2, zsPop, zsPop2, zsJn, zsTsw, zsLsw, zsGet, zsPut, zsAld, zsAst, zsLen, zsNewa, zsCal, zsRet, zsCst, zsAcp, zsOini, zsCln, zsLco, zsThr, zxBI, zxBL, zxSL, zxU, zset1, zset2, zclr, zcat, zmake_mk, zcomp, zH_i, zH_l, zH_r, zH_u, zH_n, List.set_cons_zero, List.set_cons_succ, List.getElem?_cons_zero, List.getElem?_cons_succ, List.length_cons, List.length_nil, List.take_succ_cons, List.take_zero, List.drop_succ_cons, List.drop_zero, List.reverse_cons, List.reverse_nil, List.nil_append, List.cons_append, List.map_cons, List.map_nil, List.sum_cons, List.sum_nil, Option.toList_some, Option.toList_none, Value.category, Nat.reduceAdd, Nat.reduceMul, Nat.reduceMod, Nat.reduceDiv, Nat.reduceSub, Nat.reduceLT, Nat.reduceLeDiff, Nat.reduceEqDiff, Nat.zero_le, Nat.le_refl, Int32.reduceToNatClampNeg, Int32.reduceLT, Int32.reduceLE, Int32.reduceAdd, Int32.reduceSub, Int32.reduceMul, ↓reduceIte, reduceCtorEq, Nat.add_zero, Nat.zero_add, true_or, or_true, false_or, or_false, true_and, and_true, false_and, and_false, not_true_eq_false, not_false_eq_true, if_true, if_false, true_implies, false_implies, implies_true, forall_const, false_imp_iff, true_imp_iff, va_rf, zlay, zent, List.replicate_zero, List.append_nil, List.replicate_succ, List.length_append, ne_eq, Option.some.injEq, Value.int.injEq, Value.long.injEq, Int32.reduceOfNat, Int32.reduceToInt, Int.reduceLT, Int.reduceLE, Int.reduceSub, Int.reduceToNat, Int.reduceAdd, Int.reduceNeg, Int32.reduceDiv, Int64.reduceAdd, Int64.reduceSub, lg_cmp_ge, lg_cmp_le, lg_cmp_gt, lg_cmp_lt, lg_cmp_eq, wlt_t, wlt_f, wle_t, wle_f, wmod, wI_lt, wI_le, wI_eq, wI_neg, wI_pos, wI_cl, wI_ge, wI_po, w64_lt, w64_le, w64_eq, w64_lt0, w64_le0, w64_eq0, w64_32, zc317, zc319, wI_add, wI_a1, wI_s1, wI_e0, wI_m8, wI_m128, wI_m64, wI_m190, not_true_eq_false, not_false_eq_true, sP_37_2 hS, sP_290_0 hS, sP_290_2 hS, sP_290_3 hS, sN_144 hS, sN_368 hS, sN_400 hS, sN_6417 hS]
        exact q
      | cons o' O' =>
        obtain ⟨l', W'', rfl, g1, g2, g3, g4⟩ := hLo
        have h12' : O'.length + 1 + 1 ≤ 12 := h12
        have eP' : nI ((o' :: O').length) - 1 = nI O'.length := nI_pred _
        have eL : nI ((o' :: O').length) = nI (O'.length + 1) := rfl
        have hp : ¬ nI (O'.length + 1) ≤ 0 := by rw [wI_po (by omega)]; omega
        have e8 : nI (O'.length + 1) - 1 = nI O'.length := nI_pred _
        have e9 : nI (l' + 1) - 1 = nI l' := nI_pred _
        have hne : O'.length ≠ (o' :: O').length := by show O'.length ≠ O'.length + 1; omega
        have q := ih (l' :: W'') (zu (zu (zu I 290 4 (nI (o' :: O').length)) 144 (b0 + o) (nI (k + 1 - o))) 400 O'.length (nI l')) (by omega) (by simp (disch := omega) only [zuR_ne, zu_at]) (by simp (disch := omega) only [zuR_ne]; exact h7) ⟨l', W'', rfl, by simp (disch := omega) only [zuR_ne]; exact g1, zu_at, g3, zLo_c _ _ _ (fun j hj => ⟨by simp (disch := omega) only [zuR_ne], by simp (disch := omega) only [zuR_ne, zu_nj]⟩) g4⟩ hX' o4 (sp _ (fun j => by rw [zuR_ne (by decide)]; exact zuC (by decide))) (fun I' O' f1 => hR I' O' (fun c j x1 x2 x3 => by rw [f1 c j x1 x2 x3]; unfold zu; rw [if_neg (by omega), if_neg (by omega), if_neg (by omega)]))
        rw [eL] at q
        have h4 : I 290 4 = nI (O'.length + 1 + 1) := h4
        have h1 : I 368 (O'.length + 1) = nI (b0 + o) := h1
        have h2 : I 400 (O'.length + 1) = 0 := h2
        have eP2 : nI (O'.length + 1 + 1) - 1 = nI (O'.length + 1) := nI_pred _
        simp (decide := true) (disch := omega) only [h4, eP2, h2, h1, h7, esub, zuR_ne, zu_nj, zu_at, e8, g2, e9, zi40, zt40, zo40_0, zo40_1, zo40_2, zo40_4, zi91, zt91, zo91_0, zy_ldI, zy_ldL, zy_ldA, zy_stI, zy_stL, zy_stA, zy_cI, zy_cL, zy_nul, zy_inc, zy_bI, zy_bL, zy_sL, zy_un, zy_cmp, zy_dup, zy_dup2, zy_pop, zy_pop2, zy_jn, zy_jnn, zy_go, zy_fal, zy_tsw, zy_lsw, zy_get, zy_put, zy_ald, zy_ast, zy_len, zy_newa, zy_new, zy_cal, zy_ret, zy_tak, zy_cst, zy_acp, zy_oini, zy_cln, zy_thr, zy_bad, zy_lco, zy_if0, zy_ic0, zy_if1, zy_ic1, zy_if2, zy_ic2, zy_if3, zy_ic3, zy_if4, zy_ic4, zy_if5, zy_ic5, zK_go, zK_to, zK_end, zK_callH, zK_iteC, zK_none, zsLd, zsSt, zsInc, zsBI, zsBL, zsSL, zsUn, zsCmp, zsDup, zsDup2, zsPop, zsPop2, zsJn, zsTsw, zsLsw, zsGet, zsPut, zsAld, zsAst, zsLen, zsNewa, zsCal, zsRet, zsCst, zsAcp, zsOini, zsCln, zsLco, zsThr, zxBI, zxBL, zxSL, zxU, zset1, zset2, zclr, zcat, zmake_mk, zcomp, zH_i, zH_l, zH_r, zH_u, zH_n, List.set_cons_zero, List.set_cons_succ, List.getElem?_cons_zero, List.getElem?_cons_succ, List.length_cons, List.length_nil, List.take_succ_cons, List.take_zero, List.drop_succ_cons, List.drop_zero, List.reverse_cons, List.reverse_nil, List.nil_append, List.cons_append, List.map_cons, List.map_nil, List.sum_cons, List.sum_nil, Option.toList_some, Option.toList_none, Value.category, Nat.reduceAdd, Nat.reduceMul, Nat.reduceMod, Nat.reduceDiv, Nat.reduceSub, Nat.reduceLT, Nat.reduceLeDiff, Nat.reduceEqDiff, Nat.zero_le, Nat.le_refl, Int32.reduceToNatClampNeg, Int32.reduceLT, Int32.reduceLE, Int32.reduceAdd, Int32.reduceSub, Int32.reduceMul, ↓reduceIte, reduceCtorEq, Nat.add_zero, Nat.zero_add, true_or, or_true, false_or, or_false, true_and, and_true, false_and, and_false, not_true_eq_false, not_false_eq_true, if_true, if_false, true_implies, false_implies, implies_true, forall_const, false_imp_iff, true_imp_iff, va_rf, zlay, zent, List.replicate_zero, List.append_nil, List.replicate_succ, List.length_append, ne_eq, Option.some.injEq, Value.int.injEq, Value.long.injEq, Int32.reduceOfNat, Int32.reduceToInt, Int.reduceLT, Int.reduceLE, Int.reduceSub, Int.reduceToNat, Int.reduceAdd, Int.reduceNeg, Int32.reduceDiv, Int64.reduceAdd, Int64.reduceSub, lg_cmp_ge, lg_cmp_le, lg_cmp_gt, lg_cmp_lt, lg_cmp_eq, wlt_t, wlt_f, wle_t, wle_f, wmod, wI_lt, wI_le, wI_eq, wI_neg, wI_pos, wI_cl, wI_ge, wI_po, w64_lt, w64_le, w64_eq, w64_lt0, w64_le0, w64_eq0, w64_32, zc317, zc319, wI_add, wI_a1, wI_s1, wI_e0, wI_m8, wI_m128, wI_m64, wI_m190, not_true_eq_false, not_false_eq_true, sP_37_2 hS, sP_290_0 hS, sP_290_2 hS, sP_290_3 hS, sN_144 hS, sN_368 hS, sN_400 hS, sN_6417 hS]
        exact q
    · have e : (zsq B (k + 1)).2 = l :: W' := by
        rw [← hX]
        show (if l = 0 then _ else _) = _
        rw [if_neg hl]
      have q := hR I (o :: O) (fun _ _ _ _ _ => rfl) h4 (Or.inr ⟨(by rw [e]; exact fun h => (by cases h)), fun h => (by cases h), by rw [e]; exact hLo0⟩) h12 hOl hSp
      have hl' : ¬ nI l = 0 := by rw [wI_e0 (by omega)]; exact hl
      simp (decide := true) (disch := omega) only [h4, eP, h2, hl', zi40, zt40, zo40_0, zo40_1, zo40_2, zo40_4, zy_ldI, zy_ldL, zy_ldA, zy_stI, zy_stL, zy_stA, zy_cI, zy_cL, zy_nul, zy_inc, zy_bI, zy_bL, zy_sL, zy_un, zy_cmp, zy_dup, zy_dup2, zy_pop, zy_pop2, zy_jn, zy_jnn, zy_go, zy_fal, zy_tsw, zy_lsw, zy_get, zy_put, zy_ald, zy_ast, zy_len, zy_newa, zy_new, zy_cal, zy_ret, zy_tak, zy_cst, zy_acp, zy_oini, zy_cln, zy_thr, zy_bad, zy_lco, zy_if0, zy_ic0, zy_if1, zy_ic1, zy_if2, zy_ic2, zy_if3, zy_ic3, zy_if4, zy_ic4, zy_if5, zy_ic5, zK_go, zK_to, zK_end, zK_callH, zK_iteC, zK_none, zsLd, zsSt, zsInc, zsBI, zsBL, zsSL, zsUn, zsCmp, zsDup, zsDup2, zsPop, zsPop2, zsJn, zsTsw, zsLsw, zsGet, zsPut, zsAld, zsAst, zsLen, zsNewa, zsCal, zsRet, zsCst, zsAcp, zsOini, zsCln, zsLco, zsThr, zxBI, zxBL, zxSL, zxU, zset1, zset2, zclr, zcat, zmake_mk, zcomp, zH_i, zH_l, zH_r, zH_u, zH_n, List.set_cons_zero, List.set_cons_succ, List.getElem?_cons_zero, List.getElem?_cons_succ, List.length_cons, List.length_nil, List.take_succ_cons, List.take_zero, List.drop_succ_cons, List.drop_zero, List.reverse_cons, List.reverse_nil, List.nil_append, List.cons_append, List.map_cons, List.map_nil, List.sum_cons, List.sum_nil, Option.toList_some, Option.toList_none, Value.category, Nat.reduceAdd, Nat.reduceMul, Nat.reduceMod, Nat.reduceDiv, Nat.reduceSub, Nat.reduceLT, Nat.reduceLeDiff, Nat.reduceEqDiff, Nat.zero_le, Nat.le_refl, Int32.reduceToNatClampNeg, Int32.reduceLT, Int32.reduceLE, Int32.reduceAdd, Int32.reduceSub, Int32.reduceMul, ↓reduceIte, reduceCtorEq, Nat.add_zero, Nat.zero_add, true_or, or_true, false_or, or_false, true_and, and_true, false_and, and_false, not_true_eq_false, not_false_eq_true, if_true, if_false, true_implies, false_implies, implies_true, forall_const, false_imp_iff, true_imp_iff, va_rf, zlay, zent, List.replicate_zero, List.append_nil, List.replicate_succ, List.length_append, ne_eq, Option.some.injEq, Value.int.injEq, Value.long.injEq, Int32.reduceOfNat, Int32.reduceToInt, Int.reduceLT, Int.reduceLE, Int.reduceSub, Int.reduceToNat, Int.reduceAdd, Int.reduceNeg, Int32.reduceDiv, Int64.reduceAdd, Int64.reduceSub, lg_cmp_ge, lg_cmp_le, lg_cmp_gt, lg_cmp_lt, lg_cmp_eq, wlt_t, wlt_f, wle_t, wle_f, wmod, wI_lt, wI_le, wI_eq, wI_neg, wI_pos, wI_cl, wI_ge, wI_po, w64_lt, w64_le, w64_eq, w64_lt0, w64_le0, w64_eq0, w64_32, zc317, zc319, wI_add, wI_a1, wI_s1, wI_e0, wI_m8, wI_m128, wI_m64, wI_m190, not_true_eq_false, not_false_eq_true, sP_290_0 hS, sP_290_2 hS, sP_290_3 hS, sN_368 hS, sN_400 hS, sN_6417 hS]
      exact q
end
