-- needs: 01 02.names 03 04 05 18 19 20 22 23 24 25 30 31 32 33 36 40 42 43 44 46 47 60 61 62 63 64 79f 79g 79h 79i 79j 79k 79l 79m 79n 79o 79p 79q 79r 79s 79t 79u 7a 7b 7c 7d 7e 7f 7g 7h 7i 7j 7k 7l 7m 7s 7u 7w
/-! sizes, depths, equality of DATA, by the reference -/
section
variable {I : zI} {J : zJ} {P : zP} {N : Nat → Nat} {n z vc te de re rm a b c : Nat} {r u : Nat → Nat} {Q : Option Value → zS → Prop} {F C Z L F' C' Z' L' : Nat → Nat} {T T' : Nat → Int64} {Y Y' : Nat → Nat → Int32} {K K' : Nat}
theorem yi_lc {x c : Nat} (h : x + 1 + c < 2 ^ 31) : nI (x + 1) + (nI c - 1) = nI (x + c) := by
  rw [Int32.sub_eq_add_neg, ← Int32.add_assoc, wI_add]
  have e : nI (x + 1 + c) + -1 = nI (x + 1 + c - 1) := wI_s1 (by omega) h
  have e' : (-1 : Int32) = - 1 := rfl
  rw [e] 
  congr 1
  omega
/-- kinds and counts as the reference has them -/
def yRf (I : zI) (b K : Nat) (F C : Nat → Nat) : Prop := ∀ j, j < K → I 5488 (b + j) = nI (zFo (F j)) ∧ I 5552 (b + j) = nI (zCq (F j) (C j))
set_option maxRecDepth 20000 in
theorem l197 {d0 : Nat} (hS : zStat P N) (D : zDt F C Z L K) (hr : yRf I b K F C) (hb : b + K ≤ 5000) : ∀ m k, Z k ≤ m → k < K → ∀ nn left, d0 + nn = b + k → left + Z k < 2 ^ 30 → zQ zt197 zo197_1 [some (.ref 4908), some (.int (nI d0)), some (.int (nI (nn + Z k))), some (.int (nI left))] [] (I, J, P, N, n, z) Q → zQ zt197 zo197_1 [some (.ref 4908), some (.int (nI d0)), some (.int (nI nn)), some (.int (nI (left + 1)))] [] (I, J, P, N, n, z) Q := by
  intro m
  induction m with
  | zero => intro k hm hk; exact absurd ((D.2 k hk).1.1) (by omega)
  | succ m ih =>
    intro k hm hk nn left hd hl hQ
    obtain ⟨⟨z1, z2⟩, f1, c1, w1, w2, l1⟩ := D.2 k hk
    have hin := zDt_le D hk
    have lt : ∀ c, c ≤ zKc (F k) (C k) → zWi Z k c + (zKc (F k) (C k) - c) ≤ k + Z k := by
      intro c hc
      have mono : ∀ d i, i + d = zKc (F k) (C k) → zWi Z k i + d ≤ k + Z k := by
        intro d
        induction d with
        | zero => intro i hi; rw [show i = zKc (F k) (C k) by omega, w1]; omega
        | succ d ihd =>
          intro i hi
          have a := ihd (i + 1) (by omega)
          have b := (D.2 _ (w2 i (by omega)).1).1.1
          have : zWi Z k (i + 1) = zWi Z k i + Z (zWi Z k i) := rfl
          omega
      exact mono _ c (by omega)
    have go : ∀ q c, c + q = zKc (F k) (C k) → zQ zt197 zo197_1 [some (.ref 4908), some (.int (nI d0)), some (.int (nI (nn + (zWi Z k c - k)))), some (.int (nI (left + q)))] [] (I, J, P, N, n, z) Q := by
      intro q
      induction q with
      | zero =>
        intro c hc
        rw [show c = zKc (F k) (C k) by omega, w1, show k + Z k - k = Z k by omega]
        exact hQ
      | succ q ihq =>
        intro c hc
        obtain ⟨v1, v2⟩ := w2 c (by omega)
        have g1 := zWi_ge (Z := Z) (j := k) c
        have g2 := lt (c + 1) (by omega)
        have g3 : zWi Z k (c + 1) = zWi Z k c + Z (zWi Z k c) := rfl
        have g4 := (D.2 _ v1).1.1
        have g5 := ihq (c + 1) (by omega)
        refine ih (zWi Z k c) (by omega) v1 (nn + (zWi Z k c - k)) (left + q) (by omega) (by omega) ?_
        rw [show nn + (zWi Z k c - k) + Z (zWi Z k c) = nn + (zWi Z k (c + 1) - k) by omega]
        exact g5
    have g0 := go (zKc (F k) (C k)) 0 (by omega)
    have e0 : nn + (zWi Z k 0 - k) = nn + 1 := by show nn + (k + 1 - k) = nn + 1; omega
    rw [e0] at g0
    obtain ⟨r1, r2⟩ := hr k hk
    have q196 := fun Q => m196 (J := J) (n := n) (z := z) hS (by omega) r1 r2 f1 c1.2.2.2 c1.1 Q
    have t : ¬ nI (left + 1) ≤ 0 := by rw [show (0 : Int32) = nI 0 from rfl, wI_le (by omega) (by omega)]; omega
    have e1 := yi_lc (x := left) (c := zKc (F k) (C k)) (by have := lt 0 (by omega); have : zWi Z k 0 = k + 1 := rfl; omega)
    rw [zo197_1]
    simp (decide := true) (disch := omega) only [t, hd, q196, e1, zi197, zt197, zo197_0, zo197_2, zy_ldI, zy_ldL, zy_ldA, zy_stI, zy_stL, zy_stA, zy_cI, zy_cL, zy_nul, zy_inc, zy_bI, zy_bL, zy_sL, zy_un, zy_cmp, zy_dup, zy_dup2, zy_pop, zy_pop2, zy_jn, zy_jnn, zy_go, zy_fal, zy_tsw, zy_lsw, zy_get, zy_put, zy_ald, zy_ast, zy_len, zy_newa, zy_new, zy_cal, zy_ret, zy_tak, zy_cst, zy_acp, zy_oini, zy_cln, zy_thr, zy_bad, zy_lco, zy_if0, zy_ic0, zy_if1, zy_ic1, zy_if2, zy_ic2, zy_if3, zy_ic3, zy_if4, zy_ic4, zy_if5, zy_ic5, zK_go, zK_to, zK_end, zK_callH, zK_iteC, zK_none, zsLd, zsSt, zsInc, zsBI, zsBL, zsSL, zsUn, zsCmp, zsDup, zsDup2, zsPop, zsPop2, zsJn, zsTsw, zsLsw, zsGet, zsPut, zsAld, zsAst, zsLen, zsNewa, zsCal, zsRet, zsCst, zsAcp, zsOini, zsCln, zsLco, zsThr, zxBI, zxBL, zxSL, zxU, zset1, zset2, zclr, zcat, zmake_mk, zcomp, zH_i, zH_l, zH_r, zH_u, zH_n, List.set_cons_zero, List.set_cons_succ, List.getElem?_cons_zero, List.getElem?_cons_succ, List.length_cons, List.length_nil, List.take_succ_cons, List.take_zero, List.drop_succ_cons, List.drop_zero, List.reverse_cons, List.reverse_nil, List.nil_append, List.cons_append, List.map_cons, List.map_nil, List.sum_cons, List.sum_nil, Option.toList_some, Option.toList_none, Value.category, Nat.reduceAdd, Nat.reduceMul, Nat.reduceMod, Nat.reduceDiv, Nat.reduceSub, Nat.reduceLT, Nat.reduceLeDiff, Nat.reduceEqDiff, Nat.zero_le, Nat.le_refl, Int32.reduceToNatClampNeg, Int32.reduceLT, Int32.reduceLE, Int32.reduceAdd, Int32.reduceSub, Int32.reduceMul, ↓reduceIte, reduceCtorEq, Nat.add_zero, Nat.zero_add, true_or, or_true, false_or, or_false, true_and, and_true, false_and, and_false, not_true_eq_false, not_false_eq_true, if_true, if_false, true_implies, false_implies, implies_true, forall_const, false_imp_iff, true_imp_iff, va_rf, zlay, zent, List.replicate_zero, List.append_nil, List.replicate_succ, List.length_append, ne_eq, Option.some.injEq, Value.int.injEq, Value.long.injEq, Int32.reduceOfNat, Int32.reduceToInt, Int.reduceLT, Int.reduceLE, Int.reduceSub, Int.reduceToNat, Int.reduceAdd, Int.reduceNeg, Int32.reduceDiv, Int64.reduceAdd, Int64.reduceSub, lg_cmp_ge, lg_cmp_le, lg_cmp_gt, lg_cmp_lt, lg_cmp_eq, wlt_t, wlt_f, wle_t, wle_f, wmod, wI_lt, wI_le, wI_eq, wI_neg, wI_pos, wI_cl, wI_ge, wI_po, w64_lt, w64_le, w64_eq, w64_lt0, w64_le0, w64_eq0, w64_32, zc317, zc319, wI_add, wI_a1, wI_s1, wI_e0, wI_m8, wI_m128, wI_m64, wI_m190, not_true_eq_false, not_false_eq_true, sN_6417 hS]
    exact g0
set_option maxRecDepth 20000 in
theorem m197 {k : Nat} (hS : zStat P N) (D : zDt F C Z L K) (hr : yRf I b K F C) (hb : b + K ≤ 5000) (hk : k < K) (Q : Option Value → zS → Prop) : zC 197 [.ref 4908, .int (nI (b + k))] (I, J, P, N, n, z) Q = Q (some (.int (nI (Z k)))) (I, J, P, N, n, z) := by
  refine zC_eq (fun Q hQ => ?_) Q
  have hz := (D.2 k hk).1
  have q := l197 (J := J) (n := n) (z := z) (Q := Q) (d0 := b + k) hS D hr hb (Z k) k (Nat.le_refl _) hk 0 0 (by omega) (by omega) (by
    rw [zo197_1, Nat.zero_add]
    have t : (nI 0 ≤ 0) = True := eq_true (by decide)
    simp (decide := true) (disch := omega) only [t, zi197, zt197, zo197_0, zo197_2, zy_ldI, zy_ldL, zy_ldA, zy_stI, zy_stL, zy_stA, zy_cI, zy_cL, zy_nul, zy_inc, zy_bI, zy_bL, zy_sL, zy_un, zy_cmp, zy_dup, zy_dup2, zy_pop, zy_pop2, zy_jn, zy_jnn, zy_go, zy_fal, zy_tsw, zy_lsw, zy_get, zy_put, zy_ald, zy_ast, zy_len, zy_newa, zy_new, zy_cal, zy_ret, zy_tak, zy_cst, zy_acp, zy_oini, zy_cln, zy_thr, zy_bad, zy_lco, zy_if0, zy_ic0, zy_if1, zy_ic1, zy_if2, zy_ic2, zy_if3, zy_ic3, zy_if4, zy_ic4, zy_if5, zy_ic5, zK_go, zK_to, zK_end, zK_callH, zK_iteC, zK_none, zsLd, zsSt, zsInc, zsBI, zsBL, zsSL, zsUn, zsCmp, zsDup, zsDup2, zsPop, zsPop2, zsJn, zsTsw, zsLsw, zsGet, zsPut, zsAld, zsAst, zsLen, zsNewa, zsCal, zsRet, zsCst, zsAcp, zsOini, zsCln, zsLco, zsThr, zxBI, zxBL, zxSL, zxU, zset1, zset2, zclr, zcat, zmake_mk, zcomp, zH_i, zH_l, zH_r, zH_u, zH_n, List.set_cons_zero, List.set_cons_succ, List.getElem?_cons_zero, List.getElem?_cons_succ, List.length_cons, List.length_nil, List.take_succ_cons, List.take_zero, List.drop_succ_cons, List.drop_zero, List.reverse_cons, List.reverse_nil, List.nil_append, List.cons_append, List.map_cons, List.map_nil, List.sum_cons, List.sum_nil, Option.toList_some, Option.toList_none, Value.category, Nat.reduceAdd, Nat.reduceMul, Nat.reduceMod, Nat.reduceDiv, Nat.reduceSub, Nat.reduceLT, Nat.reduceLeDiff, Nat.reduceEqDiff, Nat.zero_le, Nat.le_refl, Int32.reduceToNatClampNeg, Int32.reduceLT, Int32.reduceLE, Int32.reduceAdd, Int32.reduceSub, Int32.reduceMul, ↓reduceIte, reduceCtorEq, Nat.add_zero, Nat.zero_add, true_or, or_true, false_or, or_false, true_and, and_true, false_and, and_false, not_true_eq_false, not_false_eq_true, if_true, if_false, true_implies, false_implies, implies_true, forall_const, false_imp_iff, true_imp_iff, va_rf, zlay, zent, List.replicate_zero, List.append_nil, List.replicate_succ, List.length_append, ne_eq, Option.some.injEq, Value.int.injEq, Value.long.injEq, Int32.reduceOfNat, Int32.reduceToInt, Int.reduceLT, Int.reduceLE, Int.reduceSub, Int.reduceToNat, Int.reduceAdd, Int.reduceNeg, Int32.reduceDiv, Int64.reduceAdd, Int64.reduceSub, lg_cmp_ge, lg_cmp_le, lg_cmp_gt, lg_cmp_lt, lg_cmp_eq, wlt_t, wlt_f, wle_t, wle_f, wmod, wI_lt, wI_le, wI_eq, wI_neg, wI_pos, wI_cl, wI_ge, wI_po, w64_lt, w64_le, w64_eq, w64_lt0, w64_le0, w64_eq0, w64_32, zc317, zc319, wI_add, wI_a1, wI_s1, wI_e0, wI_m8, wI_m128, wI_m64, wI_m190, not_true_eq_false, not_false_eq_true, sN_6417 hS]
    exact hQ)
  simp (decide := true) (disch := omega) only [zi197, zt197, zo197_0, zo197_2, zy_ldI, zy_ldL, zy_ldA, zy_stI, zy_stL, zy_stA, zy_cI, zy_cL, zy_nul, zy_inc, zy_bI, zy_bL, zy_sL, zy_un, zy_cmp, zy_dup, zy_dup2, zy_pop, zy_pop2, zy_jn, zy_jnn, zy_go, zy_fal, zy_tsw, zy_lsw, zy_get, zy_put, zy_ald, zy_ast, zy_len, zy_newa, zy_new, zy_cal, zy_ret, zy_tak, zy_cst, zy_acp, zy_oini, zy_cln, zy_thr, zy_bad, zy_lco, zy_if0, zy_ic0, zy_if1, zy_ic1, zy_if2, zy_ic2, zy_if3, zy_ic3, zy_if4, zy_ic4, zy_if5, zy_ic5, zK_go, zK_to, zK_end, zK_callH, zK_iteC, zK_none, zsLd, zsSt, zsInc, zsBI, zsBL, zsSL, zsUn, zsCmp, zsDup, zsDup2, zsPop, zsPop2, zsJn, zsTsw, zsLsw, zsGet, zsPut, zsAld, zsAst, zsLen, zsNewa, zsCal, zsRet, zsCst, zsAcp, zsOini, zsCln, zsLco, zsThr, zxBI, zxBL, zxSL, zxU, zset1, zset2, zclr, zcat, zmake_mk, zcomp, zH_i, zH_l, zH_r, zH_u, zH_n, List.set_cons_zero, List.set_cons_succ, List.getElem?_cons_zero, List.getElem?_cons_succ, List.length_cons, List.length_nil, List.take_succ_cons, List.take_zero, List.drop_succ_cons, List.drop_zero, List.reverse_cons, List.reverse_nil, List.nil_append, List.cons_append, List.map_cons, List.map_nil, List.sum_cons, List.sum_nil, Option.toList_some, Option.toList_none, Value.category, Nat.reduceAdd, Nat.reduceMul, Nat.reduceMod, Nat.reduceDiv, Nat.reduceSub, Nat.reduceLT, Nat.reduceLeDiff, Nat.reduceEqDiff, Nat.zero_le, Nat.le_refl, Int32.reduceToNatClampNeg, Int32.reduceLT, Int32.reduceLE, Int32.reduceAdd, Int32.reduceSub, Int32.reduceMul, ↓reduceIte, reduceCtorEq, Nat.add_zero, Nat.zero_add, true_or, or_true, false_or, or_false, true_and, and_true, false_and, and_false, not_true_eq_false, not_false_eq_true, if_true, if_false, true_implies, false_implies, implies_true, forall_const, false_imp_iff, true_imp_iff, va_rf, zlay, zent, List.replicate_zero, List.append_nil, List.replicate_succ, List.length_append, ne_eq, Option.some.injEq, Value.int.injEq, Value.long.injEq, Int32.reduceOfNat, Int32.reduceToInt, Int.reduceLT, Int.reduceLE, Int.reduceSub, Int.reduceToNat, Int.reduceAdd, Int.reduceNeg, Int32.reduceDiv, Int64.reduceAdd, Int64.reduceSub, lg_cmp_ge, lg_cmp_le, lg_cmp_gt, lg_cmp_lt, lg_cmp_eq, wlt_t, wlt_f, wle_t, wle_f, wmod, wI_lt, wI_le, wI_eq, wI_neg, wI_pos, wI_cl, wI_ge, wI_po, w64_lt, w64_le, w64_eq, w64_lt0, w64_le0, w64_eq0, w64_32, zc317, zc319, wI_add, wI_a1, wI_s1, wI_e0, wI_m8, wI_m128, wI_m64, wI_m190, not_true_eq_false, not_false_eq_true, sN_6417 hS]
  exact q
/-! how deep -/
def yE6 (I I' : zI) : Prop := ∀ c, c ≠ 6096 → I' c = I c
set_option maxRecDepth 20000 in
theorem l198p {I0 : zI} {d0 nn cc mo : Nat} (hS : zStat P N) (l0 : Nat) (hlo : 0 < l0 → ∃ x, I0 6096 l0 = nI (x + 1) ∧ x < 2 ^ 20)
    (hQ : zQ zt198 zo198_3 [some (.ref 4908), some (.int (nI d0)), some (.int (nI nn)), some (.int (nI l0)), some (.int (nI mo)), some (.int (nI cc))] [] (I0, J, P, N, n, z) Q) : ∀ q, l0 + q ≤ 200 → (∀ t, l0 < t → t ≤ l0 + q → I0 6096 t = 0) → zQ zt198 zo198_2 [some (.ref 4908), some (.int (nI d0)), some (.int (nI nn)), some (.int (nI (l0 + q))), some (.int (nI mo)), some (.int (nI cc))] [] (I0, J, P, N, n, z) Q := by
  intro q
  induction q with
  | zero =>
    intro hq ht
    rw [zo198_2]
    by_cases h0 : l0 = 0
    · subst h0
      have t : (nI (0 + 0) ≤ 0) = True := eq_true (by decide)
      simp (decide := true) (disch := omega) only [t, zi198, zt198, zo198_0, zo198_1, zo198_4, zo198_5, zo198_6, zy_ldI, zy_ldL, zy_ldA, zy_stI, zy_stL, zy_stA, zy_cI, zy_cL, zy_nul, zy_inc, zy_bI, zy_bL, zy_sL, zy_un, zy_cmp, zy_dup, zy_dup2, zy_pop, zy_pop2, zy_jn, zy_jnn, zy_go, zy_fal, zy_tsw, zy_lsw, zy_get, zy_put, zy_ald, zy_ast, zy_len, zy_newa, zy_new, zy_cal, zy_ret, zy_tak, zy_cst, zy_acp, zy_oini, zy_cln, zy_thr, zy_bad, zy_lco, zy_if0, zy_ic0, zy_if1, zy_ic1, zy_if2, zy_ic2, zy_if3, zy_ic3, zy_if4, zy_ic4, zy_if5, zy_ic5, zK_go, zK_to, zK_end, zK_callH, zK_iteC, zK_none, zsLd, zsSt, zsInc, zsBI, zsBL, zsSL, zsUn, zsCmp, zsDup, zsDup2, zsPop, zsPop2, zsJn, zsTsw, zsLsw, zsGet, zsPut, zsAld, zsAst, zsLen, zsNewa, zsCal, zsRet, zsCst, zsAcp, zsOini, zsCln, zsLco, zsThr, zxBI, zxBL, zxSL, zxU, zset1, zset2, zclr, zcat, zmake_mk, zcomp, zH_i, zH_l, zH_r, zH_u, zH_n, List.set_cons_zero, List.set_cons_succ, List.getElem?_cons_zero, List.getElem?_cons_succ, List.length_cons, List.length_nil, List.take_succ_cons, List.take_zero, List.drop_succ_cons, List.drop_zero, List.reverse_cons, List.reverse_nil, List.nil_append, List.cons_append, List.map_cons, List.map_nil, List.sum_cons, List.sum_nil, Option.toList_some, Option.toList_none, Value.category, Nat.reduceAdd, Nat.reduceMul, Nat.reduceMod, Nat.reduceDiv, Nat.reduceSub, Nat.reduceLT, Nat.reduceLeDiff, Nat.reduceEqDiff, Nat.zero_le, Nat.le_refl, Int32.reduceToNatClampNeg, Int32.reduceLT, Int32.reduceLE, Int32.reduceAdd, Int32.reduceSub, Int32.reduceMul, ↓reduceIte, reduceCtorEq, Nat.add_zero, Nat.zero_add, true_or, or_true, false_or, or_false, true_and, and_true, false_and, and_false, not_true_eq_false, not_false_eq_true, if_true, if_false, true_implies, false_implies, implies_true, forall_const, false_imp_iff, true_imp_iff, va_rf, zlay, zent, List.replicate_zero, List.append_nil, List.replicate_succ, List.length_append, ne_eq, Option.some.injEq, Value.int.injEq, Value.long.injEq, Int32.reduceOfNat, Int32.reduceToInt, Int.reduceLT, Int.reduceLE, Int.reduceSub, Int.reduceToNat, Int.reduceAdd, Int.reduceNeg, Int32.reduceDiv, Int64.reduceAdd, Int64.reduceSub, lg_cmp_ge, lg_cmp_le, lg_cmp_gt, lg_cmp_lt, lg_cmp_eq, wlt_t, wlt_f, wle_t, wle_f, wmod, wI_lt, wI_le, wI_eq, wI_neg, wI_pos, wI_cl, wI_ge, wI_po, w64_lt, w64_le, w64_eq, w64_lt0, w64_le0, w64_eq0, w64_32, zc317, zc319, wI_add, wI_a1, wI_s1, wI_e0, wI_m8, wI_m128, wI_m64, wI_m190, not_true_eq_false, not_false_eq_true, sP_4908_57 hS, sN_6096 hS, sN_6417 hS]
      exact hQ
    · obtain ⟨x, x1, x2⟩ := hlo (by omega)
      have n0 : ¬ nI (x + 1) = 0 := by rw [show (0 : Int32) = nI 0 from rfl, wI_eq (by omega) (by omega)]; omega
      simp (decide := true) (disch := omega) only [h0, x1, n0, zi198, zt198, zo198_0, zo198_1, zo198_4, zo198_5, zo198_6, zy_ldI, zy_ldL, zy_ldA, zy_stI, zy_stL, zy_stA, zy_cI, zy_cL, zy_nul, zy_inc, zy_bI, zy_bL, zy_sL, zy_un, zy_cmp, zy_dup, zy_dup2, zy_pop, zy_pop2, zy_jn, zy_jnn, zy_go, zy_fal, zy_tsw, zy_lsw, zy_get, zy_put, zy_ald, zy_ast, zy_len, zy_newa, zy_new, zy_cal, zy_ret, zy_tak, zy_cst, zy_acp, zy_oini, zy_cln, zy_thr, zy_bad, zy_lco, zy_if0, zy_ic0, zy_if1, zy_ic1, zy_if2, zy_ic2, zy_if3, zy_ic3, zy_if4, zy_ic4, zy_if5, zy_ic5, zK_go, zK_to, zK_end, zK_callH, zK_iteC, zK_none, zsLd, zsSt, zsInc, zsBI, zsBL, zsSL, zsUn, zsCmp, zsDup, zsDup2, zsPop, zsPop2, zsJn, zsTsw, zsLsw, zsGet, zsPut, zsAld, zsAst, zsLen, zsNewa, zsCal, zsRet, zsCst, zsAcp, zsOini, zsCln, zsLco, zsThr, zxBI, zxBL, zxSL, zxU, zset1, zset2, zclr, zcat, zmake_mk, zcomp, zH_i, zH_l, zH_r, zH_u, zH_n, List.set_cons_zero, List.set_cons_succ, List.getElem?_cons_zero, List.getElem?_cons_succ, List.length_cons, List.length_nil, List.take_succ_cons, List.take_zero, List.drop_succ_cons, List.drop_zero, List.reverse_cons, List.reverse_nil, List.nil_append, List.cons_append, List.map_cons, List.map_nil, List.sum_cons, List.sum_nil, Option.toList_some, Option.toList_none, Value.category, Nat.reduceAdd, Nat.reduceMul, Nat.reduceMod, Nat.reduceDiv, Nat.reduceSub, Nat.reduceLT, Nat.reduceLeDiff, Nat.reduceEqDiff, Nat.zero_le, Nat.le_refl, Int32.reduceToNatClampNeg, Int32.reduceLT, Int32.reduceLE, Int32.reduceAdd, Int32.reduceSub, Int32.reduceMul, ↓reduceIte, reduceCtorEq, Nat.add_zero, Nat.zero_add, true_or, or_true, false_or, or_false, true_and, and_true, false_and, and_false, not_true_eq_false, not_false_eq_true, if_true, if_false, true_implies, false_implies, implies_true, forall_const, false_imp_iff, true_imp_iff, va_rf, zlay, zent, List.replicate_zero, List.append_nil, List.replicate_succ, List.length_append, ne_eq, Option.some.injEq, Value.int.injEq, Value.long.injEq, Int32.reduceOfNat, Int32.reduceToInt, Int.reduceLT, Int.reduceLE, Int.reduceSub, Int.reduceToNat, Int.reduceAdd, Int.reduceNeg, Int32.reduceDiv, Int64.reduceAdd, Int64.reduceSub, lg_cmp_ge, lg_cmp_le, lg_cmp_gt, lg_cmp_lt, lg_cmp_eq, wlt_t, wlt_f, wle_t, wle_f, wmod, wI_lt, wI_le, wI_eq, wI_neg, wI_pos, wI_cl, wI_ge, wI_po, w64_lt, w64_le, w64_eq, w64_lt0, w64_le0, w64_eq0, w64_32, zc317, zc319, wI_add, wI_a1, wI_s1, wI_e0, wI_m8, wI_m128, wI_m64, wI_m190, not_true_eq_false, not_false_eq_true, sP_4908_57 hS, sN_6096 hS, sN_6417 hS]
      exact hQ
  | succ q ih =>
    intro hq ht
    have g := ih (by omega) (fun t h1 h2 => ht t h1 (by omega))
    have x1 := ht (l0 + (q + 1)) (by omega) (Nat.le_refl _)
    have t : ¬ nI (l0 + (q + 1)) ≤ 0 := by rw [show (0 : Int32) = nI 0 from rfl, wI_le (by omega) (by omega)]; omega
    have e2 : nI (l0 + (q + 1)) + -1 = nI (l0 + q) := by rw [wI_s1 (by omega) (by omega)]; congr 1
    rw [zo198_2]
    simp (decide := true) (disch := omega) only [t, x1, e2, zi198, zt198, zo198_0, zo198_1, zo198_4, zo198_5, zo198_6, zy_ldI, zy_ldL, zy_ldA, zy_stI, zy_stL, zy_stA, zy_cI, zy_cL, zy_nul, zy_inc, zy_bI, zy_bL, zy_sL, zy_un, zy_cmp, zy_dup, zy_dup2, zy_pop, zy_pop2, zy_jn, zy_jnn, zy_go, zy_fal, zy_tsw, zy_lsw, zy_get, zy_put, zy_ald, zy_ast, zy_len, zy_newa, zy_new, zy_cal, zy_ret, zy_tak, zy_cst, zy_acp, zy_oini, zy_cln, zy_thr, zy_bad, zy_lco, zy_if0, zy_ic0, zy_if1, zy_ic1, zy_if2, zy_ic2, zy_if3, zy_ic3, zy_if4, zy_ic4, zy_if5, zy_ic5, zK_go, zK_to, zK_end, zK_callH, zK_iteC, zK_none, zsLd, zsSt, zsInc, zsBI, zsBL, zsSL, zsUn, zsCmp, zsDup, zsDup2, zsPop, zsPop2, zsJn, zsTsw, zsLsw, zsGet, zsPut, zsAld, zsAst, zsLen, zsNewa, zsCal, zsRet, zsCst, zsAcp, zsOini, zsCln, zsLco, zsThr, zxBI, zxBL, zxSL, zxU, zset1, zset2, zclr, zcat, zmake_mk, zcomp, zH_i, zH_l, zH_r, zH_u, zH_n, List.set_cons_zero, List.set_cons_succ, List.getElem?_cons_zero, List.getElem?_cons_succ, List.length_cons, List.length_nil, List.take_succ_cons, List.take_zero, List.drop_succ_cons, List.drop_zero, List.reverse_cons, List.reverse_nil, List.nil_append, List.cons_append, List.map_cons, List.map_nil, List.sum_cons, List.sum_nil, Option.toList_some, Option.toList_none, Value.category, Nat.reduceAdd, Nat.reduceMul, Nat.reduceMod, Nat.reduceDiv, Nat.reduceSub, Nat.reduceLT, Nat.reduceLeDiff, Nat.reduceEqDiff, Nat.zero_le, Nat.le_refl, Int32.reduceToNatClampNeg, Int32.reduceLT, Int32.reduceLE, Int32.reduceAdd, Int32.reduceSub, Int32.reduceMul, ↓reduceIte, reduceCtorEq, Nat.add_zero, Nat.zero_add, true_or, or_true, false_or, or_false, true_and, and_true, false_and, and_false, not_true_eq_false, not_false_eq_true, if_true, if_false, true_implies, false_implies, implies_true, forall_const, false_imp_iff, true_imp_iff, va_rf, zlay, zent, List.replicate_zero, List.append_nil, List.replicate_succ, List.length_append, ne_eq, Option.some.injEq, Value.int.injEq, Value.long.injEq, Int32.reduceOfNat, Int32.reduceToInt, Int.reduceLT, Int.reduceLE, Int.reduceSub, Int.reduceToNat, Int.reduceAdd, Int.reduceNeg, Int32.reduceDiv, Int64.reduceAdd, Int64.reduceSub, lg_cmp_ge, lg_cmp_le, lg_cmp_gt, lg_cmp_lt, lg_cmp_eq, wlt_t, wlt_f, wle_t, wle_f, wmod, wI_lt, wI_le, wI_eq, wI_neg, wI_pos, wI_cl, wI_ge, wI_po, w64_lt, w64_le, w64_eq, w64_lt0, w64_le0, w64_eq0, w64_32, zc317, zc319, wI_add, wI_a1, wI_s1, wI_e0, wI_m8, wI_m128, wI_m64, wI_m190, not_true_eq_false, not_false_eq_true, sP_4908_57 hS, sN_6096 hS, sN_6417 hS]
    exact g
set_option maxRecDepth 20000 in
set_option maxHeartbeats 8000000 in
theorem l198 {d0 nn o lo : Nat} (hS : zStat P N) (D : zDt F C Z L K) (hr : ∀ j, lo ≤ j → j < K → I 5488 (b + j) = nI (zFo (F j)) ∧ I 5552 (b + j) = nI (zCq (F j) (C j))) (hb : b + K ≤ 5000) (ho : o ≤ 1) (hnn : b + K ≤ d0 + nn) (hd0 : d0 + nn < 2 ^ 30) : ∀ m k, Z k ≤ m → lo ≤ k → k < K → ∀ (I0 : zI) (dp mo cc : Nat), d0 + cc = b + k → yE6 I I0 → dp ≤ 13 → mo ≤ 13 → L k - 1 + o ≤ dp → (∀ t, L k - 1 + o < t → t ≤ dp → I0 6096 t = 0) → (0 < L k - 1 + o → ∃ x, I0 6096 (L k - 1 + o) = nI (x + 1) ∧ x < 2 ^ 20) →
    (∀ (I' : zI) (dp' mo' : Nat), yE6 I I' → dp' ≤ 13 → mo' ≤ 13 → L k - 1 + o < dp' → (∀ t, t < L k - 1 + o → I' 6096 t = I0 6096 t) → I' 6096 (L k - 1 + o) = I0 6096 (L k - 1 + o) - 1 → (∀ t, L k - 1 + o < t → t ≤ dp' → I' 6096 t = 0) → (12 < mo' ↔ 12 < mo ∨ ∃ j, k ≤ j ∧ j < k + Z k ∧ 12 < L j + o) → zQ zt198 zo198_1 [some (.ref 4908), some (.int (nI d0)), some (.int (nI nn)), some (.int (nI dp')), some (.int (nI mo')), some (.int (nI (cc + Z k)))] [] (I', J, P, N, n, z) Q) →
    zQ zt198 zo198_1 [some (.ref 4908), some (.int (nI d0)), some (.int (nI nn)), some (.int (nI dp)), some (.int (nI mo)), some (.int (nI cc))] [] (I0, J, P, N, n, z) Q := by
  intro m
  induction m with
  | zero => intro k hm _ hk; exact absurd ((D.2 k hk).1.1) (by omega)
  | succ m ih =>
    intro k hm hlk hk I0 dp mo cc hcc hE hdp hmo hL ht hlo hQ
    obtain ⟨⟨z1, z2⟩, f1, c1, w1, w2, l1⟩ := D.2 k hk
    have l2 := zDt_l1 D hk
    have hin := zDt_le D hk
    have ck : zKc (F k) (C k) ≤ 199 := by unfold zKc; split <;> omega
    generalize hl : L k - 1 + o = ℓ at hL ht hlo hQ
    have hL2 : L k + o = ℓ + 1 := by clear hlo hQ ht; omega
    clear hl
    have go : ∀ q c, c + q = zKc (F k) (C k) → ∀ (I1 : zI) (dp1 mo1 : Nat), yE6 I I1 → dp1 ≤ 13 → mo1 ≤ 13 → ℓ + 1 ≤ dp1 → (∀ t, t < ℓ → I1 6096 t = I0 6096 t) → I1 6096 ℓ = I0 6096 ℓ - 1 → I1 6096 (ℓ + 1) = nI q → (∀ t, ℓ + 1 < t → t ≤ dp1 → I1 6096 t = 0) → (12 < mo1 ↔ 12 < mo ∨ ∃ j, k ≤ j ∧ j < zWi Z k c ∧ 12 < L j + o) → zQ zt198 zo198_1 [some (.ref 4908), some (.int (nI d0)), some (.int (nI nn)), some (.int (nI dp1)), some (.int (nI mo1)), some (.int (nI (cc + (zWi Z k c - k))))] [] (I1, J, P, N, n, z) Q := by
      intro q
      induction q with
      | zero =>
        intro c hc I1 dp1 mo1 a1 a2 a3 a4 a5 a6 a7 a8 a9
        have e : zWi Z k c = k + Z k := by rw [show c = zKc (F k) (C k) by omega, w1]
        rw [e] at a9 ⊢
        rw [show k + Z k - k = Z k by omega]
        refine hQ I1 dp1 mo1 a1 a2 a3 (by omega) a5 a6 (fun t t1 t2 => ?_) a9
        by_cases h : t = ℓ + 1
        · rw [h, a7]; rfl
        · exact a8 t (by omega) t2
      | succ q ihq =>
        intro c hc I1 dp1 mo1 a1 a2 a3 a4 a5 a6 a7 a8 a9
        obtain ⟨v1, v2⟩ := w2 c (by omega)
        have g1 := zWi_ge (Z := Z) (j := k) c
        have g2 := hin (c + 1) (by omega)
        have g3 : zWi Z k (c + 1) = zWi Z k c + Z (zWi Z k c) := rfl
        have g4 := (D.2 _ v1).1.1
        have lw : L (zWi Z k c) - 1 + o = ℓ + 1 := by omega
        refine ih (zWi Z k c) (by omega) (by omega) v1 I1 dp1 mo1 (cc + (zWi Z k c - k)) (by omega) a1 a2 a3 (by omega) (fun t t1 t2 => a8 t (by omega) t2) (fun _ => ⟨q, by rw [lw, a7], by omega⟩) (fun I' dp' mo' b1 b2 b3 b4 b5 b6 b7 b8 => ?_)
        rw [lw] at b4 b5 b6 b7
        rw [show cc + (zWi Z k c - k) + Z (zWi Z k c) = cc + (zWi Z k (c + 1) - k) by omega]
        refine ihq (c + 1) (by omega) I' dp' mo' b1 b2 b3 (by omega) (fun t t1 => by rw [b5 t (by omega), a5 t t1]) (by rw [b5 ℓ (by omega), a6]) (by rw [b6, a7]; exact wI_sub (b := 1) (by omega)) (fun t t1 t2 => b7 t t1 t2) ?_
        rw [b8, a9, g3]
        constructor
        · rintro ((h | ⟨j, j1, j2, j3⟩) | ⟨j, j1, j2, j3⟩)
          · exact Or.inl h
          · exact Or.inr ⟨j, j1, by omega, j3⟩
          · exact Or.inr ⟨j, by omega, j2, j3⟩
        · rintro (h | ⟨j, j1, j2, j3⟩)
          · exact Or.inl (Or.inl h)
          · by_cases hj : j < zWi Z k c
            · exact Or.inl (Or.inr ⟨j, j1, hj, j3⟩)
            · exact Or.inr ⟨j, by omega, j2, j3⟩
    have tc : ¬ nI nn ≤ nI cc := by rw [wI_le (by omega) (by omega)]; omega
    rw [zo198_1]
    simp (decide := true) (disch := omega) only [tc, zi198, zt198, zo198_0, zo198_3, zo198_4, zo198_5, zo198_6, zy_ldI, zy_ldL, zy_ldA, zy_stI, zy_stL, zy_stA, zy_cI, zy_cL, zy_nul, zy_inc, zy_bI, zy_bL, zy_sL, zy_un, zy_cmp, zy_dup, zy_dup2, zy_pop, zy_pop2, zy_jn, zy_jnn, zy_go, zy_fal, zy_tsw, zy_lsw, zy_get, zy_put, zy_ald, zy_ast, zy_len, zy_newa, zy_new, zy_cal, zy_ret, zy_tak, zy_cst, zy_acp, zy_oini, zy_cln, zy_thr, zy_bad, zy_lco, zy_if0, zy_ic0, zy_if1, zy_ic1, zy_if2, zy_ic2, zy_if3, zy_ic3, zy_if4, zy_ic4, zy_if5, zy_ic5, zK_go, zK_to, zK_end, zK_callH, zK_iteC, zK_none, zsLd, zsSt, zsInc, zsBI, zsBL, zsSL, zsUn, zsCmp, zsDup, zsDup2, zsPop, zsPop2, zsJn, zsTsw, zsLsw, zsGet, zsPut, zsAld, zsAst, zsLen, zsNewa, zsCal, zsRet, zsCst, zsAcp, zsOini, zsCln, zsLco, zsThr, zxBI, zxBL, zxSL, zxU, zset1, zset2, zclr, zcat, zmake_mk, zcomp, zH_i, zH_l, zH_r, zH_u, zH_n, List.set_cons_zero, List.set_cons_succ, List.getElem?_cons_zero, List.getElem?_cons_succ, List.length_cons, List.length_nil, List.take_succ_cons, List.take_zero, List.drop_succ_cons, List.drop_zero, List.reverse_cons, List.reverse_nil, List.nil_append, List.cons_append, List.map_cons, List.map_nil, List.sum_cons, List.sum_nil, Option.toList_some, Option.toList_none, Value.category, Nat.reduceAdd, Nat.reduceMul, Nat.reduceMod, Nat.reduceDiv, Nat.reduceSub, Nat.reduceLT, Nat.reduceLeDiff, Nat.reduceEqDiff, Nat.zero_le, Nat.le_refl, Int32.reduceToNatClampNeg, Int32.reduceLT, Int32.reduceLE, Int32.reduceAdd, Int32.reduceSub, Int32.reduceMul, ↓reduceIte, reduceCtorEq, Nat.add_zero, Nat.zero_add, true_or, or_true, false_or, or_false, true_and, and_true, false_and, and_false, not_true_eq_false, not_false_eq_true, if_true, if_false, true_implies, false_implies, implies_true, forall_const, false_imp_iff, true_imp_iff, va_rf, zlay, zent, List.replicate_zero, List.append_nil, List.replicate_succ, List.length_append, ne_eq, Option.some.injEq, Value.int.injEq, Value.long.injEq, Int32.reduceOfNat, Int32.reduceToInt, Int.reduceLT, Int.reduceLE, Int.reduceSub, Int.reduceToNat, Int.reduceAdd, Int.reduceNeg, Int32.reduceDiv, Int64.reduceAdd, Int64.reduceSub, lg_cmp_ge, lg_cmp_le, lg_cmp_gt, lg_cmp_lt, lg_cmp_eq, wlt_t, wlt_f, wle_t, wle_f, wmod, wI_lt, wI_le, wI_eq, wI_neg, wI_pos, wI_cl, wI_ge, wI_po, w64_lt, w64_le, w64_eq, w64_lt0, w64_le0, w64_eq0, w64_32, zc317, zc319, wI_add, wI_a1, wI_s1, wI_e0, wI_m8, wI_m128, wI_m64, wI_m190, not_true_eq_false, not_false_eq_true, sP_4908_57 hS, sN_6096 hS, sN_6417 hS]
    have el : ℓ + (dp - ℓ) = dp := by omega
    have hpop := l198p (J := J) (n := n) (z := z) (Q := Q) (I0 := I0) (d0 := d0) (nn := nn) (cc := cc) (mo := mo) hS ℓ hlo
    refine el ▸ hpop ?_ (dp - ℓ) (by omega) (fun t t1 t2 => ht t t1 (by omega))
    obtain ⟨r1, r2⟩ := hr k hlk hk
    have fr1 : ∀ c, c ≠ 6096 → zu I0 6096 ℓ (I0 6096 ℓ - 1) c = I c := fun c h => by rw [zuR_ne h, hE c h]
    have q196 := fun Q => m196 (J := J) (n := n) (z := z) (I := zu I0 6096 ℓ (I0 6096 ℓ - 1)) hS (b := b + k) (by omega) (by rw [fr1 _ (by decide)]; exact r1) (by rw [fr1 _ (by decide)]; exact r2) f1 c1.2.2.2 c1.1 Q
    have g := fun mo1 => go (zKc (F k) (C k)) 0 (by omega) (zu (zu I0 6096 ℓ (I0 6096 ℓ - 1)) 6096 (ℓ + 1) (nI (zKc (F k) (C k)))) (ℓ + 1) mo1 (fun c hc => by rw [zuR_ne hc, fr1 c hc]) (by omega)
    have g' := fun mo1 hm1 hm2 => g mo1 hm1 (Nat.le_refl _) (fun t t1 => by rw [zu_nj (by omega), zu_nj (by omega)]) (by rw [zu_nj (by omega), zu_at]) zu_at (fun t t1 t2 => by omega) hm2
    have e2 : cc + (zWi Z k 0 - k) = cc + 1 := by show cc + (k + 1 - k) = cc + 1; omega
    rw [e2] at g'
    have only : ∀ j, k ≤ j → j < zWi Z k 0 → j = k := fun j h1 h2 => by have : zWi Z k 0 = k + 1 := rfl; omega
    rw [zo198_3]
    by_cases hc : ℓ + 1 ≤ mo
    · have q := g' mo hmo (by
        constructor
        · exact fun h => Or.inl h
        · rintro (h | ⟨j, j1, j2, j3⟩)
          · exact h
          · rw [only j j1 j2] at j3; omega)
      simp (decide := true) (disch := omega) only [hcc, q196, zi198, zt198, zo198_0, zo198_3, zo198_4, zo198_5, zo198_6, zy_ldI, zy_ldL, zy_ldA, zy_stI, zy_stL, zy_stA, zy_cI, zy_cL, zy_nul, zy_inc, zy_bI, zy_bL, zy_sL, zy_un, zy_cmp, zy_dup, zy_dup2, zy_pop, zy_pop2, zy_jn, zy_jnn, zy_go, zy_fal, zy_tsw, zy_lsw, zy_get, zy_put, zy_ald, zy_ast, zy_len, zy_newa, zy_new, zy_cal, zy_ret, zy_tak, zy_cst, zy_acp, zy_oini, zy_cln, zy_thr, zy_bad, zy_lco, zy_if0, zy_ic0, zy_if1, zy_ic1, zy_if2, zy_ic2, zy_if3, zy_ic3, zy_if4, zy_ic4, zy_if5, zy_ic5, zK_go, zK_to, zK_end, zK_callH, zK_iteC, zK_none, zsLd, zsSt, zsInc, zsBI, zsBL, zsSL, zsUn, zsCmp, zsDup, zsDup2, zsPop, zsPop2, zsJn, zsTsw, zsLsw, zsGet, zsPut, zsAld, zsAst, zsLen, zsNewa, zsCal, zsRet, zsCst, zsAcp, zsOini, zsCln, zsLco, zsThr, zxBI, zxBL, zxSL, zxU, zset1, zset2, zclr, zcat, zmake_mk, zcomp, zH_i, zH_l, zH_r, zH_u, zH_n, List.set_cons_zero, List.set_cons_succ, List.getElem?_cons_zero, List.getElem?_cons_succ, List.length_cons, List.length_nil, List.take_succ_cons, List.take_zero, List.drop_succ_cons, List.drop_zero, List.reverse_cons, List.reverse_nil, List.nil_append, List.cons_append, List.map_cons, List.map_nil, List.sum_cons, List.sum_nil, Option.toList_some, Option.toList_none, Value.category, Nat.reduceAdd, Nat.reduceMul, Nat.reduceMod, Nat.reduceDiv, Nat.reduceSub, Nat.reduceLT, Nat.reduceLeDiff, Nat.reduceEqDiff, Nat.zero_le, Nat.le_refl, Int32.reduceToNatClampNeg, Int32.reduceLT, Int32.reduceLE, Int32.reduceAdd, Int32.reduceSub, Int32.reduceMul, ↓reduceIte, reduceCtorEq, Nat.add_zero, Nat.zero_add, true_or, or_true, false_or, or_false, true_and, and_true, false_and, and_false, not_true_eq_false, not_false_eq_true, if_true, if_false, true_implies, false_implies, implies_true, forall_const, false_imp_iff, true_imp_iff, va_rf, zlay, zent, List.replicate_zero, List.append_nil, List.replicate_succ, List.length_append, ne_eq, Option.some.injEq, Value.int.injEq, Value.long.injEq, Int32.reduceOfNat, Int32.reduceToInt, Int.reduceLT, Int.reduceLE, Int.reduceSub, Int.reduceToNat, Int.reduceAdd, Int.reduceNeg, Int32.reduceDiv, Int64.reduceAdd, Int64.reduceSub, lg_cmp_ge, lg_cmp_le, lg_cmp_gt, lg_cmp_lt, lg_cmp_eq, wlt_t, wlt_f, wle_t, wle_f, wmod, wI_lt, wI_le, wI_eq, wI_neg, wI_pos, wI_cl, wI_ge, wI_po, w64_lt, w64_le, w64_eq, w64_lt0, w64_le0, w64_eq0, w64_32, zc317, zc319, wI_add, wI_a1, wI_s1, wI_e0, wI_m8, wI_m128, wI_m64, wI_m190, not_true_eq_false, not_false_eq_true, sP_4908_57 hS, sN_6096 hS, sN_6417 hS]
      exact q
    · have q := g' (ℓ + 1) (by omega) (by
        constructor
        · exact fun h => Or.inr ⟨k, Nat.le_refl _, Nat.lt_succ_self k, by omega⟩
        · rintro (h | ⟨j, j1, j2, j3⟩)
          · omega
          · rw [only j j1 j2] at j3; omega)
      simp (decide := true) (disch := omega) only [hcc, q196, zi198, zt198, zo198_0, zo198_3, zo198_4, zo198_5, zo198_6, zy_ldI, zy_ldL, zy_ldA, zy_stI, zy_stL, zy_stA, zy_cI, zy_cL, zy_nul, zy_inc, zy_bI, zy_bL, zy_sL, zy_un, zy_cmp, zy_dup, zy_dup2, zy_pop, zy_pop2, zy_jn, zy_jnn, zy_go, zy_fal, zy_tsw, zy_lsw, zy_get, zy_put, zy_ald, zy_ast, zy_len, zy_newa, zy_new, zy_cal, zy_ret, zy_tak, zy_cst, zy_acp, zy_oini, zy_cln, zy_thr, zy_bad, zy_lco, zy_if0, zy_ic0, zy_if1, zy_ic1, zy_if2, zy_ic2, zy_if3, zy_ic3, zy_if4, zy_ic4, zy_if5, zy_ic5, zK_go, zK_to, zK_end, zK_callH, zK_iteC, zK_none, zsLd, zsSt, zsInc, zsBI, zsBL, zsSL, zsUn, zsCmp, zsDup, zsDup2, zsPop, zsPop2, zsJn, zsTsw, zsLsw, zsGet, zsPut, zsAld, zsAst, zsLen, zsNewa, zsCal, zsRet, zsCst, zsAcp, zsOini, zsCln, zsLco, zsThr, zxBI, zxBL, zxSL, zxU, zset1, zset2, zclr, zcat, zmake_mk, zcomp, zH_i, zH_l, zH_r, zH_u, zH_n, List.set_cons_zero, List.set_cons_succ, List.getElem?_cons_zero, List.getElem?_cons_succ, List.length_cons, List.length_nil, List.take_succ_cons, List.take_zero, List.drop_succ_cons, List.drop_zero, List.reverse_cons, List.reverse_nil, List.nil_append, List.cons_append, List.map_cons, List.map_nil, List.sum_cons, List.sum_nil, Option.toList_some, Option.toList_none, Value.category, Nat.reduceAdd, Nat.reduceMul, Nat.reduceMod, Nat.reduceDiv, Nat.reduceSub, Nat.reduceLT, Nat.reduceLeDiff, Nat.reduceEqDiff, Nat.zero_le, Nat.le_refl, Int32.reduceToNatClampNeg, Int32.reduceLT, Int32.reduceLE, Int32.reduceAdd, Int32.reduceSub, Int32.reduceMul, ↓reduceIte, reduceCtorEq, Nat.add_zero, Nat.zero_add, true_or, or_true, false_or, or_false, true_and, and_true, false_and, and_false, not_true_eq_false, not_false_eq_true, if_true, if_false, true_implies, false_implies, implies_true, forall_const, false_imp_iff, true_imp_iff, va_rf, zlay, zent, List.replicate_zero, List.append_nil, List.replicate_succ, List.length_append, ne_eq, Option.some.injEq, Value.int.injEq, Value.long.injEq, Int32.reduceOfNat, Int32.reduceToInt, Int.reduceLT, Int.reduceLE, Int.reduceSub, Int.reduceToNat, Int.reduceAdd, Int.reduceNeg, Int32.reduceDiv, Int64.reduceAdd, Int64.reduceSub, lg_cmp_ge, lg_cmp_le, lg_cmp_gt, lg_cmp_lt, lg_cmp_eq, wlt_t, wlt_f, wle_t, wle_f, wmod, wI_lt, wI_le, wI_eq, wI_neg, wI_pos, wI_cl, wI_ge, wI_po, w64_lt, w64_le, w64_eq, w64_lt0, w64_le0, w64_eq0, w64_32, zc317, zc319, wI_add, wI_a1, wI_s1, wI_e0, wI_m8, wI_m128, wI_m64, wI_m190, not_true_eq_false, not_false_eq_true, sP_4908_57 hS, sN_6096 hS, sN_6417 hS]
      exact q
end
