-- needs: 01 02.names 03 04 05 18 19 20 22 23 24 25 30 31 32 33 36 40 42 43 44 46 47 60 61 62 63 64 79f 79g 79h 79i 79j 79k 79l 79m 79n 79o 79p 79q 79r
/-! lists of coins in a transaction, on both sides -/
theorem zx_min {x : Int64} : x + -9223372036854775808 = x ^^^ -9223372036854775808 := by
  apply Int64.toBitVec_inj.1
  rw [Int64.toBitVec_add, Int64.toBitVec_xor]
  apply BitVec.eq_of_getLsbD_eq
  intro i hi
  have hc : BitVec.carry i x.toBitVec (-9223372036854775808 : Int64).toBitVec false = false := by
    unfold BitVec.carry
    have e : (-9223372036854775808 : Int64).toBitVec.toNat = 2 ^ 63 := by decide
    have e2 : (2 : Nat) ^ 63 % 2 ^ i = 0 := by
      have : (2 : Nat) ^ i ∣ 2 ^ 63 := Nat.pow_dvd_pow 2 (by omega)
      exact Nat.mod_eq_zero_of_dvd this
    rw [e, e2]
    have h3 : x.toBitVec.toNat % 2 ^ i < 2 ^ i := Nat.mod_lt _ (Nat.two_pow_pos i)
    simp
    omega
  rw [BitVec.getLsbD_add hi, BitVec.getLsbD_xor, hc, Bool.xor_false]
/-- the order of kinds, of longs -/
def zBf (p x q y : Int64) : Prop := p < q ∨ (p = q ∧ (x ^^^ -9223372036854775808) < (y ^^^ -9223372036854775808))
section
variable {σ : zS} {Q : Option Value → zS → Prop}
set_option maxRecDepth 20000 in
theorem m272 {p x q y : Int64} (Q : Option Value → zS → Prop) : zC 272 [.long p, .long x, .long q, .long y] σ Q = Q (some (.int (zyn (zBf p x q y)))) σ := by
  refine zC_eq (fun Q hQ => ?_) Q
  unfold zBf at hQ
  by_cases h1 : p < q
  · rw [zyn_t (Or.inl h1)] at hQ
    simp (decide := true) (disch := omega) only [h1, zi272, zt272, zo272_0, zo272_1, zo272_2, zo272_3, zy_ldI, zy_ldL, zy_ldA, zy_stI, zy_stL, zy_stA, zy_cI, zy_cL, zy_nul, zy_inc, zy_bI, zy_bL, zy_sL, zy_un, zy_cmp, zy_dup, zy_dup2, zy_pop, zy_pop2, zy_jn, zy_jnn, zy_go, zy_fal, zy_tsw, zy_lsw, zy_get, zy_put, zy_ald, zy_ast, zy_len, zy_newa, zy_new, zy_cal, zy_ret, zy_tak, zy_cst, zy_acp, zy_oini, zy_cln, zy_thr, zy_bad, zy_lco, zy_if0, zy_ic0, zy_if1, zy_ic1, zy_if2, zy_ic2, zy_if3, zy_ic3, zy_if4, zy_ic4, zy_if5, zy_ic5, zK_go, zK_to, zK_end, zK_callH, zK_iteC, zK_none, zsLd, zsSt, zsInc, zsBI, zsBL, zsSL, zsUn, zsCmp, zsDup, zsDup2, zsPop, zsPop2, zsJn, zsTsw, zsLsw, zsGet, zsPut, zsAld, zsAst, zsLen, zsNewa, zsCal, zsRet, zsCst, zsAcp, zsOini, zsCln, zsLco, zsThr, zxBI, zxBL, zxSL, zxU, zset1, zset2, zclr, zcat, zmake_mk, zcomp, zH_i, zH_l, zH_r, zH_u, zH_n, List.set_cons_zero, List.set_cons_succ, List.getElem?_cons_zero, List.getElem?_cons_succ, List.length_cons, List.length_nil, List.take_succ_cons, List.take_zero, List.drop_succ_cons, List.drop_zero, List.reverse_cons, List.reverse_nil, List.nil_append, List.cons_append, List.map_cons, List.map_nil, List.sum_cons, List.sum_nil, Option.toList_some, Option.toList_none, Value.category, Nat.reduceAdd, Nat.reduceMul, Nat.reduceMod, Nat.reduceDiv, Nat.reduceSub, Nat.reduceLT, Nat.reduceLeDiff, Nat.reduceEqDiff, Nat.zero_le, Nat.le_refl, Int32.reduceToNatClampNeg, Int32.reduceLT, Int32.reduceLE, Int32.reduceAdd, Int32.reduceSub, Int32.reduceMul, ↓reduceIte, reduceCtorEq, Nat.add_zero, Nat.zero_add, true_or, or_true, false_or, or_false, true_and, and_true, false_and, and_false, not_true_eq_false, not_false_eq_true, if_true, if_false, true_implies, false_implies, implies_true, forall_const, false_imp_iff, true_imp_iff, va_rf, zlay, zent, List.replicate_zero, List.append_nil, List.replicate_succ, List.length_append, ne_eq, Option.some.injEq, Value.int.injEq, Value.long.injEq, Int32.reduceOfNat, Int32.reduceToInt, Int.reduceLT, Int.reduceLE, Int.reduceSub, Int.reduceToNat, Int.reduceAdd, Int.reduceNeg, Int32.reduceDiv, Int64.reduceAdd, Int64.reduceSub, lg_cmp_ge, lg_cmp_le, lg_cmp_gt, lg_cmp_lt, lg_cmp_eq, wlt_t, wlt_f, wle_t, wle_f, wmod, wI_lt, wI_le, wI_eq, wI_neg, wI_pos, wI_cl, wI_ge, wI_po, w64_lt, w64_le, w64_eq, w64_lt0, w64_le0, w64_eq0, w64_32, zc317, zc319, wI_add, wI_a1, wI_s1, wI_e0, wI_m8, wI_m128, wI_m64, wI_m190, not_true_eq_false, not_false_eq_true]
    exact hQ
  · by_cases h2 : p = q
    · subst h2
      by_cases h3 : (x ^^^ -9223372036854775808) < (y ^^^ -9223372036854775808)
      · rw [zyn_t (Or.inr ⟨rfl, h3⟩)] at hQ
        have h4 : ¬ (y ^^^ -9223372036854775808) ≤ (x ^^^ -9223372036854775808) := fun h => Int64.lt_irrefl (Int64.lt_of_lt_of_le h3 h)
        simp (decide := true) (disch := omega) only [h1, zx_min, h4, zi272, zt272, zo272_0, zo272_1, zo272_2, zo272_3, zy_ldI, zy_ldL, zy_ldA, zy_stI, zy_stL, zy_stA, zy_cI, zy_cL, zy_nul, zy_inc, zy_bI, zy_bL, zy_sL, zy_un, zy_cmp, zy_dup, zy_dup2, zy_pop, zy_pop2, zy_jn, zy_jnn, zy_go, zy_fal, zy_tsw, zy_lsw, zy_get, zy_put, zy_ald, zy_ast, zy_len, zy_newa, zy_new, zy_cal, zy_ret, zy_tak, zy_cst, zy_acp, zy_oini, zy_cln, zy_thr, zy_bad, zy_lco, zy_if0, zy_ic0, zy_if1, zy_ic1, zy_if2, zy_ic2, zy_if3, zy_ic3, zy_if4, zy_ic4, zy_if5, zy_ic5, zK_go, zK_to, zK_end, zK_callH, zK_iteC, zK_none, zsLd, zsSt, zsInc, zsBI, zsBL, zsSL, zsUn, zsCmp, zsDup, zsDup2, zsPop, zsPop2, zsJn, zsTsw, zsLsw, zsGet, zsPut, zsAld, zsAst, zsLen, zsNewa, zsCal, zsRet, zsCst, zsAcp, zsOini, zsCln, zsLco, zsThr, zxBI, zxBL, zxSL, zxU, zset1, zset2, zclr, zcat, zmake_mk, zcomp, zH_i, zH_l, zH_r, zH_u, zH_n, List.set_cons_zero, List.set_cons_succ, List.getElem?_cons_zero, List.getElem?_cons_succ, List.length_cons, List.length_nil, List.take_succ_cons, List.take_zero, List.drop_succ_cons, List.drop_zero, List.reverse_cons, List.reverse_nil, List.nil_append, List.cons_append, List.map_cons, List.map_nil, List.sum_cons, List.sum_nil, Option.toList_some, Option.toList_none, Value.category, Nat.reduceAdd, Nat.reduceMul, Nat.reduceMod, Nat.reduceDiv, Nat.reduceSub, Nat.reduceLT, Nat.reduceLeDiff, Nat.reduceEqDiff, Nat.zero_le, Nat.le_refl, Int32.reduceToNatClampNeg, Int32.reduceLT, Int32.reduceLE, Int32.reduceAdd, Int32.reduceSub, Int32.reduceMul, ↓reduceIte, reduceCtorEq, Nat.add_zero, Nat.zero_add, true_or, or_true, false_or, or_false, true_and, and_true, false_and, and_false, not_true_eq_false, not_false_eq_true, if_true, if_false, true_implies, false_implies, implies_true, forall_const, false_imp_iff, true_imp_iff, va_rf, zlay, zent, List.replicate_zero, List.append_nil, List.replicate_succ, List.length_append, ne_eq, Option.some.injEq, Value.int.injEq, Value.long.injEq, Int32.reduceOfNat, Int32.reduceToInt, Int.reduceLT, Int.reduceLE, Int.reduceSub, Int.reduceToNat, Int.reduceAdd, Int.reduceNeg, Int32.reduceDiv, Int64.reduceAdd, Int64.reduceSub, lg_cmp_ge, lg_cmp_le, lg_cmp_gt, lg_cmp_lt, lg_cmp_eq, wlt_t, wlt_f, wle_t, wle_f, wmod, wI_lt, wI_le, wI_eq, wI_neg, wI_pos, wI_cl, wI_ge, wI_po, w64_lt, w64_le, w64_eq, w64_lt0, w64_le0, w64_eq0, w64_32, zc317, zc319, wI_add, wI_a1, wI_s1, wI_e0, wI_m8, wI_m128, wI_m64, wI_m190, not_true_eq_false, not_false_eq_true]
        exact hQ
      · rw [zyn_f (fun h => h.elim h1 (fun h => h3 h.2))] at hQ
        have h4 : (y ^^^ -9223372036854775808) ≤ (x ^^^ -9223372036854775808) := Int64.not_lt.1 h3
        simp (decide := true) (disch := omega) only [h1, zx_min, h4, zi272, zt272, zo272_0, zo272_1, zo272_2, zo272_3, zy_ldI, zy_ldL, zy_ldA, zy_stI, zy_stL, zy_stA, zy_cI, zy_cL, zy_nul, zy_inc, zy_bI, zy_bL, zy_sL, zy_un, zy_cmp, zy_dup, zy_dup2, zy_pop, zy_pop2, zy_jn, zy_jnn, zy_go, zy_fal, zy_tsw, zy_lsw, zy_get, zy_put, zy_ald, zy_ast, zy_len, zy_newa, zy_new, zy_cal, zy_ret, zy_tak, zy_cst, zy_acp, zy_oini, zy_cln, zy_thr, zy_bad, zy_lco, zy_if0, zy_ic0, zy_if1, zy_ic1, zy_if2, zy_ic2, zy_if3, zy_ic3, zy_if4, zy_ic4, zy_if5, zy_ic5, zK_go, zK_to, zK_end, zK_callH, zK_iteC, zK_none, zsLd, zsSt, zsInc, zsBI, zsBL, zsSL, zsUn, zsCmp, zsDup, zsDup2, zsPop, zsPop2, zsJn, zsTsw, zsLsw, zsGet, zsPut, zsAld, zsAst, zsLen, zsNewa, zsCal, zsRet, zsCst, zsAcp, zsOini, zsCln, zsLco, zsThr, zxBI, zxBL, zxSL, zxU, zset1, zset2, zclr, zcat, zmake_mk, zcomp, zH_i, zH_l, zH_r, zH_u, zH_n, List.set_cons_zero, List.set_cons_succ, List.getElem?_cons_zero, List.getElem?_cons_succ, List.length_cons, List.length_nil, List.take_succ_cons, List.take_zero, List.drop_succ_cons, List.drop_zero, List.reverse_cons, List.reverse_nil, List.nil_append, List.cons_append, List.map_cons, List.map_nil, List.sum_cons, List.sum_nil, Option.toList_some, Option.toList_none, Value.category, Nat.reduceAdd, Nat.reduceMul, Nat.reduceMod, Nat.reduceDiv, Nat.reduceSub, Nat.reduceLT, Nat.reduceLeDiff, Nat.reduceEqDiff, Nat.zero_le, Nat.le_refl, Int32.reduceToNatClampNeg, Int32.reduceLT, Int32.reduceLE, Int32.reduceAdd, Int32.reduceSub, Int32.reduceMul, ↓reduceIte, reduceCtorEq, Nat.add_zero, Nat.zero_add, true_or, or_true, false_or, or_false, true_and, and_true, false_and, and_false, not_true_eq_false, not_false_eq_true, if_true, if_false, true_implies, false_implies, implies_true, forall_const, false_imp_iff, true_imp_iff, va_rf, zlay, zent, List.replicate_zero, List.append_nil, List.replicate_succ, List.length_append, ne_eq, Option.some.injEq, Value.int.injEq, Value.long.injEq, Int32.reduceOfNat, Int32.reduceToInt, Int.reduceLT, Int.reduceLE, Int.reduceSub, Int.reduceToNat, Int.reduceAdd, Int.reduceNeg, Int32.reduceDiv, Int64.reduceAdd, Int64.reduceSub, lg_cmp_ge, lg_cmp_le, lg_cmp_gt, lg_cmp_lt, lg_cmp_eq, wlt_t, wlt_f, wle_t, wle_f, wmod, wI_lt, wI_le, wI_eq, wI_neg, wI_pos, wI_cl, wI_ge, wI_po, w64_lt, w64_le, w64_eq, w64_lt0, w64_le0, w64_eq0, w64_32, zc317, zc319, wI_add, wI_a1, wI_s1, wI_e0, wI_m8, wI_m128, wI_m64, wI_m190, not_true_eq_false, not_false_eq_true]
        exact hQ
    · rw [zyn_f (fun h => h.elim h1 (fun h => h2 h.1))] at hQ
      simp (decide := true) (disch := omega) only [h1, h2, zi272, zt272, zo272_0, zo272_1, zo272_2, zo272_3, zy_ldI, zy_ldL, zy_ldA, zy_stI, zy_stL, zy_stA, zy_cI, zy_cL, zy_nul, zy_inc, zy_bI, zy_bL, zy_sL, zy_un, zy_cmp, zy_dup, zy_dup2, zy_pop, zy_pop2, zy_jn, zy_jnn, zy_go, zy_fal, zy_tsw, zy_lsw, zy_get, zy_put, zy_ald, zy_ast, zy_len, zy_newa, zy_new, zy_cal, zy_ret, zy_tak, zy_cst, zy_acp, zy_oini, zy_cln, zy_thr, zy_bad, zy_lco, zy_if0, zy_ic0, zy_if1, zy_ic1, zy_if2, zy_ic2, zy_if3, zy_ic3, zy_if4, zy_ic4, zy_if5, zy_ic5, zK_go, zK_to, zK_end, zK_callH, zK_iteC, zK_none, zsLd, zsSt, zsInc, zsBI, zsBL, zsSL, zsUn, zsCmp, zsDup, zsDup2, zsPop, zsPop2, zsJn, zsTsw, zsLsw, zsGet, zsPut, zsAld, zsAst, zsLen, zsNewa, zsCal, zsRet, zsCst, zsAcp, zsOini, zsCln, zsLco, zsThr, zxBI, zxBL, zxSL, zxU, zset1, zset2, zclr, zcat, zmake_mk, zcomp, zH_i, zH_l, zH_r, zH_u, zH_n, List.set_cons_zero, List.set_cons_succ, List.getElem?_cons_zero, List.getElem?_cons_succ, List.length_cons, List.length_nil, List.take_succ_cons, List.take_zero, List.drop_succ_cons, List.drop_zero, List.reverse_cons, List.reverse_nil, List.nil_append, List.cons_append, List.map_cons, List.map_nil, List.sum_cons, List.sum_nil, Option.toList_some, Option.toList_none, Value.category, Nat.reduceAdd, Nat.reduceMul, Nat.reduceMod, Nat.reduceDiv, Nat.reduceSub, Nat.reduceLT, Nat.reduceLeDiff, Nat.reduceEqDiff, Nat.zero_le, Nat.le_refl, Int32.reduceToNatClampNeg, Int32.reduceLT, Int32.reduceLE, Int32.reduceAdd, Int32.reduceSub, Int32.reduceMul, ↓reduceIte, reduceCtorEq, Nat.add_zero, Nat.zero_add, true_or, or_true, false_or, or_false, true_and, and_true, false_and, and_false, not_true_eq_false, not_false_eq_true, if_true, if_false, true_implies, false_implies, implies_true, forall_const, false_imp_iff, true_imp_iff, va_rf, zlay, zent, List.replicate_zero, List.append_nil, List.replicate_succ, List.length_append, ne_eq, Option.some.injEq, Value.int.injEq, Value.long.injEq, Int32.reduceOfNat, Int32.reduceToInt, Int.reduceLT, Int.reduceLE, Int.reduceSub, Int.reduceToNat, Int.reduceAdd, Int.reduceNeg, Int32.reduceDiv, Int64.reduceAdd, Int64.reduceSub, lg_cmp_ge, lg_cmp_le, lg_cmp_gt, lg_cmp_lt, lg_cmp_eq, wlt_t, wlt_f, wle_t, wle_f, wmod, wI_lt, wI_le, wI_eq, wI_neg, wI_pos, wI_cl, wI_ge, wI_po, w64_lt, w64_le, w64_eq, w64_lt0, w64_le0, w64_eq0, w64_32, zc317, zc319, wI_add, wI_a1, wI_s1, wI_e0, wI_m8, wI_m128, wI_m64, wI_m190, not_true_eq_false, not_false_eq_true]
      exact hQ
end
theorem zBf_i {p x q y : Int64} {a b : Nat} (hp : p = (nI a).toInt64) (hq : q = (nI b).toInt64) : zAhd p.toInt32 x q.toInt32 y = zBf p x q y := by
  unfold zAhd zBf
  rw [hp, hq, w64_32, w64_32, w64_lt, w64_eq]
section
variable {I : zI} {J : zJ} {P : zP} {N : Nat → Nat} {n z K : Nat} {F C Z X H L : Nat → Nat} {T : Nat → Int64} {Q : Option Value → zS → Prop}
theorem zDt_F (D : zDt F C Z L K) {j : Nat} (hj : j < K) : F j < 7 ∧ C j < 2 ^ 31 ∧ Z j ≤ 200 := by
  have := D.2 j hj
  have := D.1
  omega
theorem k92 (hS : zStat P N) (D : zDt F C Z L K) (hv : zCv I J 0 F T C Z X K) {j : Nat} (hj : j < K) (Q : Option Value → zS → Prop) : zC 92 [.ref 37, .int (nI j)] (I, J, P, N, n, z) Q = Q (some (.int (nI (j + Z j)))) (I, J, P, N, n, z) := by
  have h := m92 (n := n) (z := z) hS hv hj (by have := D.1; omega) Q
  rw [Nat.zero_add] at h
  exact h
theorem k93 (hS : zStat P N) (D : zDt F C Z L K) (hv : zCv I J 0 F T C Z X K) {j : Nat} (hj : j < K) (Q : Option Value → zS → Prop) : zC 93 [.ref 37, .int (nI j)] (I, J, P, N, n, z) Q = Q (some (.int (zyn (F j = 0)))) (I, J, P, N, n, z) := by
  have h := m93 (n := n) (z := z) hS hv (zDt_F D hj).1 hj (by have := D.1; omega) Q
  rw [Nat.zero_add] at h
  exact h
theorem k94 (hS : zStat P N) (D : zDt F C Z L K) (hv : zCv I J 0 F T C Z X K) {j : Nat} {lo hi : Int64} (hj : j < K) (Q : Option Value → zS → Prop) : zC 94 [.ref 37, .int (nI j), .long lo, .long hi] (I, J, P, N, n, z) Q = Q (some (.int (zyn (zInW F T j lo hi)))) (I, J, P, N, n, z) := by
  have h := m94 (n := n) (z := z) (lo := lo) (hi := hi) hS hv (zDt_F D hj).1 hj (by have := D.1; omega) Q
  rw [Nat.zero_add] at h
  exact h
theorem k95 (hS : zStat P N) (D : zDt F C Z L K) (hv : zCv I J 0 F T C Z X K) {j : Nat} {lo hi : Int32} (a b : Nat) (hj : j < K) (ea : lo = nI a := by rfl) (eb : hi = nI b := by rfl) (ha : a < 2 ^ 31 := by omega) (hb : b < 2 ^ 31 := by omega) (Q : Option Value → zS → Prop) : zC 95 [.ref 37, .int (nI j), .int lo, .int hi] (I, J, P, N, n, z) Q = Q (some (.int (zyn (zLi F C j a b)))) (I, J, P, N, n, z) := by
  have h := m95 (n := n) (z := z) (lo := a) (hi := b) hS hv (zDt_F D hj).1 (zDt_F D hj).2.1 ha hb hj (by have := D.1; omega) Q
  rw [Nat.zero_add] at h
  rw [ea, eb]
  exact h
theorem k96 (hS : zStat P N) (D : zDt F C Z L K) (hv : zCv I J 0 F T C Z X K) {j : Nat} {g : Int64} {x : Int32} (m : Nat) (hj : j < K) (ex : x = nI m := by rfl) (hm : m < 2 ^ 31 := by omega) (Q : Option Value → zS → Prop) : zC 96 [.ref 37, .int (nI j), .long g, .int x] (I, J, P, N, n, z) Q = Q (some (.int (zyn (zCs F T C j g m)))) (I, J, P, N, n, z) := by
  have h := m96 (n := n) (z := z) (m := m) (g := g) hS hv (zDt_F D hj).1 (zDt_F D hj).2.1 hm hj (by have := D.1; omega) Q
  rw [Nat.zero_add] at h
  rw [ex]
  exact h
/-- a node that holds nothing -/
theorem zDt_1 (D : zDt F C Z L K) {j : Nat} (hj : j < K) (h : F j = 0) : Z j = 1 := by
  have := (D.2 j hj).2.2.2.1
  rw [h] at this
  have : j + 1 = j + Z j := this
  omega
/-- .. and where it lies: the places of INTEGERS in a row -/
theorem zDt_w (D : zDt F C Z L K) {j : Nat} (hj : j < K) : ∀ i, i ≤ zKc (F j) (C j) → (∀ m, m < i → F (zWi Z j m) = 0) → zWi Z j i = j + 1 + i := by
  intro i
  induction i with
  | zero => intro _ _; rfl
  | succ i ih =>
    intro hi h
    have h1 := ih (by omega) (fun m hm => h m (by omega))
    have h2 := zDt_1 D ((D.2 j hj).2.2.2.2.1 i (by omega)).1 (h i (by omega))
    show zWi Z j i + Z (zWi Z j i) = _
    omega
/-- all that a list holds are INTEGERS -/
def zInA (F C Z : Nat → Nat) (j : Nat) : Prop := ∀ i, i < C j → F (j + 1 + i) = 0
theorem zInA_w (D : zDt F C Z L K) {j : Nat} (hj : j < K) (h4 : 4 ≤ F j) (h : zInA F C Z j) : ∀ i, i ≤ C j → zWi Z j i = j + 1 + i := by
  have e : zKc (F j) (C j) = C j := by unfold zKc; rw [if_pos h4]
  intro i
  induction i with
  | zero => intro _; rfl
  | succ i ih =>
    intro hi
    have h1 := ih (by omega)
    have h2 := zDt_1 D ((D.2 j hj).2.2.2.2.1 i (by rw [e]; omega)).1 (by rw [h1]; exact h i (by omega))
    show zWi Z j i + Z (zWi Z j i) = _
    omega
set_option maxRecDepth 20000 in
theorem l134 (hS : zStat P N) (D : zDt F C Z L K) (hv : zCv I J 0 F T C Z X K) {j : Nat} (hj : j < K) (h4 : 4 ≤ F j) (hQ : Q (some (.int (zyn (zInA F C Z j)))) (I, J, P, N, n, z)) : ∀ r i, i + r = C j → (∀ m, m < i → F (j + 1 + m) = 0) → zQ zt134 zo134_1 [some (.ref 649), some (.int (nI j)), some (.int (nI (i + 1)))] [] (I, J, P, N, n, z) Q := by
  have hK := D.1
  have e : zKc (F j) (C j) = C j := by unfold zKc; rw [if_pos h4]
  have v2 : I 112 j = nI (C j) := by have := (hv j hj).2.1; rw [Nat.zero_add] at this; exact this
  have hc := (D.2 j hj).2.2.1.1
  intro r
  induction r with
  | zero =>
    intro i hi h
    have hA : zInA F C Z j := fun m hm => h m (by omega)
    rw [zyn_t hA] at hQ
    have h1 : C j < i + 1 := by omega
    rw [zo134_1]
    simp (decide := true) (disch := omega) only [v2, h1, zi134, zt134, zo134_0, zo134_2, zo134_3, zy_ldI, zy_ldL, zy_ldA, zy_stI, zy_stL, zy_stA, zy_cI, zy_cL, zy_nul, zy_inc, zy_bI, zy_bL, zy_sL, zy_un, zy_cmp, zy_dup, zy_dup2, zy_pop, zy_pop2, zy_jn, zy_jnn, zy_go, zy_fal, zy_tsw, zy_lsw, zy_get, zy_put, zy_ald, zy_ast, zy_len, zy_newa, zy_new, zy_cal, zy_ret, zy_tak, zy_cst, zy_acp, zy_oini, zy_cln, zy_thr, zy_bad, zy_lco, zy_if0, zy_ic0, zy_if1, zy_ic1, zy_if2, zy_ic2, zy_if3, zy_ic3, zy_if4, zy_ic4, zy_if5, zy_ic5, zK_go, zK_to, zK_end, zK_callH, zK_iteC, zK_none, zsLd, zsSt, zsInc, zsBI, zsBL, zsSL, zsUn, zsCmp, zsDup, zsDup2, zsPop, zsPop2, zsJn, zsTsw, zsLsw, zsGet, zsPut, zsAld, zsAst, zsLen, zsNewa, zsCal, zsRet, zsCst, zsAcp, zsOini, zsCln, zsLco, zsThr, zxBI, zxBL, zxSL, zxU, zset1, zset2, zclr, zcat, zmake_mk, zcomp, zH_i, zH_l, zH_r, zH_u, zH_n, List.set_cons_zero, List.set_cons_succ, List.getElem?_cons_zero, List.getElem?_cons_succ, List.length_cons, List.length_nil, List.take_succ_cons, List.take_zero, List.drop_succ_cons, List.drop_zero, List.reverse_cons, List.reverse_nil, List.nil_append, List.cons_append, List.map_cons, List.map_nil, List.sum_cons, List.sum_nil, Option.toList_some, Option.toList_none, Value.category, Nat.reduceAdd, Nat.reduceMul, Nat.reduceMod, Nat.reduceDiv, Nat.reduceSub, Nat.reduceLT, Nat.reduceLeDiff, Nat.reduceEqDiff, Nat.zero_le, Nat.le_refl, Int32.reduceToNatClampNeg, Int32.reduceLT, Int32.reduceLE, Int32.reduceAdd, Int32.reduceSub, Int32.reduceMul, ↓reduceIte, reduceCtorEq, Nat.add_zero, Nat.zero_add, true_or, or_true, false_or, or_false, true_and, and_true, false_and, and_false, not_true_eq_false, not_false_eq_true, if_true, if_false, true_implies, false_implies, implies_true, forall_const, false_imp_iff, true_imp_iff, va_rf, zlay, zent, List.replicate_zero, List.append_nil, List.replicate_succ, List.length_append, ne_eq, Option.some.injEq, Value.int.injEq, Value.long.injEq, Int32.reduceOfNat, Int32.reduceToInt, Int.reduceLT, Int.reduceLE, Int.reduceSub, Int.reduceToNat, Int.reduceAdd, Int.reduceNeg, Int32.reduceDiv, Int64.reduceAdd, Int64.reduceSub, lg_cmp_ge, lg_cmp_le, lg_cmp_gt, lg_cmp_lt, lg_cmp_eq, wlt_t, wlt_f, wle_t, wle_f, wmod, wI_lt, wI_le, wI_eq, wI_neg, wI_pos, wI_cl, wI_ge, wI_po, w64_lt, w64_le, w64_eq, w64_lt0, w64_le0, w64_eq0, w64_32, zc317, zc319, wI_add, wI_a1, wI_s1, wI_e0, wI_m8, wI_m128, wI_m64, wI_m190, not_true_eq_false, not_false_eq_true, sP_37_1 hS, sP_649_0 hS, sN_112 hS, sN_6417 hS]
    exact hQ
  | succ r ih =>
    intro i hi h
    have hw : zWi Z j i = j + 1 + i := zDt_w D hj i (by rw [e]; omega) (fun m hm => by
      have : ∀ m', m' ≤ m → zWi Z j m' = j + 1 + m' := by
        intro m'
        induction m' with
        | zero => intro _; rfl
        | succ m' ih' =>
          intro hm'
          have h1 := ih' (by omega)
          have h2 := zDt_1 D ((D.2 j hj).2.2.2.2.1 m' (by rw [e]; omega)).1 (by rw [h1]; exact h m' (by omega))
          show zWi Z j m' + Z (zWi Z j m') = _
          omega
      rw [this m (Nat.le_refl _)]
      exact h m hm)
    have hlt := ((D.2 j hj).2.2.2.2.1 i (by rw [e]; omega)).1
    rw [hw] at hlt
    have p := fun (Q : Option Value → zS → Prop) => k93 (n := n) (z := z) hS D hv hlt Q
    have e1 : j + (i + 1) = j + 1 + i := by omega
    have h1 : ¬ C j < i + 1 := by omega
    rw [zo134_1]
    by_cases h0 : F (j + 1 + i) = 0
    · rw [zyn_t h0] at p
      have q := ih (i + 1) (by omega) (fun m hm => by
        by_cases hmi : m = i
        · rw [hmi]; exact h0
        · exact h m (by omega))
      have e10 : ¬ (1 : Int32) = 0 := by decide
      simp (decide := true) (disch := omega) only [v2, h1, e1, p, e10, zi134, zt134, zo134_0, zo134_2, zo134_3, zy_ldI, zy_ldL, zy_ldA, zy_stI, zy_stL, zy_stA, zy_cI, zy_cL, zy_nul, zy_inc, zy_bI, zy_bL, zy_sL, zy_un, zy_cmp, zy_dup, zy_dup2, zy_pop, zy_pop2, zy_jn, zy_jnn, zy_go, zy_fal, zy_tsw, zy_lsw, zy_get, zy_put, zy_ald, zy_ast, zy_len, zy_newa, zy_new, zy_cal, zy_ret, zy_tak, zy_cst, zy_acp, zy_oini, zy_cln, zy_thr, zy_bad, zy_lco, zy_if0, zy_ic0, zy_if1, zy_ic1, zy_if2, zy_ic2, zy_if3, zy_ic3, zy_if4, zy_ic4, zy_if5, zy_ic5, zK_go, zK_to, zK_end, zK_callH, zK_iteC, zK_none, zsLd, zsSt, zsInc, zsBI, zsBL, zsSL, zsUn, zsCmp, zsDup, zsDup2, zsPop, zsPop2, zsJn, zsTsw, zsLsw, zsGet, zsPut, zsAld, zsAst, zsLen, zsNewa, zsCal, zsRet, zsCst, zsAcp, zsOini, zsCln, zsLco, zsThr, zxBI, zxBL, zxSL, zxU, zset1, zset2, zclr, zcat, zmake_mk, zcomp, zH_i, zH_l, zH_r, zH_u, zH_n, List.set_cons_zero, List.set_cons_succ, List.getElem?_cons_zero, List.getElem?_cons_succ, List.length_cons, List.length_nil, List.take_succ_cons, List.take_zero, List.drop_succ_cons, List.drop_zero, List.reverse_cons, List.reverse_nil, List.nil_append, List.cons_append, List.map_cons, List.map_nil, List.sum_cons, List.sum_nil, Option.toList_some, Option.toList_none, Value.category, Nat.reduceAdd, Nat.reduceMul, Nat.reduceMod, Nat.reduceDiv, Nat.reduceSub, Nat.reduceLT, Nat.reduceLeDiff, Nat.reduceEqDiff, Nat.zero_le, Nat.le_refl, Int32.reduceToNatClampNeg, Int32.reduceLT, Int32.reduceLE, Int32.reduceAdd, Int32.reduceSub, Int32.reduceMul, ↓reduceIte, reduceCtorEq, Nat.add_zero, Nat.zero_add, true_or, or_true, false_or, or_false, true_and, and_true, false_and, and_false, not_true_eq_false, not_false_eq_true, if_true, if_false, true_implies, false_implies, implies_true, forall_const, false_imp_iff, true_imp_iff, va_rf, zlay, zent, List.replicate_zero, List.append_nil, List.replicate_succ, List.length_append, ne_eq, Option.some.injEq, Value.int.injEq, Value.long.injEq, Int32.reduceOfNat, Int32.reduceToInt, Int.reduceLT, Int.reduceLE, Int.reduceSub, Int.reduceToNat, Int.reduceAdd, Int.reduceNeg, Int32.reduceDiv, Int64.reduceAdd, Int64.reduceSub, lg_cmp_ge, lg_cmp_le, lg_cmp_gt, lg_cmp_lt, lg_cmp_eq, wlt_t, wlt_f, wle_t, wle_f, wmod, wI_lt, wI_le, wI_eq, wI_neg, wI_pos, wI_cl, wI_ge, wI_po, w64_lt, w64_le, w64_eq, w64_lt0, w64_le0, w64_eq0, w64_32, zc317, zc319, wI_add, wI_a1, wI_s1, wI_e0, wI_m8, wI_m128, wI_m64, wI_m190, not_true_eq_false, not_false_eq_true, sP_37_1 hS, sP_649_0 hS, sN_112 hS, sN_6417 hS]
      exact q
    · rw [zyn_f h0] at p
      rw [zyn_f (p := zInA F C Z j) (fun x => h0 (x i (by omega)))] at hQ
      simp (decide := true) (disch := omega) only [v2, h1, e1, p, zi134, zt134, zo134_0, zo134_2, zo134_3, zy_ldI, zy_ldL, zy_ldA, zy_stI, zy_stL, zy_stA, zy_cI, zy_cL, zy_nul, zy_inc, zy_bI, zy_bL, zy_sL, zy_un, zy_cmp, zy_dup, zy_dup2, zy_pop, zy_pop2, zy_jn, zy_jnn, zy_go, zy_fal, zy_tsw, zy_lsw, zy_get, zy_put, zy_ald, zy_ast, zy_len, zy_newa, zy_new, zy_cal, zy_ret, zy_tak, zy_cst, zy_acp, zy_oini, zy_cln, zy_thr, zy_bad, zy_lco, zy_if0, zy_ic0, zy_if1, zy_ic1, zy_if2, zy_ic2, zy_if3, zy_ic3, zy_if4, zy_ic4, zy_if5, zy_ic5, zK_go, zK_to, zK_end, zK_callH, zK_iteC, zK_none, zsLd, zsSt, zsInc, zsBI, zsBL, zsSL, zsUn, zsCmp, zsDup, zsDup2, zsPop, zsPop2, zsJn, zsTsw, zsLsw, zsGet, zsPut, zsAld, zsAst, zsLen, zsNewa, zsCal, zsRet, zsCst, zsAcp, zsOini, zsCln, zsLco, zsThr, zxBI, zxBL, zxSL, zxU, zset1, zset2, zclr, zcat, zmake_mk, zcomp, zH_i, zH_l, zH_r, zH_u, zH_n, List.set_cons_zero, List.set_cons_succ, List.getElem?_cons_zero, List.getElem?_cons_succ, List.length_cons, List.length_nil, List.take_succ_cons, List.take_zero, List.drop_succ_cons, List.drop_zero, List.reverse_cons, List.reverse_nil, List.nil_append, List.cons_append, List.map_cons, List.map_nil, List.sum_cons, List.sum_nil, Option.toList_some, Option.toList_none, Value.category, Nat.reduceAdd, Nat.reduceMul, Nat.reduceMod, Nat.reduceDiv, Nat.reduceSub, Nat.reduceLT, Nat.reduceLeDiff, Nat.reduceEqDiff, Nat.zero_le, Nat.le_refl, Int32.reduceToNatClampNeg, Int32.reduceLT, Int32.reduceLE, Int32.reduceAdd, Int32.reduceSub, Int32.reduceMul, ↓reduceIte, reduceCtorEq, Nat.add_zero, Nat.zero_add, true_or, or_true, false_or, or_false, true_and, and_true, false_and, and_false, not_true_eq_false, not_false_eq_true, if_true, if_false, true_implies, false_implies, implies_true, forall_const, false_imp_iff, true_imp_iff, va_rf, zlay, zent, List.replicate_zero, List.append_nil, List.replicate_succ, List.length_append, ne_eq, Option.some.injEq, Value.int.injEq, Value.long.injEq, Int32.reduceOfNat, Int32.reduceToInt, Int.reduceLT, Int.reduceLE, Int.reduceSub, Int.reduceToNat, Int.reduceAdd, Int.reduceNeg, Int32.reduceDiv, Int64.reduceAdd, Int64.reduceSub, lg_cmp_ge, lg_cmp_le, lg_cmp_gt, lg_cmp_lt, lg_cmp_eq, wlt_t, wlt_f, wle_t, wle_f, wmod, wI_lt, wI_le, wI_eq, wI_neg, wI_pos, wI_cl, wI_ge, wI_po, w64_lt, w64_le, w64_eq, w64_lt0, w64_le0, w64_eq0, w64_32, zc317, zc319, wI_add, wI_a1, wI_s1, wI_e0, wI_m8, wI_m128, wI_m64, wI_m190, not_true_eq_false, not_false_eq_true, sP_37_1 hS, sP_649_0 hS, sN_112 hS, sN_6417 hS]
      exact hQ
set_option maxRecDepth 20000 in
theorem m134 (hS : zStat P N) (D : zDt F C Z L K) (hv : zCv I J 0 F T C Z X K) {j : Nat} (hj : j < K) (h4 : 4 ≤ F j) (Q : Option Value → zS → Prop) : zC 134 [.ref 649, .int (nI j)] (I, J, P, N, n, z) Q = Q (some (.int (zyn (zInA F C Z j)))) (I, J, P, N, n, z) := by
  refine zC_eq (fun Q hQ => ?_) Q
  have q := l134 (n := n) (z := z) hS D hv hj h4 hQ (C j) 0 (by omega) (fun m hm => by omega)
  have e1 : nI (0 + 1) = 1 := rfl
  rw [e1] at q
  simp (decide := true) (disch := omega) only [zi134, zt134, zo134_0, zo134_2, zo134_3, zy_ldI, zy_ldL, zy_ldA, zy_stI, zy_stL, zy_stA, zy_cI, zy_cL, zy_nul, zy_inc, zy_bI, zy_bL, zy_sL, zy_un, zy_cmp, zy_dup, zy_dup2, zy_pop, zy_pop2, zy_jn, zy_jnn, zy_go, zy_fal, zy_tsw, zy_lsw, zy_get, zy_put, zy_ald, zy_ast, zy_len, zy_newa, zy_new, zy_cal, zy_ret, zy_tak, zy_cst, zy_acp, zy_oini, zy_cln, zy_thr, zy_bad, zy_lco, zy_if0, zy_ic0, zy_if1, zy_ic1, zy_if2, zy_ic2, zy_if3, zy_ic3, zy_if4, zy_ic4, zy_if5, zy_ic5, zK_go, zK_to, zK_end, zK_callH, zK_iteC, zK_none, zsLd, zsSt, zsInc, zsBI, zsBL, zsSL, zsUn, zsCmp, zsDup, zsDup2, zsPop, zsPop2, zsJn, zsTsw, zsLsw, zsGet, zsPut, zsAld, zsAst, zsLen, zsNewa, zsCal, zsRet, zsCst, zsAcp, zsOini, zsCln, zsLco, zsThr, zxBI, zxBL, zxSL, zxU, zset1, zset2, zclr, zcat, zmake_mk, zcomp, zH_i, zH_l, zH_r, zH_u, zH_n, List.set_cons_zero, List.set_cons_succ, List.getElem?_cons_zero, List.getElem?_cons_succ, List.length_cons, List.length_nil, List.take_succ_cons, List.take_zero, List.drop_succ_cons, List.drop_zero, List.reverse_cons, List.reverse_nil, List.nil_append, List.cons_append, List.map_cons, List.map_nil, List.sum_cons, List.sum_nil, Option.toList_some, Option.toList_none, Value.category, Nat.reduceAdd, Nat.reduceMul, Nat.reduceMod, Nat.reduceDiv, Nat.reduceSub, Nat.reduceLT, Nat.reduceLeDiff, Nat.reduceEqDiff, Nat.zero_le, Nat.le_refl, Int32.reduceToNatClampNeg, Int32.reduceLT, Int32.reduceLE, Int32.reduceAdd, Int32.reduceSub, Int32.reduceMul, ↓reduceIte, reduceCtorEq, Nat.add_zero, Nat.zero_add, true_or, or_true, false_or, or_false, true_and, and_true, false_and, and_false, not_true_eq_false, not_false_eq_true, if_true, if_false, true_implies, false_implies, implies_true, forall_const, false_imp_iff, true_imp_iff, va_rf, zlay, zent, List.replicate_zero, List.append_nil, List.replicate_succ, List.length_append, ne_eq, Option.some.injEq, Value.int.injEq, Value.long.injEq, Int32.reduceOfNat, Int32.reduceToInt, Int.reduceLT, Int.reduceLE, Int.reduceSub, Int.reduceToNat, Int.reduceAdd, Int.reduceNeg, Int32.reduceDiv, Int64.reduceAdd, Int64.reduceSub, lg_cmp_ge, lg_cmp_le, lg_cmp_gt, lg_cmp_lt, lg_cmp_eq, wlt_t, wlt_f, wle_t, wle_f, wmod, wI_lt, wI_le, wI_eq, wI_neg, wI_pos, wI_cl, wI_ge, wI_po, w64_lt, w64_le, w64_eq, w64_lt0, w64_le0, w64_eq0, w64_32, zc317, zc319, wI_add, wI_a1, wI_s1, wI_e0, wI_m8, wI_m128, wI_m64, wI_m190, not_true_eq_false, not_false_eq_true, sP_37_1 hS, sP_649_0 hS, sN_112 hS, sN_6417 hS]
  exact q
/-- the least policy, and the least amount -/
def zlP (mi : Prop) [Decidable mi] : Int64 := if mi then 1 else 0
def zlA (mi : Prop) [Decidable mi] : Int64 := if mi then -4611686018427387904 else 1
/-- a coin at node k, the one before it (if i is not 0) just ahead -/
def zCoin (F : Nat → Nat) (T : Nat → Int64) (C : Nat → Nat) (s : Nat) (mi : Prop) [Decidable mi] (k i : Nat) : Prop :=
  (zLi F C k 3 3 ∧ F (k + 1) = 0 ∧ F (k + 2) = 0 ∧ F (k + 3) = 0) ∧ (zlP mi ≤ T (k + 1) ∧ T (k + 1) ≤ (nI s).toInt64 ∧ (T (k + 1) = 0 → T (k + 2) = 0)) ∧ (zlA mi ≤ T (k + 3) ∧ T (k + 3) ≤ 4611686018427387904 ∧ ¬ T (k + 3) = 0) ∧ (i = 0 ∨ zBf (T (k - 3)) (T (k - 2)) (T (k + 1)) (T (k + 2)))
/-- a list of coins -/
def zCns (F : Nat → Nat) (T : Nat → Int64) (C : Nat → Nat) (s : Nat) (mi : Prop) [Decidable mi] (c : Nat) : Prop := ∀ i, i < C c → zCoin F T C s mi (c + 1 + 4 * i) i
theorem zCoin_z (D : zDt F C Z L K) {s k i : Nat} {mi : Prop} [Decidable mi] (hk : k < K) (h : zCoin F T C s mi k i) : Z k = 4 ∧ k + 3 < K := by
  obtain ⟨⟨⟨h1, h2, h3⟩, h4, h5, h6⟩, -⟩ := h
  have hc : C k = 3 := by omega
  have hA : zInA F C Z k := fun m hm => by
    have : m = 0 ∨ m = 1 ∨ m = 2 := by omega
    rcases this with rfl | rfl | rfl
    · exact h4
    · exact h5
    · exact h6
  have hw := zInA_w D hk (by omega) hA
  have h7 := (D.2 k hk).2.2.2.1
  have e : zKc (F k) (C k) = 3 := by unfold zKc; rw [if_pos (by omega), hc]
  rw [e, hw 3 (by omega)] at h7
  have h8 := (D.2 k hk).1
  exact ⟨by omega, by omega⟩
theorem zCns_w (D : zDt F C Z L K) {s c : Nat} {mi : Prop} [Decidable mi] (hc : c < K) (h4 : 4 ≤ F c) : ∀ i, i ≤ C c → (∀ m, m < i → zCoin F T C s mi (c + 1 + 4 * m) m) → zWi Z c i = c + 1 + 4 * i := by
  have e : zKc (F c) (C c) = C c := by unfold zKc; rw [if_pos h4]
  intro i
  induction i with
  | zero => intro _ _; rfl
  | succ i ih =>
    intro hi h
    have h1 := ih (by omega) (fun m hm => h m (by omega))
    have h2 := ((D.2 c hc).2.2.2.2.1 i (by rw [e]; omega)).1
    rw [h1] at h2
    have h3 := (zCoin_z D h2 (h i (by omega))).1
    show zWi Z c i + Z (zWi Z c i) = _
    rw [h1, h3]
    omega
set_option maxRecDepth 20000 in
set_option maxHeartbeats 4000000 in
/-- one more coin in a row of the class -/
theorem m26 {c rp rn ra w : Nat} {p : Int32} {x a : Int64} (hC : zCo I P N c rp rn ra w) (hw : w < N ra) (hw1 : w < N rp) (hw2 : w < N rn) (hb : N ra < 2 ^ 31) (hd : c ≠ rp) (Q : Option Value → zS → Prop) : zC 26 [.ref c, .int p, .long x, .long a] (I, J, P, N, n, z) Q = @ite Prop (w = 0 ∨ zAhd (I rp (w - 1)) (J rn (w - 1)) p x) (Classical.propDecidable _) (Q (some (.int 1)) (zu (zu I rp w p) c 3 (nI (w + 1)), zu (zu J rn w x) ra w a, P, N, n, z)) (Q (some (.int 0)) (I, J, P, N, n, z)) := by
  obtain ⟨p1, p2, p3, i1, n1, n2, n3, r1, r2, r3, r4, hw65⟩ := hC
  have key : ∀ Q : Option Value → zS → Prop, (@ite Prop (w = 0 ∨ zAhd (I rp (w - 1)) (J rn (w - 1)) p x) (Classical.propDecidable _) (Q (some (.int 1)) (zu (zu I rp w p) c 3 (nI (w + 1)), zu (zu J rn w x) ra w a, P, N, n, z)) (Q (some (.int 0)) (I, J, P, N, n, z))) → zC 26 [.ref c, .int p, .long x, .long a] (I, J, P, N, n, z) Q := fun Q hQ => by
    cases w with
    | zero =>
      rw [if_pos (Or.inl rfl)] at hQ
      have e0 : nI 0 = 0 := rfl
      have hz : ¬ N ra = 0 := by omega
      have i1 : I c 3 = 0 := i1
      have el : (0 : Int32) < nI (N ra) := by rw [wI_ge hb]; omega
      simp (decide := true) (disch := omega) only [r1, r2, r3, r4, i1, p1, p2, p3, el, zuR_ne, hd, zi26, zt26, zo26_0, zo26_1, zo26_2, zy_ldI, zy_ldL, zy_ldA, zy_stI, zy_stL, zy_stA, zy_cI, zy_cL, zy_nul, zy_inc, zy_bI, zy_bL, zy_sL, zy_un, zy_cmp, zy_dup, zy_dup2, zy_pop, zy_pop2, zy_jn, zy_jnn, zy_go, zy_fal, zy_tsw, zy_lsw, zy_get, zy_put, zy_ald, zy_ast, zy_len, zy_newa, zy_new, zy_cal, zy_ret, zy_tak, zy_cst, zy_acp, zy_oini, zy_cln, zy_thr, zy_bad, zy_lco, zy_if0, zy_ic0, zy_if1, zy_ic1, zy_if2, zy_ic2, zy_if3, zy_ic3, zy_if4, zy_ic4, zy_if5, zy_ic5, zK_go, zK_to, zK_end, zK_callH, zK_iteC, zK_none, zsLd, zsSt, zsInc, zsBI, zsBL, zsSL, zsUn, zsCmp, zsDup, zsDup2, zsPop, zsPop2, zsJn, zsTsw, zsLsw, zsGet, zsPut, zsAld, zsAst, zsLen, zsNewa, zsCal, zsRet, zsCst, zsAcp, zsOini, zsCln, zsLco, zsThr, zxBI, zxBL, zxSL, zxU, zset1, zset2, zclr, zcat, zmake_mk, zcomp, zH_i, zH_l, zH_r, zH_u, zH_n, List.set_cons_zero, List.set_cons_succ, List.getElem?_cons_zero, List.getElem?_cons_succ, List.length_cons, List.length_nil, List.take_succ_cons, List.take_zero, List.drop_succ_cons, List.drop_zero, List.reverse_cons, List.reverse_nil, List.nil_append, List.cons_append, List.map_cons, List.map_nil, List.sum_cons, List.sum_nil, Option.toList_some, Option.toList_none, Value.category, Nat.reduceAdd, Nat.reduceMul, Nat.reduceMod, Nat.reduceDiv, Nat.reduceSub, Nat.reduceLT, Nat.reduceLeDiff, Nat.reduceEqDiff, Nat.zero_le, Nat.le_refl, Int32.reduceToNatClampNeg, Int32.reduceLT, Int32.reduceLE, Int32.reduceAdd, Int32.reduceSub, Int32.reduceMul, ↓reduceIte, reduceCtorEq, Nat.add_zero, Nat.zero_add, true_or, or_true, false_or, or_false, true_and, and_true, false_and, and_false, not_true_eq_false, not_false_eq_true, if_true, if_false, true_implies, false_implies, implies_true, forall_const, false_imp_iff, true_imp_iff, va_rf, zlay, zent, List.replicate_zero, List.append_nil, List.replicate_succ, List.length_append, ne_eq, Option.some.injEq, Value.int.injEq, Value.long.injEq, Int32.reduceOfNat, Int32.reduceToInt, Int.reduceLT, Int.reduceLE, Int.reduceSub, Int.reduceToNat, Int.reduceAdd, Int.reduceNeg, Int32.reduceDiv, Int64.reduceAdd, Int64.reduceSub, lg_cmp_ge, lg_cmp_le, lg_cmp_gt, lg_cmp_lt, lg_cmp_eq, wlt_t, wlt_f, wle_t, wle_f, wmod, wI_lt, wI_le, wI_eq, wI_neg, wI_pos, wI_cl, wI_ge, wI_po, w64_lt, w64_le, w64_eq, w64_lt0, w64_le0, w64_eq0, w64_32, zc317, zc319, wI_add, wI_a1, wI_s1, wI_e0, wI_m8, wI_m128, wI_m64, wI_m190, not_true_eq_false, not_false_eq_true]
      exact hQ
    | succ w =>
      have e1 : nI (w + 1) - 1 = nI w := nI_pred w
      have hz : ¬ nI (w + 1) ≤ 0 := by rw [wI_po (by omega)]; omega
      rw [show w + 1 - 1 = w from rfl] at hQ
      by_cases h : zAhd (I rp w) (J rn w) p x
      · rw [if_pos (Or.inr h)] at hQ
        have e10 : ¬ (1 : Int32) = 0 := by decide
        simp (decide := true) (disch := omega) only [r1, r2, r3, r4, i1, p1, p2, p3, hz, e1, m21, zB_t h, e10, zuR_ne, hd, zi26, zt26, zo26_0, zo26_1, zo26_2, zy_ldI, zy_ldL, zy_ldA, zy_stI, zy_stL, zy_stA, zy_cI, zy_cL, zy_nul, zy_inc, zy_bI, zy_bL, zy_sL, zy_un, zy_cmp, zy_dup, zy_dup2, zy_pop, zy_pop2, zy_jn, zy_jnn, zy_go, zy_fal, zy_tsw, zy_lsw, zy_get, zy_put, zy_ald, zy_ast, zy_len, zy_newa, zy_new, zy_cal, zy_ret, zy_tak, zy_cst, zy_acp, zy_oini, zy_cln, zy_thr, zy_bad, zy_lco, zy_if0, zy_ic0, zy_if1, zy_ic1, zy_if2, zy_ic2, zy_if3, zy_ic3, zy_if4, zy_ic4, zy_if5, zy_ic5, zK_go, zK_to, zK_end, zK_callH, zK_iteC, zK_none, zsLd, zsSt, zsInc, zsBI, zsBL, zsSL, zsUn, zsCmp, zsDup, zsDup2, zsPop, zsPop2, zsJn, zsTsw, zsLsw, zsGet, zsPut, zsAld, zsAst, zsLen, zsNewa, zsCal, zsRet, zsCst, zsAcp, zsOini, zsCln, zsLco, zsThr, zxBI, zxBL, zxSL, zxU, zset1, zset2, zclr, zcat, zmake_mk, zcomp, zH_i, zH_l, zH_r, zH_u, zH_n, List.set_cons_zero, List.set_cons_succ, List.getElem?_cons_zero, List.getElem?_cons_succ, List.length_cons, List.length_nil, List.take_succ_cons, List.take_zero, List.drop_succ_cons, List.drop_zero, List.reverse_cons, List.reverse_nil, List.nil_append, List.cons_append, List.map_cons, List.map_nil, List.sum_cons, List.sum_nil, Option.toList_some, Option.toList_none, Value.category, Nat.reduceAdd, Nat.reduceMul, Nat.reduceMod, Nat.reduceDiv, Nat.reduceSub, Nat.reduceLT, Nat.reduceLeDiff, Nat.reduceEqDiff, Nat.zero_le, Nat.le_refl, Int32.reduceToNatClampNeg, Int32.reduceLT, Int32.reduceLE, Int32.reduceAdd, Int32.reduceSub, Int32.reduceMul, ↓reduceIte, reduceCtorEq, Nat.add_zero, Nat.zero_add, true_or, or_true, false_or, or_false, true_and, and_true, false_and, and_false, not_true_eq_false, not_false_eq_true, if_true, if_false, true_implies, false_implies, implies_true, forall_const, false_imp_iff, true_imp_iff, va_rf, zlay, zent, List.replicate_zero, List.append_nil, List.replicate_succ, List.length_append, ne_eq, Option.some.injEq, Value.int.injEq, Value.long.injEq, Int32.reduceOfNat, Int32.reduceToInt, Int.reduceLT, Int.reduceLE, Int.reduceSub, Int.reduceToNat, Int.reduceAdd, Int.reduceNeg, Int32.reduceDiv, Int64.reduceAdd, Int64.reduceSub, lg_cmp_ge, lg_cmp_le, lg_cmp_gt, lg_cmp_lt, lg_cmp_eq, wlt_t, wlt_f, wle_t, wle_f, wmod, wI_lt, wI_le, wI_eq, wI_neg, wI_pos, wI_cl, wI_ge, wI_po, w64_lt, w64_le, w64_eq, w64_lt0, w64_le0, w64_eq0, w64_32, zc317, zc319, wI_add, wI_a1, wI_s1, wI_e0, wI_m8, wI_m128, wI_m64, wI_m190, not_true_eq_false, not_false_eq_true]
        exact hQ
      · rw [if_neg (fun x => x.elim (fun x => by omega) (fun x => h x))] at hQ
        simp (decide := true) (disch := omega) only [r1, r2, r3, r4, i1, p1, p2, p3, hz, e1, m21, zB_f h, zi26, zt26, zo26_0, zo26_1, zo26_2, zy_ldI, zy_ldL, zy_ldA, zy_stI, zy_stL, zy_stA, zy_cI, zy_cL, zy_nul, zy_inc, zy_bI, zy_bL, zy_sL, zy_un, zy_cmp, zy_dup, zy_dup2, zy_pop, zy_pop2, zy_jn, zy_jnn, zy_go, zy_fal, zy_tsw, zy_lsw, zy_get, zy_put, zy_ald, zy_ast, zy_len, zy_newa, zy_new, zy_cal, zy_ret, zy_tak, zy_cst, zy_acp, zy_oini, zy_cln, zy_thr, zy_bad, zy_lco, zy_if0, zy_ic0, zy_if1, zy_ic1, zy_if2, zy_ic2, zy_if3, zy_ic3, zy_if4, zy_ic4, zy_if5, zy_ic5, zK_go, zK_to, zK_end, zK_callH, zK_iteC, zK_none, zsLd, zsSt, zsInc, zsBI, zsBL, zsSL, zsUn, zsCmp, zsDup, zsDup2, zsPop, zsPop2, zsJn, zsTsw, zsLsw, zsGet, zsPut, zsAld, zsAst, zsLen, zsNewa, zsCal, zsRet, zsCst, zsAcp, zsOini, zsCln, zsLco, zsThr, zxBI, zxBL, zxSL, zxU, zset1, zset2, zclr, zcat, zmake_mk, zcomp, zH_i, zH_l, zH_r, zH_u, zH_n, List.set_cons_zero, List.set_cons_succ, List.getElem?_cons_zero, List.getElem?_cons_succ, List.length_cons, List.length_nil, List.take_succ_cons, List.take_zero, List.drop_succ_cons, List.drop_zero, List.reverse_cons, List.reverse_nil, List.nil_append, List.cons_append, List.map_cons, List.map_nil, List.sum_cons, List.sum_nil, Option.toList_some, Option.toList_none, Value.category, Nat.reduceAdd, Nat.reduceMul, Nat.reduceMod, Nat.reduceDiv, Nat.reduceSub, Nat.reduceLT, Nat.reduceLeDiff, Nat.reduceEqDiff, Nat.zero_le, Nat.le_refl, Int32.reduceToNatClampNeg, Int32.reduceLT, Int32.reduceLE, Int32.reduceAdd, Int32.reduceSub, Int32.reduceMul, ↓reduceIte, reduceCtorEq, Nat.add_zero, Nat.zero_add, true_or, or_true, false_or, or_false, true_and, and_true, false_and, and_false, not_true_eq_false, not_false_eq_true, if_true, if_false, true_implies, false_implies, implies_true, forall_const, false_imp_iff, true_imp_iff, va_rf, zlay, zent, List.replicate_zero, List.append_nil, List.replicate_succ, List.length_append, ne_eq, Option.some.injEq, Value.int.injEq, Value.long.injEq, Int32.reduceOfNat, Int32.reduceToInt, Int.reduceLT, Int.reduceLE, Int.reduceSub, Int.reduceToNat, Int.reduceAdd, Int.reduceNeg, Int32.reduceDiv, Int64.reduceAdd, Int64.reduceSub, lg_cmp_ge, lg_cmp_le, lg_cmp_gt, lg_cmp_lt, lg_cmp_eq, wlt_t, wlt_f, wle_t, wle_f, wmod, wI_lt, wI_le, wI_eq, wI_neg, wI_pos, wI_cl, wI_ge, wI_po, w64_lt, w64_le, w64_eq, w64_lt0, w64_le0, w64_eq0, w64_32, zc317, zc319, wI_add, wI_a1, wI_s1, wI_e0, wI_m8, wI_m128, wI_m64, wI_m190, not_true_eq_false, not_false_eq_true]
        exact hQ
  by_cases h : w = 0 ∨ zAhd (I rp (w - 1)) (J rn (w - 1)) p x
  · rw [if_pos h]
    refine zC_eq (fun Q hQ => key Q ?_) Q
    rw [if_pos h]
    exact hQ
  · rw [if_neg h]
    refine zC_eq (fun Q hQ => key Q ?_) Q
    rw [if_neg h]
    exact hQ
end
