-- needs: 01 02.names 03 04 05 18 19 20 22 23 24 25 30 31 32 33 36 40 42 43 44 46 47 60 61 62 63 64 79f 79g 79h 79i 79j 79k 79l 79m 79n 79o 79p 79q 79r 79s 79t 79u 79v 79w 79x 79y 79z. 79za 79zb 79zc 79zd
/-! inputs and collateral that are there: the reference -/
/-- the number of a live output, as the reference keeps it -/
noncomputable def zIx (sp : Nat → Int32) (m : Nat) (v : Int64) : Int32 := @ite Int32 (zLv sp m v) (Classical.propDecidable _) v.toInt32 (-1)
theorem zIx_t {sp : Nat → Int32} {m a : Nat} (ha : a < m) (h : sp a = -1) : zIx sp m (nI a).toInt64 = nI a := by
  unfold zIx
  rw [if_pos ⟨a, ha, rfl, h⟩, w64_32]
theorem zIx_f {sp : Nat → Int32} {m : Nat} {v : Int64} (h : ¬ zLv sp m v) : zIx sp m v = -1 := if_neg h
theorem zIx_n {sp : Nat → Int32} {m : Nat} {v : Int64} (hm : m ≤ 1024) : (zIx sp m v < 0) = ¬ zLv sp m v := by
  apply propext
  by_cases h : zLv sp m v
  · obtain ⟨a, ha, rfl, hl⟩ := id h
    rw [zIx_t ha hl, wI_neg (by omega)]
    exact ⟨fun x => x.elim, fun x => absurd h x⟩
  · rw [zIx_f h]
    exact ⟨fun _ => h, fun _ => by decide⟩
theorem zIx_i {sp : Nat → Int32} {m : Nat} {v w : Int64} (hm : m ≤ 1024) (hv : zLv sp m v) (hw : zLv sp m w) : (zIx sp m v = zIx sp m w) = (v = w) := by
  obtain ⟨a, ha, rfl, hl⟩ := hv
  obtain ⟨b, hb, rfl, hl'⟩ := hw
  rw [zIx_t ha hl, zIx_t hb hl', w64_eq]
section
variable {P : zP} {N : Nat → Nat} {n z m K : Nat} {F C Z X H L : Nat → Nat} {T : Nat → Int64} {Q : Option Value → zS → Prop}
/-- the inputs as the reference looks at them -/
def zIr (ix : Nat → Int32) (i : Nat) : Prop := ∀ k, k < i → ¬ ix k < 0 ∧ ∀ j, j < k → ¬ ix j = ix k
def zCr (ix cx : Nat → Int32) (ni i : Nat) : Prop := ∀ k, k < i → ¬ cx k < 0 ∧ (∀ j, j < k → ¬ cx j = cx k) ∧ ∀ j, j < ni → ¬ ix j = cx k
theorem zIr_l {sp : Nat → Int32} {iv : Nat → Int64} (hm : m ≤ 1024) {ni : Nat} : zIr (fun k => zIx sp m (iv k)) ni = zIl sp m iv ni := by
  apply propext
  constructor
  · intro h i hi
    obtain ⟨h1, h2⟩ := h i hi
    dsimp only at h1 h2
    rw [zIx_n hm] at h1
    exact ⟨Classical.not_not.1 h1, fun k hk e => h2 k hk (by rw [e])⟩
  · intro h i hi
    obtain ⟨h1, h2⟩ := h i hi
    dsimp only
    rw [zIx_n hm]
    exact ⟨fun x => x h1, fun k hk e => h2 k hk (by rw [zIx_i hm (h k (by omega)).1 h1] at e; exact e)⟩
theorem zCr_l {sp : Nat → Int32} {iv cv : Nat → Int64} (hm : m ≤ 1024) {ni nc : Nat} (hi : zIl sp m iv ni) : zCr (fun k => zIx sp m (iv k)) (fun k => zIx sp m (cv k)) ni nc = zCl sp m iv cv ni nc := by
  apply propext
  constructor
  · intro h i hic
    obtain ⟨h1, h2, h3⟩ := h i hic
    dsimp only at h1 h2 h3
    rw [zIx_n hm] at h1
    exact ⟨Classical.not_not.1 h1, fun k hk e => h3 k hk (by rw [e]), fun k hk e => h2 k hk (by rw [e])⟩
  · intro h i hic
    obtain ⟨h1, h2, h3⟩ := h i hic
    dsimp only
    rw [zIx_n hm]
    exact ⟨fun x => x h1, fun k hk e => h3 k hk (by rw [zIx_i hm (h k (by omega)).1 h1] at e; exact e), fun k hk e => h2 k hk (by rw [zIx_i hm (hi k hk).1 h1] at e; exact e)⟩
set_option maxRecDepth 20000 in
theorem m249 {I : zI} {J : zJ} {a : Nat} (hS : zStat P N) (w1 : I 3118 11 = nI m) (hm : m ≤ 1024) (ha : a < m) (hsp : I 3664 a = -1 ∨ ∃ x, x < 2 ^ 31 ∧ I 3664 a = nI x) (Q : Option Value → zS → Prop) : zC 249 [.ref 3118, .int (nI a)] (I, J, P, N, n, z) Q = Q (some (.int (zyn (I 3664 a = -1)))) (I, J, P, N, n, z) := by
  refine zC_eq (fun Q hQ => ?_) Q
  rcases hsp with h | ⟨x, hx, h⟩
  · rw [zyn_t h] at hQ
    have e : ¬ (0 : Int32) ≤ -1 := by decide
    simp (decide := true) (disch := omega) only [w1, h, e, zi249, zt249, zo249_0, zo249_1, zo249_2, zy_ldI, zy_ldL, zy_ldA, zy_stI, zy_stL, zy_stA, zy_cI, zy_cL, zy_nul, zy_inc, zy_bI, zy_bL, zy_sL, zy_un, zy_cmp, zy_dup, zy_dup2, zy_pop, zy_pop2, zy_jn, zy_jnn, zy_go, zy_fal, zy_tsw, zy_lsw, zy_get, zy_put, zy_ald, zy_ast, zy_len, zy_newa, zy_new, zy_cal, zy_ret, zy_tak, zy_cst, zy_acp, zy_oini, zy_cln, zy_thr, zy_bad, zy_lco, zy_if0, zy_ic0, zy_if1, zy_ic1, zy_if2, zy_ic2, zy_if3, zy_ic3, zy_if4, zy_ic4, zy_if5, zy_ic5, zK_go, zK_to, zK_end, zK_callH, zK_iteC, zK_none, zsLd, zsSt, zsInc, zsBI, zsBL, zsSL, zsUn, zsCmp, zsDup, zsDup2, zsPop, zsPop2, zsJn, zsTsw, zsLsw, zsGet, zsPut, zsAld, zsAst, zsLen, zsNewa, zsCal, zsRet, zsCst, zsAcp, zsOini, zsCln, zsLco, zsThr, zxBI, zxBL, zxSL, zxU, zset1, zset2, zclr, zcat, zmake_mk, zcomp, zH_i, zH_l, zH_r, zH_u, zH_n, List.set_cons_zero, List.set_cons_succ, List.getElem?_cons_zero, List.getElem?_cons_succ, List.length_cons, List.length_nil, List.take_succ_cons, List.take_zero, List.drop_succ_cons, List.drop_zero, List.reverse_cons, List.reverse_nil, List.nil_append, List.cons_append, List.map_cons, List.map_nil, List.sum_cons, List.sum_nil, Option.toList_some, Option.toList_none, Value.category, Nat.reduceAdd, Nat.reduceMul, Nat.reduceMod, Nat.reduceDiv, Nat.reduceSub, Nat.reduceLT, Nat.reduceLeDiff, Nat.reduceEqDiff, Nat.zero_le, Nat.le_refl, Int32.reduceToNatClampNeg, Int32.reduceLT, Int32.reduceLE, Int32.reduceAdd, Int32.reduceSub, Int32.reduceMul, ↓reduceIte, reduceCtorEq, Nat.add_zero, Nat.zero_add, true_or, or_true, false_or, or_false, true_and, and_true, false_and, and_false, not_true_eq_false, not_false_eq_true, if_true, if_false, true_implies, false_implies, implies_true, forall_const, false_imp_iff, true_imp_iff, va_rf, zlay, zent, List.replicate_zero, List.append_nil, List.replicate_succ, List.length_append, ne_eq, Option.some.injEq, Value.int.injEq, Value.long.injEq, Int32.reduceOfNat, Int32.reduceToInt, Int.reduceLT, Int.reduceLE, Int.reduceSub, Int.reduceToNat, Int.reduceAdd, Int.reduceNeg, Int32.reduceDiv, Int64.reduceAdd, Int64.reduceSub, lg_cmp_ge, lg_cmp_le, lg_cmp_gt, lg_cmp_lt, lg_cmp_eq, wlt_t, wlt_f, wle_t, wle_f, wmod, wI_lt, wI_le, wI_eq, wI_neg, wI_pos, wI_cl, wI_ge, wI_po, w64_lt, w64_le, w64_eq, w64_lt0, w64_le0, w64_eq0, w64_32, zc317, zc319, wI_add, wI_a1, wI_s1, wI_e0, wI_m8, wI_m128, wI_m64, wI_m190, not_true_eq_false, not_false_eq_true, sP_3118_22 hS, sN_3664 hS, sN_6417 hS]
    exact hQ
  · rw [zyn_f (by rw [h]; exact fun e => (by have h1 : (nI x < 0) = False := wI_neg hx; rw [e] at h1; exact absurd (show (-1 : Int32) < 0 by decide) (by rw [h1]; exact id)))] at hQ
    simp (decide := true) (disch := omega) only [w1, h, zi249, zt249, zo249_0, zo249_1, zo249_2, zy_ldI, zy_ldL, zy_ldA, zy_stI, zy_stL, zy_stA, zy_cI, zy_cL, zy_nul, zy_inc, zy_bI, zy_bL, zy_sL, zy_un, zy_cmp, zy_dup, zy_dup2, zy_pop, zy_pop2, zy_jn, zy_jnn, zy_go, zy_fal, zy_tsw, zy_lsw, zy_get, zy_put, zy_ald, zy_ast, zy_len, zy_newa, zy_new, zy_cal, zy_ret, zy_tak, zy_cst, zy_acp, zy_oini, zy_cln, zy_thr, zy_bad, zy_lco, zy_if0, zy_ic0, zy_if1, zy_ic1, zy_if2, zy_ic2, zy_if3, zy_ic3, zy_if4, zy_ic4, zy_if5, zy_ic5, zK_go, zK_to, zK_end, zK_callH, zK_iteC, zK_none, zsLd, zsSt, zsInc, zsBI, zsBL, zsSL, zsUn, zsCmp, zsDup, zsDup2, zsPop, zsPop2, zsJn, zsTsw, zsLsw, zsGet, zsPut, zsAld, zsAst, zsLen, zsNewa, zsCal, zsRet, zsCst, zsAcp, zsOini, zsCln, zsLco, zsThr, zxBI, zxBL, zxSL, zxU, zset1, zset2, zclr, zcat, zmake_mk, zcomp, zH_i, zH_l, zH_r, zH_u, zH_n, List.set_cons_zero, List.set_cons_succ, List.getElem?_cons_zero, List.getElem?_cons_succ, List.length_cons, List.length_nil, List.take_succ_cons, List.take_zero, List.drop_succ_cons, List.drop_zero, List.reverse_cons, List.reverse_nil, List.nil_append, List.cons_append, List.map_cons, List.map_nil, List.sum_cons, List.sum_nil, Option.toList_some, Option.toList_none, Value.category, Nat.reduceAdd, Nat.reduceMul, Nat.reduceMod, Nat.reduceDiv, Nat.reduceSub, Nat.reduceLT, Nat.reduceLeDiff, Nat.reduceEqDiff, Nat.zero_le, Nat.le_refl, Int32.reduceToNatClampNeg, Int32.reduceLT, Int32.reduceLE, Int32.reduceAdd, Int32.reduceSub, Int32.reduceMul, ↓reduceIte, reduceCtorEq, Nat.add_zero, Nat.zero_add, true_or, or_true, false_or, or_false, true_and, and_true, false_and, and_false, not_true_eq_false, not_false_eq_true, if_true, if_false, true_implies, false_implies, implies_true, forall_const, false_imp_iff, true_imp_iff, va_rf, zlay, zent, List.replicate_zero, List.append_nil, List.replicate_succ, List.length_append, ne_eq, Option.some.injEq, Value.int.injEq, Value.long.injEq, Int32.reduceOfNat, Int32.reduceToInt, Int.reduceLT, Int.reduceLE, Int.reduceSub, Int.reduceToNat, Int.reduceAdd, Int.reduceNeg, Int32.reduceDiv, Int64.reduceAdd, Int64.reduceSub, lg_cmp_ge, lg_cmp_le, lg_cmp_gt, lg_cmp_lt, lg_cmp_eq, wlt_t, wlt_f, wle_t, wle_f, wmod, wI_lt, wI_le, wI_eq, wI_neg, wI_pos, wI_cl, wI_ge, wI_po, w64_lt, w64_le, w64_eq, w64_lt0, w64_le0, w64_eq0, w64_32, zc317, zc319, wI_add, wI_a1, wI_s1, wI_e0, wI_m8, wI_m128, wI_m64, wI_m190, not_true_eq_false, not_false_eq_true, sP_3118_22 hS, sN_3664 hS, sN_6417 hS]
    exact hQ
end
