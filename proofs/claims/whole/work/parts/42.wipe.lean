/-! wipeTape, closeBlock -/
theorem zu_at {α : Type} {F : Nat → Nat → α} {a j : Nat} {v : α} : zu F a j v a j = v := if_pos ⟨rfl, rfl⟩
theorem zu_nj {α : Type} {F : Nat → Nat → α} {a a' j j' : Nat} {v : α} (h : j' ≠ j) : zu F a j v a' j' = F a' j' := if_neg (fun x => h x.2)
section
variable {L i : Nat} {xs : Nat → Int32} {I : zI} {J : zJ} {P : zP} {N : Nat → Nat} {n z : Nat} {a b c : Int32}
set_option maxRecDepth 20000 in
theorem c_1 (h : zInv L xs i (I, J, P, N, n, z)) : zCall 1 a b c L xs (I, J, P, N, n, z) (zInv L xs (i + 4)) := by
  obtain ⟨⟨s1, s2, s3⟩, hS, ⟨k1, k2⟩, ⟨r1, r2, r3⟩, t, m, e, h, u, s, d, g, f, V, Su, T, La, O, W, S, C, G⟩ := h
  show zTwoV _ _
  refine zC_of (fun Q hQ => ?_)
  simp (decide := true) (disch := omega) only [zi158, zt158, zo158_0, zy_ldI, zy_ldL, zy_ldA, zy_stI, zy_stL, zy_stA, zy_cI, zy_cL, zy_nul, zy_inc, zy_bI, zy_bL, zy_sL, zy_un, zy_cmp, zy_dup, zy_dup2, zy_pop, zy_pop2, zy_jn, zy_jnn, zy_go, zy_fal, zy_tsw, zy_lsw, zy_get, zy_put, zy_ald, zy_ast, zy_len, zy_newa, zy_new, zy_cal, zy_ret, zy_tak, zy_cst, zy_acp, zy_oini, zy_cln, zy_thr, zy_bad, zy_lco, zy_if0, zy_ic0, zy_if1, zy_ic1, zy_if2, zy_ic2, zy_if3, zy_ic3, zy_if4, zy_ic4, zy_if5, zy_ic5, zK_go, zK_to, zK_end, zK_callH, zK_iteC, zK_none, zsLd, zsSt, zsInc, zsBI, zsBL, zsSL, zsUn, zsCmp, zsDup, zsDup2, zsPop, zsPop2, zsJn, zsTsw, zsLsw, zsGet, zsPut, zsAld, zsAst, zsLen, zsNewa, zsCal, zsRet, zsCst, zsAcp, zsOini, zsCln, zsLco, zsThr, zxBI, zxBL, zxSL, zxU, zset1, zset2, zclr, zcat, zmake_mk, zcomp, zH_i, zH_l, zH_r, zH_u, zH_n, List.set_cons_zero, List.set_cons_succ, List.getElem?_cons_zero, List.getElem?_cons_succ, List.length_cons, List.length_nil, List.take_succ_cons, List.take_zero, List.drop_succ_cons, List.drop_zero, List.reverse_cons, List.reverse_nil, List.nil_append, List.cons_append, List.map_cons, List.map_nil, List.sum_cons, List.sum_nil, Option.toList_some, Option.toList_none, Value.category, Nat.reduceAdd, Nat.reduceMul, Nat.reduceMod, Nat.reduceDiv, Nat.reduceSub, Nat.reduceLT, Nat.reduceLeDiff, Nat.reduceEqDiff, Nat.zero_le, Nat.le_refl, Int32.reduceToNatClampNeg, Int32.reduceLT, Int32.reduceLE, Int32.reduceAdd, Int32.reduceSub, Int32.reduceMul, ↓reduceIte, reduceCtorEq, Nat.add_zero, Nat.zero_add, true_or, or_true, false_or, or_false, true_and, and_true, false_and, and_false, not_true_eq_false, not_false_eq_true, if_true, if_false, true_implies, false_implies, implies_true, forall_const, false_imp_iff, true_imp_iff, va_rf, zlay, zent, List.replicate_zero, List.append_nil, List.replicate_succ, List.length_append, ne_eq, Option.some.injEq, Value.int.injEq, Value.long.injEq, Int32.reduceOfNat, Int32.reduceToInt, Int.reduceLT, Int.reduceLE, Int.reduceSub, Int.reduceToNat, Int.reduceAdd, Int.reduceNeg, Int32.reduceDiv, Int64.reduceAdd, Int64.reduceSub, lg_cmp_ge, lg_cmp_le, lg_cmp_gt, lg_cmp_lt, lg_cmp_eq, wlt_t, wlt_f, wle_t, wle_f, wmod, wI_lt, wI_le, wI_eq, wI_neg, wI_pos, wI_cl, wI_ge, wI_po, w64_lt, w64_le, w64_eq, w64_lt0, w64_le0, w64_eq0, w64_32, zc317, zc319, wI_add, wI_a1, wI_s1, wI_e0, wI_m8, wI_m128, wI_m64, wI_m190, not_true_eq_false, not_false_eq_true, sN_6417 hS]
  refine hQ _ _ ⟨rfl, zC_of (fun Q hQ => ?_)⟩
  simp (decide := true) (disch := omega) only [zi248, zt248, zo248_0, zy_ldI, zy_ldL, zy_ldA, zy_stI, zy_stL, zy_stA, zy_cI, zy_cL, zy_nul, zy_inc, zy_bI, zy_bL, zy_sL, zy_un, zy_cmp, zy_dup, zy_dup2, zy_pop, zy_pop2, zy_jn, zy_jnn, zy_go, zy_fal, zy_tsw, zy_lsw, zy_get, zy_put, zy_ald, zy_ast, zy_len, zy_newa, zy_new, zy_cal, zy_ret, zy_tak, zy_cst, zy_acp, zy_oini, zy_cln, zy_thr, zy_bad, zy_lco, zy_if0, zy_ic0, zy_if1, zy_ic1, zy_if2, zy_ic2, zy_if3, zy_ic3, zy_if4, zy_ic4, zy_if5, zy_ic5, zK_go, zK_to, zK_end, zK_callH, zK_iteC, zK_none, zsLd, zsSt, zsInc, zsBI, zsBL, zsSL, zsUn, zsCmp, zsDup, zsDup2, zsPop, zsPop2, zsJn, zsTsw, zsLsw, zsGet, zsPut, zsAld, zsAst, zsLen, zsNewa, zsCal, zsRet, zsCst, zsAcp, zsOini, zsCln, zsLco, zsThr, zxBI, zxBL, zxSL, zxU, zset1, zset2, zclr, zcat, zmake_mk, zcomp, zH_i, zH_l, zH_r, zH_u, zH_n, List.set_cons_zero, List.set_cons_succ, List.getElem?_cons_zero, List.getElem?_cons_succ, List.length_cons, List.length_nil, List.take_succ_cons, List.take_zero, List.drop_succ_cons, List.drop_zero, List.reverse_cons, List.reverse_nil, List.nil_append, List.cons_append, List.map_cons, List.map_nil, List.sum_cons, List.sum_nil, Option.toList_some, Option.toList_none, Value.category, Nat.reduceAdd, Nat.reduceMul, Nat.reduceMod, Nat.reduceDiv, Nat.reduceSub, Nat.reduceLT, Nat.reduceLeDiff, Nat.reduceEqDiff, Nat.zero_le, Nat.le_refl, Int32.reduceToNatClampNeg, Int32.reduceLT, Int32.reduceLE, Int32.reduceAdd, Int32.reduceSub, Int32.reduceMul, ↓reduceIte, reduceCtorEq, Nat.add_zero, Nat.zero_add, true_or, or_true, false_or, or_false, true_and, and_true, false_and, and_false, not_true_eq_false, not_false_eq_true, if_true, if_false, true_implies, false_implies, implies_true, forall_const, false_imp_iff, true_imp_iff, va_rf, zlay, zent, List.replicate_zero, List.append_nil, List.replicate_succ, List.length_append, ne_eq, Option.some.injEq, Value.int.injEq, Value.long.injEq, Int32.reduceOfNat, Int32.reduceToInt, Int.reduceLT, Int.reduceLE, Int.reduceSub, Int.reduceToNat, Int.reduceAdd, Int.reduceNeg, Int32.reduceDiv, Int64.reduceAdd, Int64.reduceSub, lg_cmp_ge, lg_cmp_le, lg_cmp_gt, lg_cmp_lt, lg_cmp_eq, wlt_t, wlt_f, wle_t, wle_f, wmod, wI_lt, wI_le, wI_eq, wI_neg, wI_pos, wI_cl, wI_ge, wI_po, w64_lt, w64_le, w64_eq, w64_lt0, w64_le0, w64_eq0, w64_32, zc317, zc319, wI_add, wI_a1, wI_s1, wI_e0, wI_m8, wI_m128, wI_m64, wI_m190, not_true_eq_false, not_false_eq_true, sN_6417 hS]
  refine hQ _ _ ⟨rfl, ?_⟩
  have M : zMr I J (zu (zu (zu I 11 9 0) 3118 63 0) 3118 2 0) J := by
    intro a ha
    unfold zKm at ha
    exact ⟨by rw [zuR_ne (by omega), zuR_ne (by omega), zuR_ne (by omega)], rfl⟩
  have H : zSb I J P N (zu (zu (zu I 11 9 0) 3118 63 0) 3118 2 0) J P N := ⟨fun a ha => ⟨by rw [zuR_ne (by omega), zuR_ne (by omega), zuR_ne (by omega)], rfl, rfl, rfl⟩, rfl, rfl⟩
  refine ⟨⟨s1, fun j => ?_, s3⟩, hS, ⟨?_, k2⟩, ⟨r1, by omega, by omega⟩, 0, m, e, h, u, s, d, g, f, ?_, zSum_cm rfl ?_ ?_ rfl ?_ ?_ rfl (M 3728 (by unfold zKm; omega)).1 (M 3760 (by unfold zKm; omega)).1 (by omega) Su, fun j hj => by omega, zLat_cm ?_ (fun j hj => ?_) La, zOuts_m (zMr_o M) (zOuts_c H (Nat.le_refl n) O), zWfO_m (zMr_o M) W, zScs_m (zMr_o M) (zScs_c H (Nat.le_refl n) S), zCon_m (zMr_o M) rfl C, zBeg_m ?_ rfl (M 3664 (by unfold zKm; omega)).1 G⟩
  · show zu (zu (zu I 11 9 0) 3118 63 0) 3118 2 0 22 j = xs j
    simp (disch := omega) only [zuR_ne]
    exact s2 j
  · simp (disch := omega) only [zuR_ne]
    exact k1
  · obtain ⟨⟨v0, v1, v2, v3, v4, v5, v6⟩, ⟨w0, w1, w2, w3, w4, w5, w6⟩, hb, x⟩ := V
    unfold zVal
    simp (disch := omega) only [zuR_ne, zu_nj, zu_at]
    exact ⟨⟨rfl, v1, v2, v3, v4, v5, v6⟩, ⟨rfl, w1, w2, w3, w4, w5, w6⟩, ⟨by omega, hb.2⟩, x⟩
  · simp (disch := omega) only [zuR_ne]
  · simp (disch := omega) only [zuR_ne]
  · simp (disch := omega) only [zuR_ne]
  · simp (disch := omega) only [zuR_ne]
  · simp (disch := omega) only [zuR_ne]
  · rw [zu_nj (by omega), zu_nj (by omega), zuR_ne (by omega)]
  · simp (disch := omega) only [zuR_ne, zu_nj]
end
