-- needs: 01 02.names 03 04 05 18 19 20 22 23 24 25 30 31 32 33 36 40 42 43 44 46 47 60 61 62 63 64 79f 79g 79h 79i 79j 79k 79l 79m 79n 79o 79p 79q 79r 79s 79t 79u 7a 7b 7c 7d 7e 7f 7g 7h 7i 7j 7k 7l 7m 7s 7t 7u 7v 7w 7x 7y 7z.
/-! a LIST with one more ahead, by the reference -/
section
variable {I I1 I2 : zI} {J J1 J2 : zJ} {P : zP} {N : Nat → Nat} {n z vc te de re rm a b c : Nat} {r u : Nat → Nat} {Q : Option Value → zS → Prop} {F C Z L F' C' Z' L' : Nat → Nat} {T T' : Nat → Int64} {Y Y' : Nat → Nat → Int32} {K K' p p' : Nat}
set_option maxRecDepth 20000 in
set_option maxHeartbeats 4000000 in
/-- its depth -/
theorem e198 (hS : zStat P N) (D : zDt F C Z L K) (D' : zDt F' C' Z' L' K') (h4 : F' 0 = 4) (hK : K + K' ≤ 200) (hb : de + (K + K') ≤ 5000) (r0 : I 5488 de = 2 ∧ I 5552 de = nI (C' 0 + 1)) (r1 : yRf I (de + 1) K F C) (r2 : ∀ j, 0 < j → j < K' → I 5488 (de + K + j) = nI (zFo (F' j)) ∧ I 5552 (de + K + j) = nI (zCq (F' j) (C' j)))
    (hQ : ∀ (I' : zI) mo, yE6 I I' → mo ≤ 13 → (12 < mo ↔ ∃ j, j < K ∧ 12 ≤ L j) → Q (some (.int (nI mo))) (I', J, P, N, n, z)) : zC 198 [.ref 4908, .int (nI de), .int (nI (K + K'))] (I, J, P, N, n, z) Q := by
  have h0 := D.1
  have h0' := D'.1
  have c1 := (D'.2 0 (by omega)).2.2.1
  -- a node ahead makes rows of the list as they are within it
  have fin : ∀ (I' : zI) (dp mo : Nat), yE6 I I' → mo ≤ 13 → (12 < mo ↔ ∃ j, j < K ∧ 12 ≤ L j) → zQ zt198 zo198_1 [some (.ref 4908), some (.int (nI de)), some (.int (nI (K + K'))), some (.int (nI dp)), some (.int (nI mo)), some (.int (nI (K + K')))] [] (I', J, P, N, n, z) Q := fun I' dp mo hE hm hm2 => by
    have q := hQ I' mo hE hm hm2
    have t : (nI (K + K') ≤ nI (K + K')) = True := eq_true (Int32.le_refl _)
    rw [zo198_1]
    simp (decide := true) (disch := omega) only [t, zi198, zt198, zo198_0, zo198_3, zo198_4, zo198_5, zo198_6, zy_ldI, zy_ldL, zy_ldA, zy_stI, zy_stL, zy_stA, zy_cI, zy_cL, zy_nul, zy_inc, zy_bI, zy_bL, zy_sL, zy_un, zy_cmp, zy_dup, zy_dup2, zy_pop, zy_pop2, zy_jn, zy_jnn, zy_go, zy_fal, zy_tsw, zy_lsw, zy_get, zy_put, zy_ald, zy_ast, zy_len, zy_newa, zy_new, zy_cal, zy_ret, zy_tak, zy_cst, zy_acp, zy_oini, zy_cln, zy_thr, zy_bad, zy_lco, zy_if0, zy_ic0, zy_if1, zy_ic1, zy_if2, zy_ic2, zy_if3, zy_ic3, zy_if4, zy_ic4, zy_if5, zy_ic5, zK_go, zK_to, zK_end, zK_callH, zK_iteC, zK_none, zsLd, zsSt, zsInc, zsBI, zsBL, zsSL, zsUn, zsCmp, zsDup, zsDup2, zsPop, zsPop2, zsJn, zsTsw, zsLsw, zsGet, zsPut, zsAld, zsAst, zsLen, zsNewa, zsCal, zsRet, zsCst, zsAcp, zsOini, zsCln, zsLco, zsThr, zxBI, zxBL, zxSL, zxU, zset1, zset2, zclr, zcat, zmake_mk, zcomp, zH_i, zH_l, zH_r, zH_u, zH_n, List.set_cons_zero, List.set_cons_succ, List.getElem?_cons_zero, List.getElem?_cons_succ, List.length_cons, List.length_nil, List.take_succ_cons, List.take_zero, List.drop_succ_cons, List.drop_zero, List.reverse_cons, List.reverse_nil, List.nil_append, List.cons_append, List.map_cons, List.map_nil, List.sum_cons, List.sum_nil, Option.toList_some, Option.toList_none, Value.category, Nat.reduceAdd, Nat.reduceMul, Nat.reduceMod, Nat.reduceDiv, Nat.reduceSub, Nat.reduceLT, Nat.reduceLeDiff, Nat.reduceEqDiff, Nat.zero_le, Nat.le_refl, Int32.reduceToNatClampNeg, Int32.reduceLT, Int32.reduceLE, Int32.reduceAdd, Int32.reduceSub, Int32.reduceMul, ↓reduceIte, reduceCtorEq, Nat.add_zero, Nat.zero_add, true_or, or_true, false_or, or_false, true_and, and_true, false_and, and_false, not_true_eq_false, not_false_eq_true, if_true, if_false, true_implies, false_implies, implies_true, forall_const, false_imp_iff, true_imp_iff, va_rf, zlay, zent, List.replicate_zero, List.append_nil, List.replicate_succ, List.length_append, ne_eq, Option.some.injEq, Value.int.injEq, Value.long.injEq, Int32.reduceOfNat, Int32.reduceToInt, Int.reduceLT, Int.reduceLE, Int.reduceSub, Int.reduceToNat, Int.reduceAdd, Int.reduceNeg, Int32.reduceDiv, Int64.reduceAdd, Int64.reduceSub, lg_cmp_ge, lg_cmp_le, lg_cmp_gt, lg_cmp_lt, lg_cmp_eq, wlt_t, wlt_f, wle_t, wle_f, wmod, wI_lt, wI_le, wI_eq, wI_neg, wI_pos, wI_cl, wI_ge, wI_po, w64_lt, w64_le, w64_eq, w64_lt0, w64_le0, w64_eq0, w64_32, zc317, zc319, wI_add, wI_a1, wI_s1, wI_e0, wI_m8, wI_m128, wI_m64, wI_m190, not_true_eq_false, not_false_eq_true, sP_4908_57 hS, sN_6096 hS, sN_6417 hS]
    exact q
  have e' : zKc (F' 0) (C' 0) = C' 0 := by unfold zKc; rw [if_pos (by omega)]
  obtain ⟨-, -, -, w1, w2, -⟩ := D'.2 0 (by omega)
  rw [e'] at w1 w2
  have z0 : Z' 0 = K' := h0'.2.2.1
  -- what follows the first
  have rest : ∀ q i, i + q = C' 0 → ∀ (I1 : zI) (dp mo : Nat), yE6 I I1 → dp ≤ 13 → mo ≤ 13 → 1 ≤ dp → I1 6096 1 = nI q → (∀ t, 1 < t → t ≤ dp → I1 6096 t = 0) → (12 < mo ↔ ∃ j, j < K ∧ 12 ≤ L j) → zQ zt198 zo198_1 [some (.ref 4908), some (.int (nI de)), some (.int (nI (K + K'))), some (.int (nI dp)), some (.int (nI mo)), some (.int (nI (K + zWi Z' 0 i)))] [] (I1, J, P, N, n, z) Q := by
    intro q
    induction q with
    | zero =>
      intro i hi I1 dp mo a1 a2 a3 a4 a5 a6 a7
      rw [show i = C' 0 by omega, w1, z0, Nat.zero_add]
      exact fin I1 dp mo a1 a3 a7
    | succ q ih =>
      intro i hi I1 dp mo a1 a2 a3 a4 a5 a6 a7
      obtain ⟨v1, v2⟩ := w2 i (by omega)
      have g1 := zWi_ge (Z := Z') (j := 0) i
      have lw : L' (zWi Z' 0 i) - 1 + 0 = 1 := by omega
      have g3 : zWi Z' 0 (i + 1) = zWi Z' 0 i + Z' (zWi Z' 0 i) := rfl
      refine l198 (b := de + K) (d0 := de) (nn := K + K') (o := 0) (lo := 1) hS D' (fun j j1 j2 => r2 j j1 j2) (by omega) (by omega) (by omega) (by omega) (Z' (zWi Z' 0 i)) (zWi Z' 0 i) (Nat.le_refl _) (by omega) v1 I1 dp mo (K + zWi Z' 0 i) (by omega) a1 a2 a3 (by omega) (fun t t1 t2 => a6 t (by omega) t2) (fun _ => ⟨q, by rw [lw, a5], by omega⟩) (fun I' dp' mo' b1 b2 b3 b4 b5 b6 b7 b8 => ?_)
      rw [lw] at b4 b5 b6 b7
      rw [show K + zWi Z' 0 i + Z' (zWi Z' 0 i) = K + zWi Z' 0 (i + 1) by omega]
      refine ih (i + 1) (by omega) I' dp' mo' b1 b2 b3 (by omega) (by rw [b6, a5]; exact wI_sub (b := 1) (by omega)) b7 ?_
      rw [b8, a7]
      constructor
      · rintro (h | ⟨j, j1, j2, j3⟩)
        · exact h
        · exfalso
          have lj := (D'.2 j (by have := zDt_le D' (k := 0) (by omega) (i + 1) (by omega); omega)).2.2.2.2.2
          omega
      · exact fun h => Or.inl h
  -- the first
  have first : ∀ (I1 : zI), yE6 I I1 → I1 6096 1 = nI (C' 0 + 1) → zQ zt198 zo198_1 [some (.ref 4908), some (.int (nI de)), some (.int (nI (K + K'))), some (.int (nI 1)), some (.int (nI 1)), some (.int (nI 1))] [] (I1, J, P, N, n, z) Q := fun I1 hE h1 => by
    have lw : L 0 - 1 + 1 = 1 := by omega
    refine l198 (b := de + 1) (d0 := de) (nn := K + K') (o := 1) (lo := 0) hS D (fun j _ j2 => r1 j j2) (by omega) (by omega) (by omega) (by omega) (Z 0) 0 (Nat.le_refl _) (Nat.zero_le _) (by omega) I1 1 1 1 (by omega) hE (by omega) (by omega) (by omega) (fun t t1 t2 => by omega) (fun _ => ⟨C' 0, by rw [lw, h1], by omega⟩) (fun I' dp' mo' b1 b2 b3 b4 b5 b6 b7 b8 => ?_)
    rw [lw] at b4 b5 b6 b7
    have g := rest (C' 0) 0 (by omega) I' dp' mo' b1 b2 b3 (by omega) (by rw [b6, h1]; exact wI_sub (b := 1) (by omega)) b7 (by
      rw [b8]
      constructor
      · rintro (h | ⟨j, j1, j2, j3⟩)
        · omega
        · exact ⟨j, by omega, by omega⟩
      · rintro ⟨j, j1, j3⟩
        exact Or.inr ⟨j, by omega, by omega, by omega⟩)
    have e0 : K + zWi Z' 0 0 = 1 + Z 0 := by show K + (0 + 1) = _; omega
    rw [e0] at g
    exact g
  have fr1 : ∀ c, c ≠ 6096 → zu I 6096 0 (I 6096 0 - 1) c = I c := fun c h => zuR_ne h
  have q196 := fun Q => m196 (J := J) (n := n) (z := z) (I := zu I 6096 0 (I 6096 0 - 1)) (f := 4) (c := C' 0 + 1) hS (b := de) (by omega) (by rw [fr1 _ (by decide)]; exact r0.1) (by rw [fr1 _ (by decide)]; exact r0.2) (by omega) (by omega) (by
    have lt := zWi_lt (Z := Z') (j := 0) (C' 0) (fun i hi => (D'.2 _ (w2 i hi).1).1.1)
    omega) Q
  have e4 : zKc 4 (C' 0 + 1) = C' 0 + 1 := by unfold zKc; rw [if_pos (by omega)]
  rw [e4] at q196
  have g := first (zu (zu I 6096 0 (I 6096 0 - 1)) 6096 1 (nI (C' 0 + 1))) (fun c hc => by rw [zuR_ne hc, zuR_ne hc]) zu_at
  have tc : ¬ nI (K + K') ≤ 0 := by rw [show (0 : Int32) = nI 0 from rfl, wI_le (by omega) (by omega)]; omega
  have t0 : ((0 : Int32) ≤ 0) = True := eq_true (by decide)
  have ea : nI de + 0 = nI de := by simp
  simp (decide := true) (disch := omega) only [zi198, zt198, zo198_0, zo198_2, zo198_3, zo198_4, zo198_5, zo198_6, zy_ldI, zy_ldL, zy_ldA, zy_stI, zy_stL, zy_stA, zy_cI, zy_cL, zy_nul, zy_inc, zy_bI, zy_bL, zy_sL, zy_un, zy_cmp, zy_dup, zy_dup2, zy_pop, zy_pop2, zy_jn, zy_jnn, zy_go, zy_fal, zy_tsw, zy_lsw, zy_get, zy_put, zy_ald, zy_ast, zy_len, zy_newa, zy_new, zy_cal, zy_ret, zy_tak, zy_cst, zy_acp, zy_oini, zy_cln, zy_thr, zy_bad, zy_lco, zy_if0, zy_ic0, zy_if1, zy_ic1, zy_if2, zy_ic2, zy_if3, zy_ic3, zy_if4, zy_ic4, zy_if5, zy_ic5, zK_go, zK_to, zK_end, zK_callH, zK_iteC, zK_none, zsLd, zsSt, zsInc, zsBI, zsBL, zsSL, zsUn, zsCmp, zsDup, zsDup2, zsPop, zsPop2, zsJn, zsTsw, zsLsw, zsGet, zsPut, zsAld, zsAst, zsLen, zsNewa, zsCal, zsRet, zsCst, zsAcp, zsOini, zsCln, zsLco, zsThr, zxBI, zxBL, zxSL, zxU, zset1, zset2, zclr, zcat, zmake_mk, zcomp, zH_i, zH_l, zH_r, zH_u, zH_n, List.set_cons_zero, List.set_cons_succ, List.getElem?_cons_zero, List.getElem?_cons_succ, List.length_cons, List.length_nil, List.take_succ_cons, List.take_zero, List.drop_succ_cons, List.drop_zero, List.reverse_cons, List.reverse_nil, List.nil_append, List.cons_append, List.map_cons, List.map_nil, List.sum_cons, List.sum_nil, Option.toList_some, Option.toList_none, Value.category, Nat.reduceAdd, Nat.reduceMul, Nat.reduceMod, Nat.reduceDiv, Nat.reduceSub, Nat.reduceLT, Nat.reduceLeDiff, Nat.reduceEqDiff, Nat.zero_le, Nat.le_refl, Int32.reduceToNatClampNeg, Int32.reduceLT, Int32.reduceLE, Int32.reduceAdd, Int32.reduceSub, Int32.reduceMul, ↓reduceIte, reduceCtorEq, Nat.add_zero, Nat.zero_add, true_or, or_true, false_or, or_false, true_and, and_true, false_and, and_false, not_true_eq_false, not_false_eq_true, if_true, if_false, true_implies, false_implies, implies_true, forall_const, false_imp_iff, true_imp_iff, va_rf, zlay, zent, List.replicate_zero, List.append_nil, List.replicate_succ, List.length_append, ne_eq, Option.some.injEq, Value.int.injEq, Value.long.injEq, Int32.reduceOfNat, Int32.reduceToInt, Int.reduceLT, Int.reduceLE, Int.reduceSub, Int.reduceToNat, Int.reduceAdd, Int.reduceNeg, Int32.reduceDiv, Int64.reduceAdd, Int64.reduceSub, lg_cmp_ge, lg_cmp_le, lg_cmp_gt, lg_cmp_lt, lg_cmp_eq, wlt_t, wlt_f, wle_t, wle_f, wmod, wI_lt, wI_le, wI_eq, wI_neg, wI_pos, wI_cl, wI_ge, wI_po, w64_lt, w64_le, w64_eq, w64_lt0, w64_le0, w64_eq0, w64_32, zc317, zc319, wI_add, wI_a1, wI_s1, wI_e0, wI_m8, wI_m128, wI_m64, wI_m190, not_true_eq_false, not_false_eq_true, sP_4908_57 hS, sN_6096 hS, sN_6417 hS]
  rw [zo198_1]
  simp (decide := true) (disch := omega) only [tc, t0, ea, q196, zi198, zt198, zo198_0, zo198_2, zo198_3, zo198_4, zo198_5, zo198_6, zy_ldI, zy_ldL, zy_ldA, zy_stI, zy_stL, zy_stA, zy_cI, zy_cL, zy_nul, zy_inc, zy_bI, zy_bL, zy_sL, zy_un, zy_cmp, zy_dup, zy_dup2, zy_pop, zy_pop2, zy_jn, zy_jnn, zy_go, zy_fal, zy_tsw, zy_lsw, zy_get, zy_put, zy_ald, zy_ast, zy_len, zy_newa, zy_new, zy_cal, zy_ret, zy_tak, zy_cst, zy_acp, zy_oini, zy_cln, zy_thr, zy_bad, zy_lco, zy_if0, zy_ic0, zy_if1, zy_ic1, zy_if2, zy_ic2, zy_if3, zy_ic3, zy_if4, zy_ic4, zy_if5, zy_ic5, zK_go, zK_to, zK_end, zK_callH, zK_iteC, zK_none, zsLd, zsSt, zsInc, zsBI, zsBL, zsSL, zsUn, zsCmp, zsDup, zsDup2, zsPop, zsPop2, zsJn, zsTsw, zsLsw, zsGet, zsPut, zsAld, zsAst, zsLen, zsNewa, zsCal, zsRet, zsCst, zsAcp, zsOini, zsCln, zsLco, zsThr, zxBI, zxBL, zxSL, zxU, zset1, zset2, zclr, zcat, zmake_mk, zcomp, zH_i, zH_l, zH_r, zH_u, zH_n, List.set_cons_zero, List.set_cons_succ, List.getElem?_cons_zero, List.getElem?_cons_succ, List.length_cons, List.length_nil, List.take_succ_cons, List.take_zero, List.drop_succ_cons, List.drop_zero, List.reverse_cons, List.reverse_nil, List.nil_append, List.cons_append, List.map_cons, List.map_nil, List.sum_cons, List.sum_nil, Option.toList_some, Option.toList_none, Value.category, Nat.reduceAdd, Nat.reduceMul, Nat.reduceMod, Nat.reduceDiv, Nat.reduceSub, Nat.reduceLT, Nat.reduceLeDiff, Nat.reduceEqDiff, Nat.zero_le, Nat.le_refl, Int32.reduceToNatClampNeg, Int32.reduceLT, Int32.reduceLE, Int32.reduceAdd, Int32.reduceSub, Int32.reduceMul, ↓reduceIte, reduceCtorEq, Nat.add_zero, Nat.zero_add, true_or, or_true, false_or, or_false, true_and, and_true, false_and, and_false, not_true_eq_false, not_false_eq_true, if_true, if_false, true_implies, false_implies, implies_true, forall_const, false_imp_iff, true_imp_iff, va_rf, zlay, zent, List.replicate_zero, List.append_nil, List.replicate_succ, List.length_append, ne_eq, Option.some.injEq, Value.int.injEq, Value.long.injEq, Int32.reduceOfNat, Int32.reduceToInt, Int.reduceLT, Int.reduceLE, Int.reduceSub, Int.reduceToNat, Int.reduceAdd, Int.reduceNeg, Int32.reduceDiv, Int64.reduceAdd, Int64.reduceSub, lg_cmp_ge, lg_cmp_le, lg_cmp_gt, lg_cmp_lt, lg_cmp_eq, wlt_t, wlt_f, wle_t, wle_f, wmod, wI_lt, wI_le, wI_eq, wI_neg, wI_pos, wI_cl, wI_ge, wI_po, w64_lt, w64_le, w64_eq, w64_lt0, w64_le0, w64_eq0, w64_32, zc317, zc319, wI_add, wI_a1, wI_s1, wI_e0, wI_m8, wI_m128, wI_m64, wI_m190, not_true_eq_false, not_false_eq_true, sP_4908_57 hS, sN_6096 hS, sN_6417 hS]
  exact g
end
