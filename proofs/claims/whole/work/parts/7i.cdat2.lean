-- needs: 01 02.names 03 04 05 18 19 20 22 23 24 25 30 31 32 33 36 40 42 43 44 46 47 60 61 62 63 64 79f 79g 79h 79i 79j 79k 79l 79m 79n 79o 79p 79q 79r 79s 79t 79u 7a 7b 7c 7d 7e 7f 7g 7h
/-! BUILTINS that make DATA, by the class -/
section
variable {I I1 I2 : zI} {J J1 J2 : zJ} {P : zP} {N : Nat → Nat} {n z nt bt tp bn a b c : Nat} {Q : Option Value → zS → Prop} {F C Z L F' C' Z' L' : Nat → Nat} {T T' : Nat → Int64} {Y Y' : Nat → Nat → Int32} {K K' : Nat}
set_option maxRecDepth 20000 in
theorem n89 {k ct pl : Int32} {nm : Int64} (hS : zStat P N) (e : k.toInt8.toInt32 = k) (ht : nt < 3801) (h7 : I 37 7 = nI nt) (Q : Option Value → zS → Prop) : zC 89 [.ref 37, .int k, .int ct, .long nm, .int pl] (I, J, P, N, n, z) Q = Q (some (.int (nI nt))) (zAd I nt k ct pl, zu J 209 nt nm, P, N, n, z) := by
  refine zC_eq (fun Q hQ => ?_) Q
  have c : (3801 ≤ nI nt) = (3801 ≤ nt) := wI_gec (c := 3801)
  simp (decide := true) (disch := omega) only [h7, c, e, zuR_ne, zi89, zt89, zo89_0, zo89_1, zo89_2, zy_ldI, zy_ldL, zy_ldA, zy_stI, zy_stL, zy_stA, zy_cI, zy_cL, zy_nul, zy_inc, zy_bI, zy_bL, zy_sL, zy_un, zy_cmp, zy_dup, zy_dup2, zy_pop, zy_pop2, zy_jn, zy_jnn, zy_go, zy_fal, zy_tsw, zy_lsw, zy_get, zy_put, zy_ald, zy_ast, zy_len, zy_newa, zy_new, zy_cal, zy_ret, zy_tak, zy_cst, zy_acp, zy_oini, zy_cln, zy_thr, zy_bad, zy_lco, zy_if0, zy_ic0, zy_if1, zy_ic1, zy_if2, zy_ic2, zy_if3, zy_ic3, zy_if4, zy_ic4, zy_if5, zy_ic5, zK_go, zK_to, zK_end, zK_callH, zK_iteC, zK_none, zsLd, zsSt, zsInc, zsBI, zsBL, zsSL, zsUn, zsCmp, zsDup, zsDup2, zsPop, zsPop2, zsJn, zsTsw, zsLsw, zsGet, zsPut, zsAld, zsAst, zsLen, zsNewa, zsCal, zsRet, zsCst, zsAcp, zsOini, zsCln, zsLco, zsThr, zxBI, zxBL, zxSL, zxU, zset1, zset2, zclr, zcat, zmake_mk, zcomp, zH_i, zH_l, zH_r, zH_u, zH_n, List.set_cons_zero, List.set_cons_succ, List.getElem?_cons_zero, List.getElem?_cons_succ, List.length_cons, List.length_nil, List.take_succ_cons, List.take_zero, List.drop_succ_cons, List.drop_zero, List.reverse_cons, List.reverse_nil, List.nil_append, List.cons_append, List.map_cons, List.map_nil, List.sum_cons, List.sum_nil, Option.toList_some, Option.toList_none, Value.category, Nat.reduceAdd, Nat.reduceMul, Nat.reduceMod, Nat.reduceDiv, Nat.reduceSub, Nat.reduceLT, Nat.reduceLeDiff, Nat.reduceEqDiff, Nat.zero_le, Nat.le_refl, Int32.reduceToNatClampNeg, Int32.reduceLT, Int32.reduceLE, Int32.reduceAdd, Int32.reduceSub, Int32.reduceMul, ↓reduceIte, reduceCtorEq, Nat.add_zero, Nat.zero_add, true_or, or_true, false_or, or_false, true_and, and_true, false_and, and_false, not_true_eq_false, not_false_eq_true, if_true, if_false, true_implies, false_implies, implies_true, forall_const, false_imp_iff, true_imp_iff, va_rf, zlay, zent, List.replicate_zero, List.append_nil, List.replicate_succ, List.length_append, ne_eq, Option.some.injEq, Value.int.injEq, Value.long.injEq, Int32.reduceOfNat, Int32.reduceToInt, Int.reduceLT, Int.reduceLE, Int.reduceSub, Int.reduceToNat, Int.reduceAdd, Int.reduceNeg, Int32.reduceDiv, Int64.reduceAdd, Int64.reduceSub, lg_cmp_ge, lg_cmp_le, lg_cmp_gt, lg_cmp_lt, lg_cmp_eq, wlt_t, wlt_f, wle_t, wle_f, wmod, wI_lt, wI_le, wI_eq, wI_neg, wI_pos, wI_cl, wI_ge, wI_po, w64_lt, w64_le, w64_eq, w64_lt0, w64_le0, w64_eq0, w64_32, zc317, zc319, wI_add, wI_a1, wI_s1, wI_e0, wI_m8, wI_m128, wI_m64, wI_m190, not_true_eq_false, not_false_eq_true, sP_37_0 hS, sP_37_1 hS, sP_37_2 hS, sP_37_3 hS, sP_37_4 hS, sN_79 hS, sN_112 hS, sN_144 hS, sN_176 hS, sN_209 hS, sN_6417 hS]
  exact hQ
theorem zAd_c {k ct pl : Int32} {c : Nat} (h1 : c ≠ 37) (h2 : c ≠ 79) (h3 : c ≠ 112) (h4 : c ≠ 144) (h5 : c ≠ 176) : zAd I nt k ct pl c = I c := by
  unfold zAd
  rw [zuR_ne h1, zuR_ne h5, zuR_ne h4, zuR_ne h3, zuR_ne h2]
theorem zAd_37 {k ct pl : Int32} {j : Nat} (h : j ≠ 7) : zAd I nt k ct pl 37 j = I 37 j := by
  unfold zAd
  rw [zu_nj h]
  simp (disch := omega) only [zuR_ne]
theorem zAd_7 {k ct pl : Int32} : zAd I nt k ct pl 37 7 = nI (nt + 1) := by
  unfold zAd
  rw [zu_at]
theorem zAd_o {k ct pl : Int32} {j : Nat} (h : j ≠ nt) : zAd I nt k ct pl 79 j = I 79 j ∧ zAd I nt k ct pl 112 j = I 112 j ∧ zAd I nt k ct pl 144 j = I 144 j ∧ zAd I nt k ct pl 176 j = I 176 j := by
  unfold zAd
  simp (disch := omega) only [zuR_ne, zu_nj, and_self]
theorem zAd_n {k ct pl : Int32} : zAd I nt k ct pl 79 nt = k ∧ zAd I nt k ct pl 112 nt = ct ∧ zAd I nt k ct pl 144 nt = 1 ∧ zAd I nt k ct pl 176 nt = pl := by
  unfold zAd
  simp (disch := omega) only [zuR_ne, zu_at, and_self]
/-- what is new need not be told of the nodes that were -/
theorem yCh_rw {f m : Nat} (h8 : I 37 8 = nI bt) (R : yRw I J I1 J1 f nt m) : yCh I J I1 J1 nt bt (nt + m) bt := by
  obtain ⟨⟨r1, r2, r3, r4⟩, r5⟩ := R
  refine ⟨⟨fun c x1 x2 x3 x4 x5 _ _ => r1 c x1 x2 x3 x4 x5, r2, fun j x1 _ => r3 j x1⟩, ⟨r4, by rw [r3 8 (by decide), h8], by omega, Nat.le_refl _⟩, fun j hj => ?_, fun j _ => by rw [r1 239 (by decide) (by decide) (by decide) (by decide) (by decide)]⟩
  obtain ⟨q1, q2, q3, q4, q5⟩ := r5 j
  rw [if_neg (by omega)] at q1 q2 q3 q4 q5
  exact ⟨q1, q2, q3, q4, q5⟩
set_option maxRecDepth 20000 in
theorem e98 {f : Nat} {t : Int64} (hS : zStat P N) (h7 : I 37 7 = nI nt) (h8 : I 37 8 = nI bt) (hd : yCd I J nt bt b (K, F, C, T, Z, L, Y)) (hw : ywf (K, F, C, T, Z, L, Y)) (hf : f < 128) (h2 : f ≠ 2) (hn : nt + 200 ≤ 3801)
    (hQ : ∀ I' J', yCh I J I' J' nt bt (nt + K) bt → yCd I' J' (nt + K) bt nt (yas f t (K, F, C, T, Z, L, Y)) → Q (some (.int (nI nt))) (I', J', P, N, n, z)) : zC 98 [.ref 37, .int (nI b), .int (nI f), .long t] (I, J, P, N, n, z) Q := by
  have h0 := hw.1.1
  have la := hd.1
  have z0 := (hd.2 0 (by omega)).1.2.2.1
  rw [Nat.add_zero, h0.2.2.1] at z0
  have e := zq_b hf
  simp (decide := true) (disch := omega) only [z0, zi98, zt98, zo98_0, zy_ldI, zy_ldL, zy_ldA, zy_stI, zy_stL, zy_stA, zy_cI, zy_cL, zy_nul, zy_inc, zy_bI, zy_bL, zy_sL, zy_un, zy_cmp, zy_dup, zy_dup2, zy_pop, zy_pop2, zy_jn, zy_jnn, zy_go, zy_fal, zy_tsw, zy_lsw, zy_get, zy_put, zy_ald, zy_ast, zy_len, zy_newa, zy_new, zy_cal, zy_ret, zy_tak, zy_cst, zy_acp, zy_oini, zy_cln, zy_thr, zy_bad, zy_lco, zy_if0, zy_ic0, zy_if1, zy_ic1, zy_if2, zy_ic2, zy_if3, zy_ic3, zy_if4, zy_ic4, zy_if5, zy_ic5, zK_go, zK_to, zK_end, zK_callH, zK_iteC, zK_none, zsLd, zsSt, zsInc, zsBI, zsBL, zsSL, zsUn, zsCmp, zsDup, zsDup2, zsPop, zsPop2, zsJn, zsTsw, zsLsw, zsGet, zsPut, zsAld, zsAst, zsLen, zsNewa, zsCal, zsRet, zsCst, zsAcp, zsOini, zsCln, zsLco, zsThr, zxBI, zxBL, zxSL, zxU, zset1, zset2, zclr, zcat, zmake_mk, zcomp, zH_i, zH_l, zH_r, zH_u, zH_n, List.set_cons_zero, List.set_cons_succ, List.getElem?_cons_zero, List.getElem?_cons_succ, List.length_cons, List.length_nil, List.take_succ_cons, List.take_zero, List.drop_succ_cons, List.drop_zero, List.reverse_cons, List.reverse_nil, List.nil_append, List.cons_append, List.map_cons, List.map_nil, List.sum_cons, List.sum_nil, Option.toList_some, Option.toList_none, Value.category, Nat.reduceAdd, Nat.reduceMul, Nat.reduceMod, Nat.reduceDiv, Nat.reduceSub, Nat.reduceLT, Nat.reduceLeDiff, Nat.reduceEqDiff, Nat.zero_le, Nat.le_refl, Int32.reduceToNatClampNeg, Int32.reduceLT, Int32.reduceLE, Int32.reduceAdd, Int32.reduceSub, Int32.reduceMul, ↓reduceIte, reduceCtorEq, Nat.add_zero, Nat.zero_add, true_or, or_true, false_or, or_false, true_and, and_true, false_and, and_false, not_true_eq_false, not_false_eq_true, if_true, if_false, true_implies, false_implies, implies_true, forall_const, false_imp_iff, true_imp_iff, va_rf, zlay, zent, List.replicate_zero, List.append_nil, List.replicate_succ, List.length_append, ne_eq, Option.some.injEq, Value.int.injEq, Value.long.injEq, Int32.reduceOfNat, Int32.reduceToInt, Int.reduceLT, Int.reduceLE, Int.reduceSub, Int.reduceToNat, Int.reduceAdd, Int.reduceNeg, Int32.reduceDiv, Int64.reduceAdd, Int64.reduceSub, lg_cmp_ge, lg_cmp_le, lg_cmp_gt, lg_cmp_lt, lg_cmp_eq, wlt_t, wlt_f, wle_t, wle_f, wmod, wI_lt, wI_le, wI_eq, wI_neg, wI_pos, wI_cl, wI_ge, wI_po, w64_lt, w64_le, w64_eq, w64_lt0, w64_le0, w64_eq0, w64_32, zc317, zc319, wI_add, wI_a1, wI_s1, wI_e0, wI_m8, wI_m128, wI_m64, wI_m190, not_true_eq_false, not_false_eq_true, sP_37_0 hS, sP_37_2 hS, sP_37_4 hS, sN_79 hS, sN_144 hS, sN_209 hS, sN_6417 hS]
  refine e97 hS h7 (by omega) (by omega) (fun I1 J1 R => ?_)
  have H := yCh_rw h8 R
  have q := hQ (zu I1 79 nt (nI f)) (zu J1 209 nt t) (by
    obtain ⟨⟨a1, a2, a3⟩, ⟨b1, b2, b3, b4⟩, c1, c2⟩ := H
    refine ⟨⟨fun c x1 x2 x3 x4 x5 x6 x7 => by rw [zuR_ne x2, a1 c x1 x2 x3 x4 x5 x6 x7], fun c x1 => by rw [zuR_ne x1, a2 c x1], fun j x1 x2 => by rw [zuR_ne (by decide), a3 j x1 x2]⟩, ⟨by rw [zuR_ne (by decide), b1], by rw [zuR_ne (by decide), b2], b3, b4⟩, fun j hj => ?_, fun j hj => by rw [zuR_ne (by decide), c2 j hj]⟩
    rw [zu_nj (by omega), zuR_ne (by decide), zuR_ne (by decide), zuR_ne (by decide), zu_nj (by omega)]
    exact c1 j hj) (by
    refine ⟨Nat.le_refl _, fun j hj => ?_⟩
    obtain ⟨⟨d1, d2, d3, d4⟩, d5⟩ := hd.2 j hj
    obtain ⟨q1, q2, q3, q4, q5⟩ := R.2 (nt + j)
    rw [if_pos (by omega), show b + (nt + j - nt) = b + j by omega] at q1 q2 q3 q4 q5
    by_cases hj0 : j = 0
    · subst hj0
      rw [yhd_0, yhd_0, Nat.add_zero, zu_at, zuR_ne (by decide), zuR_ne (by decide), zu_at]
      rw [Nat.add_zero] at q1 q2 q3 q4 q5
      exact ⟨⟨rfl, q2.trans d2, q3.trans d3, rfl⟩, fun x => absurd x h2⟩
    · rw [yhd_s hj0, yhd_s hj0, zu_nj (by omega), zuR_ne (by decide), zuR_ne (by decide), zu_nj (by omega), zuR_ne (by decide)]
      refine ⟨⟨q1.trans d1, q2.trans d2, q3.trans d3, q5.trans d4⟩, fun x => ?_⟩
      obtain ⟨p, p1, p2, p3⟩ := d5 x
      refine ⟨p, q4.trans p1, p2, fun i hi => ?_⟩
      rw [zuR_ne (by decide), R.1.1 239 (by decide) (by decide) (by decide) (by decide) (by decide)]
      exact p3 i hi)
  simp (decide := true) (disch := omega) only [e, zi98, zt98, zo98_0, zy_ldI, zy_ldL, zy_ldA, zy_stI, zy_stL, zy_stA, zy_cI, zy_cL, zy_nul, zy_inc, zy_bI, zy_bL, zy_sL, zy_un, zy_cmp, zy_dup, zy_dup2, zy_pop, zy_pop2, zy_jn, zy_jnn, zy_go, zy_fal, zy_tsw, zy_lsw, zy_get, zy_put, zy_ald, zy_ast, zy_len, zy_newa, zy_new, zy_cal, zy_ret, zy_tak, zy_cst, zy_acp, zy_oini, zy_cln, zy_thr, zy_bad, zy_lco, zy_if0, zy_ic0, zy_if1, zy_ic1, zy_if2, zy_ic2, zy_if3, zy_ic3, zy_if4, zy_ic4, zy_if5, zy_ic5, zK_go, zK_to, zK_end, zK_callH, zK_iteC, zK_none, zsLd, zsSt, zsInc, zsBI, zsBL, zsSL, zsUn, zsCmp, zsDup, zsDup2, zsPop, zsPop2, zsJn, zsTsw, zsLsw, zsGet, zsPut, zsAld, zsAst, zsLen, zsNewa, zsCal, zsRet, zsCst, zsAcp, zsOini, zsCln, zsLco, zsThr, zxBI, zxBL, zxSL, zxU, zset1, zset2, zclr, zcat, zmake_mk, zcomp, zH_i, zH_l, zH_r, zH_u, zH_n, List.set_cons_zero, List.set_cons_succ, List.getElem?_cons_zero, List.getElem?_cons_succ, List.length_cons, List.length_nil, List.take_succ_cons, List.take_zero, List.drop_succ_cons, List.drop_zero, List.reverse_cons, List.reverse_nil, List.nil_append, List.cons_append, List.map_cons, List.map_nil, List.sum_cons, List.sum_nil, Option.toList_some, Option.toList_none, Value.category, Nat.reduceAdd, Nat.reduceMul, Nat.reduceMod, Nat.reduceDiv, Nat.reduceSub, Nat.reduceLT, Nat.reduceLeDiff, Nat.reduceEqDiff, Nat.zero_le, Nat.le_refl, Int32.reduceToNatClampNeg, Int32.reduceLT, Int32.reduceLE, Int32.reduceAdd, Int32.reduceSub, Int32.reduceMul, ↓reduceIte, reduceCtorEq, Nat.add_zero, Nat.zero_add, true_or, or_true, false_or, or_false, true_and, and_true, false_and, and_false, not_true_eq_false, not_false_eq_true, if_true, if_false, true_implies, false_implies, implies_true, forall_const, false_imp_iff, true_imp_iff, va_rf, zlay, zent, List.replicate_zero, List.append_nil, List.replicate_succ, List.length_append, ne_eq, Option.some.injEq, Value.int.injEq, Value.long.injEq, Int32.reduceOfNat, Int32.reduceToInt, Int.reduceLT, Int.reduceLE, Int.reduceSub, Int.reduceToNat, Int.reduceAdd, Int.reduceNeg, Int32.reduceDiv, Int64.reduceAdd, Int64.reduceSub, lg_cmp_ge, lg_cmp_le, lg_cmp_gt, lg_cmp_lt, lg_cmp_eq, wlt_t, wlt_f, wle_t, wle_f, wmod, wI_lt, wI_le, wI_eq, wI_neg, wI_pos, wI_cl, wI_ge, wI_po, w64_lt, w64_le, w64_eq, w64_lt0, w64_le0, w64_eq0, w64_32, zc317, zc319, wI_add, wI_a1, wI_s1, wI_e0, wI_m8, wI_m128, wI_m64, wI_m190, not_true_eq_false, not_false_eq_true, sP_37_0 hS, sP_37_2 hS, sP_37_4 hS, sN_79 hS, sN_144 hS, sN_209 hS, sN_6417 hS]
  exact q
/-- DATA as a result -/
theorem yPo_D {d : yD} {b : Nat} (H : yCh I J I1 J1 nt bt a bt) (hd : yCd I1 J1 a bt b d) (ha : a ≤ nt + d.1) (ha2 : a ≤ nt + 200) (h : yPo I J P N n z nt bt tp bn Q (some (yvD d))) : Q (some (.int (nI tp))) (yAv I1 tp 4 (nI b) 0, zu J1 2833 tp 0, P, N, n, z) := by
  obtain ⟨K, F, C, T, Z, L, Y⟩ := d
  have ha : a ≤ nt + K := ha
  refine h _ _ a bt (yCo_mk H (by show a ≤ nt + (K + ysm F C K / 8); omega) (Nat.le_add_right _ _) ha2 (fun I' J' hI hJ => ?_))
  refine ⟨rfl, fun h => by omega, fun h => by omega, fun _ => ⟨b, rfl, ?_⟩, fun h => by omega, fun h => by omega⟩
  refine ⟨hd.1, fun j hj => ?_⟩
  obtain ⟨⟨d1, d2, d3, d4⟩, d5⟩ := hd.2 j hj
  rw [hI 79 (by decide) (by decide) (by decide) (by decide), hI 112 (by decide) (by decide) (by decide) (by decide), hI 144 (by decide) (by decide) (by decide) (by decide), hI 176 (by decide) (by decide) (by decide) (by decide), hI 239 (by decide) (by decide) (by decide) (by decide), hJ 209 (by decide)]
  exact ⟨⟨d1, d2, d3, d4⟩, d5⟩
/-- what lies at the first node within -/
theorem yCd_sub (hd : yCd I J nt bt b (K, F, C, T, Z, L, Y)) {k : Nat} (hk : k + Z k ≤ K) : yCd I J nt bt (b + k) (ysub k (K, F, C, T, Z, L, Y)) := by
  have h := hd.1
  refine ⟨by omega, fun j hj => ?_⟩
  have hj : j < Z k := hj
  have q := hd.2 (k + j) (by omega)
  rw [Nat.add_assoc b k j]
  exact q
set_option maxRecDepth 20000 in
theorem e14 (hS : zStat P N) (ht : tp < 3201) (h5 : I 2762 5 = nI tp) (h7 : I 37 7 = nI nt) (h8 : I 37 8 = nI bt) (hn : nt + 200 ≤ 3801) (hd : yCd I J nt bt b (K, F, C, T, Z, L, Y)) (hw : ywf (K, F, C, T, Z, L, Y)) (h4 : F 0 = 4) (hc : C 0 ≠ 0) (hQ : yPo I J P N n z nt bt tp bn Q (some (yvD (yoth (K, F, C, T, Z, L, Y))))) : zC 14 [.ref 2976, .int (nI b)] (I, J, P, N, n, z) Q := by
  have D := hw.1
  have h0 := D.1
  have la := hd.1
  have k1 : 1 < K := zDt_1st D (by omega) (by omega) (by omega)
  have z1 := (D.2 1 k1).1
  have hZ := (ywf_oth hw h4 hc).2
  obtain ⟨⟨x1, x2, x3, x4⟩, x5⟩ := hd.2 0 (by omega)
  rw [Nat.add_zero] at x1 x2 x3 x4
  rw [h0.2.2.1] at x3
  have y3 := (hd.2 1 k1).1.2.2.1
  have ec : nI (C 0) - 1 = nI (C 0 - 1) := wI_sub (b := 1) (by omega)
  have q89 := fun Q => n89 (J := J) (n := n) (z := z) (k := 4) (ct := nI (C 0 - 1)) (pl := 0) (nm := 0) hS (by decide) (by omega) h7 Q
  have w3 : zAd I nt 4 (nI (C 0 - 1)) 0 144 (b + 1) = nI (Z 1) := by rw [(zAd_o (by omega)).2.2.1, y3]
  have w4 : zAd I nt 4 (nI (C 0 - 1)) 0 144 b = nI K := by rw [(zAd_o (by omega)).2.2.1, x3]
  have q92 := fun Q => n92 (J := zu J 209 nt 0) (n := n) (z := z) hS w3 (by omega) Q
  have q92' := fun Q => n92 (J := zu J 209 nt 0) (n := n) (z := z) hS w4 (by omega) Q
  have es : nI (b + K) - nI (b + 1 + Z 1) = nI (K - 1 - Z 1) := by rw [wI_sub (by omega)]; congr 1; omega
  simp (decide := true) (disch := omega) only [x2, ec, q89, q92, q92', es, zi14, zt14, zo14_0, zy_ldI, zy_ldL, zy_ldA, zy_stI, zy_stL, zy_stA, zy_cI, zy_cL, zy_nul, zy_inc, zy_bI, zy_bL, zy_sL, zy_un, zy_cmp, zy_dup, zy_dup2, zy_pop, zy_pop2, zy_jn, zy_jnn, zy_go, zy_fal, zy_tsw, zy_lsw, zy_get, zy_put, zy_ald, zy_ast, zy_len, zy_newa, zy_new, zy_cal, zy_ret, zy_tak, zy_cst, zy_acp, zy_oini, zy_cln, zy_thr, zy_bad, zy_lco, zy_if0, zy_ic0, zy_if1, zy_ic1, zy_if2, zy_ic2, zy_if3, zy_ic3, zy_if4, zy_ic4, zy_if5, zy_ic5, zK_go, zK_to, zK_end, zK_callH, zK_iteC, zK_none, zsLd, zsSt, zsInc, zsBI, zsBL, zsSL, zsUn, zsCmp, zsDup, zsDup2, zsPop, zsPop2, zsJn, zsTsw, zsLsw, zsGet, zsPut, zsAld, zsAst, zsLen, zsNewa, zsCal, zsRet, zsCst, zsAcp, zsOini, zsCln, zsLco, zsThr, zxBI, zxBL, zxSL, zxU, zset1, zset2, zclr, zcat, zmake_mk, zcomp, zH_i, zH_l, zH_r, zH_u, zH_n, List.set_cons_zero, List.set_cons_succ, List.getElem?_cons_zero, List.getElem?_cons_succ, List.length_cons, List.length_nil, List.take_succ_cons, List.take_zero, List.drop_succ_cons, List.drop_zero, List.reverse_cons, List.reverse_nil, List.nil_append, List.cons_append, List.map_cons, List.map_nil, List.sum_cons, List.sum_nil, Option.toList_some, Option.toList_none, Value.category, Nat.reduceAdd, Nat.reduceMul, Nat.reduceMod, Nat.reduceDiv, Nat.reduceSub, Nat.reduceLT, Nat.reduceLeDiff, Nat.reduceEqDiff, Nat.zero_le, Nat.le_refl, Int32.reduceToNatClampNeg, Int32.reduceLT, Int32.reduceLE, Int32.reduceAdd, Int32.reduceSub, Int32.reduceMul, ↓reduceIte, reduceCtorEq, Nat.add_zero, Nat.zero_add, true_or, or_true, false_or, or_false, true_and, and_true, false_and, and_false, not_true_eq_false, not_false_eq_true, if_true, if_false, true_implies, false_implies, implies_true, forall_const, false_imp_iff, true_imp_iff, va_rf, zlay, zent, List.replicate_zero, List.append_nil, List.replicate_succ, List.length_append, ne_eq, Option.some.injEq, Value.int.injEq, Value.long.injEq, Int32.reduceOfNat, Int32.reduceToInt, Int.reduceLT, Int.reduceLE, Int.reduceSub, Int.reduceToNat, Int.reduceAdd, Int.reduceNeg, Int32.reduceDiv, Int64.reduceAdd, Int64.reduceSub, lg_cmp_ge, lg_cmp_le, lg_cmp_gt, lg_cmp_lt, lg_cmp_eq, wlt_t, wlt_f, wle_t, wle_f, wmod, wI_lt, wI_le, wI_eq, wI_neg, wI_pos, wI_cl, wI_ge, wI_po, w64_lt, w64_le, w64_eq, w64_lt0, w64_le0, w64_eq0, w64_32, zc317, zc319, wI_add, wI_a1, wI_s1, wI_e0, wI_m8, wI_m128, wI_m64, wI_m190, not_true_eq_false, not_false_eq_true, sP_37_1 hS, sP_2976_0 hS, sN_112 hS, sN_6417 hS]
  refine e97 hS zAd_7 (by omega) (by omega) (fun I2 J2 R => ?_)
  obtain ⟨⟨r1, r2, r3, r4⟩, r5⟩ := R
  have e7 : nt + 1 + (K - 1 - Z 1) = nt + (K - Z 1) := by omega
  rw [e7] at r4
  have q91 := fun Q => m91 (J := J2) (n := n) (z := z) (b := nt) hS r4 (by omega) (by omega) Q
  have e8 : nt + (K - Z 1) - nt = K - Z 1 := by omega
  rw [e8] at q91
  have k5 : zu I2 144 nt (nI (K - Z 1)) 2762 5 = nI tp := by
    rw [zuR_ne (by decide), r1 2762 (by decide) (by decide) (by decide) (by decide) (by decide), zAd_c (by decide) (by decide) (by decide) (by decide) (by decide), h5]
  have q18 := fun f Q => m18 (J := J2) (n := n) (z := z) (f := f) hS ht k5 Q
  have row : ∀ j, zu I2 144 nt (nI (K - Z 1)) 79 j = I2 79 j ∧ zu I2 144 nt (nI (K - Z 1)) 112 j = I2 112 j ∧ zu I2 144 nt (nI (K - Z 1)) 176 j = I2 176 j ∧ (j ≠ nt → zu I2 144 nt (nI (K - Z 1)) 144 j = I2 144 j) := fun j => ⟨by rw [zuR_ne (by decide)], by rw [zuR_ne (by decide)], by rw [zuR_ne (by decide)], fun h => zu_nj h⟩
  have fr : ∀ c, c ≠ 37 → c ≠ 79 → c ≠ 112 → c ≠ 144 → c ≠ 176 → zu I2 144 nt (nI (K - Z 1)) c = I c := fun c a1 a2 a3 a4 a5 => by rw [zuR_ne a4, r1 c a1 a2 a3 a4 a5, zAd_c a1 a2 a3 a4 a5]
  have low : ∀ j, j ≤ nt ∨ nt + (K - Z 1) ≤ j → I2 79 j = zAd I nt 4 (nI (C 0 - 1)) 0 79 j ∧ I2 112 j = zAd I nt 4 (nI (C 0 - 1)) 0 112 j ∧ I2 144 j = zAd I nt 4 (nI (C 0 - 1)) 0 144 j ∧ I2 176 j = zAd I nt 4 (nI (C 0 - 1)) 0 176 j ∧ J2 209 j = zu J 209 nt 0 209 j := fun j hj => by
    obtain ⟨q1, q2, q3, q4, q5⟩ := r5 j
    rw [if_neg (by omega)] at q1 q2 q3 q4 q5
    exact ⟨q1, q2, q3, q4, q5⟩
  have q := yPo_D (I1 := zu I2 144 nt (nI (K - Z 1))) (J1 := J2) (a := nt + (K - Z 1)) (b := nt) ⟨⟨fun c a1 a2 a3 a4 a5 _ _ => fr c a1 a2 a3 a4 a5, fun c a1 => by rw [r2 c a1, zuR_ne a1], fun j a1 _ => by rw [zuR_ne (by decide), r3 j a1, zAd_37 a1]⟩, ⟨by rw [zuR_ne (by decide), r4], by rw [zuR_ne (by decide), r3 8 (by decide), zAd_37 (by decide), h8], by omega, Nat.le_refl _⟩, fun j hj => by
      obtain ⟨q1, q2, q3, q4, q5⟩ := low j (by omega)
      obtain ⟨o1, o2, o3, o4⟩ := zAd_o (I := I) (nt := nt) (k := 4) (ct := nI (C 0 - 1)) (pl := 0) (j := j) (by omega)
      rw [(row j).1, (row j).2.1, (row j).2.2.1, (row j).2.2.2 (by omega), q1, q2, q3, q4, q5, zu_nj (by omega)]
      exact ⟨o1, o2, o3, o4, rfl⟩, fun j _ => by rw [fr 239 (by decide) (by decide) (by decide) (by decide) (by decide)]⟩ (by
      refine ⟨Nat.le_refl _, fun j hj => ?_⟩
      have hj : j < K - Z 1 := hj
      by_cases hj0 : j = 0
      · subst hj0
        obtain ⟨q1, q2, q3, q4, q5⟩ := low nt (by omega)
        obtain ⟨o1, o2, o3, o4⟩ := zAd_n (I := I) (nt := nt) (k := 4) (ct := nI (C 0 - 1)) (pl := 0)
        rw [yhd_0, yhd_0, yhd_0, yhd_0, Nat.add_zero, (row nt).1, (row nt).2.1, zu_at, q1, q2, q5, zu_at]
        exact ⟨⟨o1, o2, rfl, rfl⟩, fun x => by cases x⟩
      · obtain ⟨q1, q2, q3, q4, q5⟩ := r5 (nt + j)
        rw [if_pos (by omega), show b + 1 + Z 1 + (nt + j - (nt + 1)) = b + (j + Z 1) by omega] at q1 q2 q3 q4 q5
        obtain ⟨o1, o2, o3, o4⟩ := zAd_o (I := I) (nt := nt) (k := 4) (ct := nI (C 0 - 1)) (pl := 0) (j := b + (j + Z 1)) (by omega)
        rw [zu_nj (by omega)] at q5
        obtain ⟨⟨d1, d2, d3, d4⟩, d5⟩ := hd.2 (j + Z 1) (by omega)
        rw [yhd_s hj0, yhd_s hj0, yhd_s hj0, yhd_s hj0, (row _).1, (row _).2.1, (row _).2.2.1, (row _).2.2.2 (by omega), fr 239 (by decide) (by decide) (by decide) (by decide) (by decide), q1, q2, q3, q4, q5, o1, o2, o3, o4]
        exact ⟨⟨d1, d2, d3, d4⟩, d5⟩) (Nat.le_refl _) (by omega) hQ
  simp (decide := true) (disch := omega) only [q91, q18, zi14, zt14, zo14_0, zy_ldI, zy_ldL, zy_ldA, zy_stI, zy_stL, zy_stA, zy_cI, zy_cL, zy_nul, zy_inc, zy_bI, zy_bL, zy_sL, zy_un, zy_cmp, zy_dup, zy_dup2, zy_pop, zy_pop2, zy_jn, zy_jnn, zy_go, zy_fal, zy_tsw, zy_lsw, zy_get, zy_put, zy_ald, zy_ast, zy_len, zy_newa, zy_new, zy_cal, zy_ret, zy_tak, zy_cst, zy_acp, zy_oini, zy_cln, zy_thr, zy_bad, zy_lco, zy_if0, zy_ic0, zy_if1, zy_ic1, zy_if2, zy_ic2, zy_if3, zy_ic3, zy_if4, zy_ic4, zy_if5, zy_ic5, zK_go, zK_to, zK_end, zK_callH, zK_iteC, zK_none, zsLd, zsSt, zsInc, zsBI, zsBL, zsSL, zsUn, zsCmp, zsDup, zsDup2, zsPop, zsPop2, zsJn, zsTsw, zsLsw, zsGet, zsPut, zsAld, zsAst, zsLen, zsNewa, zsCal, zsRet, zsCst, zsAcp, zsOini, zsCln, zsLco, zsThr, zxBI, zxBL, zxSL, zxU, zset1, zset2, zclr, zcat, zmake_mk, zcomp, zH_i, zH_l, zH_r, zH_u, zH_n, List.set_cons_zero, List.set_cons_succ, List.getElem?_cons_zero, List.getElem?_cons_succ, List.length_cons, List.length_nil, List.take_succ_cons, List.take_zero, List.drop_succ_cons, List.drop_zero, List.reverse_cons, List.reverse_nil, List.nil_append, List.cons_append, List.map_cons, List.map_nil, List.sum_cons, List.sum_nil, Option.toList_some, Option.toList_none, Value.category, Nat.reduceAdd, Nat.reduceMul, Nat.reduceMod, Nat.reduceDiv, Nat.reduceSub, Nat.reduceLT, Nat.reduceLeDiff, Nat.reduceEqDiff, Nat.zero_le, Nat.le_refl, Int32.reduceToNatClampNeg, Int32.reduceLT, Int32.reduceLE, Int32.reduceAdd, Int32.reduceSub, Int32.reduceMul, ↓reduceIte, reduceCtorEq, Nat.add_zero, Nat.zero_add, true_or, or_true, false_or, or_false, true_and, and_true, false_and, and_false, not_true_eq_false, not_false_eq_true, if_true, if_false, true_implies, false_implies, implies_true, forall_const, false_imp_iff, true_imp_iff, va_rf, zlay, zent, List.replicate_zero, List.append_nil, List.replicate_succ, List.length_append, ne_eq, Option.some.injEq, Value.int.injEq, Value.long.injEq, Int32.reduceOfNat, Int32.reduceToInt, Int.reduceLT, Int.reduceLE, Int.reduceSub, Int.reduceToNat, Int.reduceAdd, Int.reduceNeg, Int32.reduceDiv, Int64.reduceAdd, Int64.reduceSub, lg_cmp_ge, lg_cmp_le, lg_cmp_gt, lg_cmp_lt, lg_cmp_eq, wlt_t, wlt_f, wle_t, wle_f, wmod, wI_lt, wI_le, wI_eq, wI_neg, wI_pos, wI_cl, wI_ge, wI_po, w64_lt, w64_le, w64_eq, w64_lt0, w64_le0, w64_eq0, w64_32, zc317, zc319, wI_add, wI_a1, wI_s1, wI_e0, wI_m8, wI_m128, wI_m64, wI_m190, not_true_eq_false, not_false_eq_true, sP_37_1 hS, sP_2976_0 hS, sN_112 hS, sN_6417 hS]
  exact q
end
