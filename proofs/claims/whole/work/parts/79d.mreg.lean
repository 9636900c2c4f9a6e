-- needs: 01 02.names 03 04 05 18 19 20 22 23 24 25 30 31 32 33 36 40 42 43 44 46 47 60 61 62 63 64 65 66 67 68 69 70 71 72 73 74 75 76 77 78 79. 79b 79c
/-! registerScript of the reference -/
section
variable {B B' : Nat → Nat} {t : Nat}
theorem zRu_B (h : ∀ j, j < t → B' j = B j) : ∀ r k a v, zRu B' t r k a v = zRu B t r k a v := by
  intro r
  induction r with
  | zero => intro k a v; rfl
  | succ r ih =>
    intro k a v
    unfold zRu
    by_cases ha : t ≤ a
    · rw [if_pos ha, if_pos ha]
    · rw [if_neg ha, if_neg ha, h a (by omega)]
      simp only [ih]
theorem zRs_B (h : ∀ j, j < t → B' j = B j) : ∀ r k a v bf, zRs B' t r k a v bf = zRs B t r k a v bf := by
  intro r
  induction r with
  | zero => intro k a v bf; rfl
  | succ r ih =>
    intro k a v bf
    unfold zRs
    by_cases ha : t ≤ a
    · rw [if_pos ha, if_pos ha]
    · rw [if_neg ha, if_neg ha, h a (by omega)]
      simp only [ih]
theorem zRn_B (h : ∀ j, j < t → B' j = B j) {q b a : Nat} : zRn B' t q b a = zRn B t q b a := by
  unfold zRn
  rw [zRu_B h, zRs_B h]
  by_cases ha : t ≤ a
  · simp only [if_pos ha]
  · simp only [h a (by omega)]
theorem zNf_B (h : ∀ j, j < t → B' j = B j) {k a d b : Nat} : zNf B' t k a d b = zNf B t k a d b := by
  unfold zNf
  by_cases ha : t ≤ a
  · rw [if_pos ha, if_pos ha]
  · rw [h a (by omega), zRn_B h]
theorem zPr_B (h : ∀ j, j < t → B' j = B j) : ∀ r s, zPr B' t r s = zPr B t r s := by
  intro r
  induction r with
  | zero => intro s; rfl
  | succ r ih =>
    rintro ⟨k, a, dm, W, K, V, S⟩
    cases W with
    | nil => rfl
    | cons x W =>
      obtain ⟨d, b, o⟩ := x
      have e := zNf_B h (k := k) (a := a) (d := d) (b := b)
      by_cases hf : zNf B t k a d b = 0
      · rw [zPr_s (e.trans hf), zPr_s hf, ih, zRn_B h, h a (zNf_q hf).1]
      · rw [zPr_x (by rw [e]; exact hf), zPr_x hf, e]
theorem zTm_B (h : ∀ j, j < t → B' j = B j) : zTm B' t = zTm B t := zPr_B h _ _
end
/-- some nodes have been copied -/
def zCy (I : zI) (J : zJ) (I' : zI) (J' : zJ) (s i : Nat) : Prop := (∀ c, c ≠ 3312 → c ≠ 3375 → I' c = I c) ∧ (∀ c, c ≠ 3345 → J' c = J c) ∧ (∀ x, x < 190 * s → I' 3312 x = I 3312 x ∧ J' 3345 x = J 3345 x) ∧ (∀ x, x < 64 * (190 * s) → I' 3375 x = I 3375 x) ∧
  ∀ j, j < i → I' 3312 (190 * s + j) = I 4368 j ∧ J' 3345 (190 * s + j) = J 4401 j ∧ ∀ q, q < 64 → I' 3375 (64 * (190 * s + j) + q) = (I 4495 (64 * j + q)).toInt8.toInt32
section
variable {P : zP} {N : Nat → Nat} {n z t s : Nat} {Q : Option Value → zS → Prop}
set_option maxRecDepth 20000 in
theorem l256j {I : zI} {J : zJ} {k : Nat} {u1 u2 : Option Value} {u3 : Int32} (hS : zStat P N) (hk : k < 190) (hs : s < 32) (hQ : zQ zt256 zo256_10 [some (.ref 3118), u1, u2, some (.int u3), some (.int (nI k)), some (.int (nI k)), some (.int (nI (190 * s + k))), some (.int (nI 64))] [] (zfl I 3375 (64 * (190 * s + k)) 64 (fun q => (I 4495 (64 * k + q)).toInt8.toInt32), J, P, N, n, z) Q) : ∀ r j, j + r = 64 → zQ zt256 zo256_9 [some (.ref 3118), u1, u2, some (.int u3), some (.int (nI k)), some (.int (nI k)), some (.int (nI (190 * s + k))), some (.int (nI j))] [] (zfl I 3375 (64 * (190 * s + k)) j (fun q => (I 4495 (64 * k + q)).toInt8.toInt32), J, P, N, n, z) Q := by
  intro r
  induction r with
  | zero =>
    intro j hj
    obtain rfl : j = 64 := by omega
    have e : (64 : Int32) ≤ nI 64 := by decide
    rw [zo256_9]
    simp (decide := true) (disch := omega) only [e, zi256, zt256, zo256_0, zo256_1, zo256_2, zo256_3, zo256_4, zo256_5, zo256_6, zo256_7, zo256_8, zo256_11, zy_ldI, zy_ldL, zy_ldA, zy_stI, zy_stL, zy_stA, zy_cI, zy_cL, zy_nul, zy_inc, zy_bI, zy_bL, zy_sL, zy_un, zy_cmp, zy_dup, zy_dup2, zy_pop, zy_pop2, zy_jn, zy_jnn, zy_go, zy_fal, zy_tsw, zy_lsw, zy_get, zy_put, zy_ald, zy_ast, zy_len, zy_newa, zy_new, zy_cal, zy_ret, zy_tak, zy_cst, zy_acp, zy_oini, zy_cln, zy_thr, zy_bad, zy_lco, zy_if0, zy_ic0, zy_if1, zy_ic1, zy_if2, zy_ic2, zy_if3, zy_ic3, zy_if4, zy_ic4, zy_if5, zy_ic5, zK_go, zK_to, zK_end, zK_callH, zK_iteC, zK_none, zsLd, zsSt, zsInc, zsBI, zsBL, zsSL, zsUn, zsCmp, zsDup, zsDup2, zsPop, zsPop2, zsJn, zsTsw, zsLsw, zsGet, zsPut, zsAld, zsAst, zsLen, zsNewa, zsCal, zsRet, zsCst, zsAcp, zsOini, zsCln, zsLco, zsThr, zxBI, zxBL, zxSL, zxU, zset1, zset2, zclr, zcat, zmake_mk, zcomp, zH_i, zH_l, zH_r, zH_u, zH_n, List.set_cons_zero, List.set_cons_succ, List.getElem?_cons_zero, List.getElem?_cons_succ, List.length_cons, List.length_nil, List.take_succ_cons, List.take_zero, List.drop_succ_cons, List.drop_zero, List.reverse_cons, List.reverse_nil, List.nil_append, List.cons_append, List.map_cons, List.map_nil, List.sum_cons, List.sum_nil, Option.toList_some, Option.toList_none, Value.category, Nat.reduceAdd, Nat.reduceMul, Nat.reduceMod, Nat.reduceDiv, Nat.reduceSub, Nat.reduceLT, Nat.reduceLeDiff, Nat.reduceEqDiff, Nat.zero_le, Nat.le_refl, Int32.reduceToNatClampNeg, Int32.reduceLT, Int32.reduceLE, Int32.reduceAdd, Int32.reduceSub, Int32.reduceMul, ↓reduceIte, reduceCtorEq, Nat.add_zero, Nat.zero_add, true_or, or_true, false_or, or_false, true_and, and_true, false_and, and_false, not_true_eq_false, not_false_eq_true, if_true, if_false, true_implies, false_implies, implies_true, forall_const, false_imp_iff, true_imp_iff, va_rf, zlay, zent, List.replicate_zero, List.append_nil, List.replicate_succ, List.length_append, ne_eq, Option.some.injEq, Value.int.injEq, Value.long.injEq, Int32.reduceOfNat, Int32.reduceToInt, Int.reduceLT, Int.reduceLE, Int.reduceSub, Int.reduceToNat, Int.reduceAdd, Int.reduceNeg, Int32.reduceDiv, Int64.reduceAdd, Int64.reduceSub, lg_cmp_ge, lg_cmp_le, lg_cmp_gt, lg_cmp_lt, lg_cmp_eq, wlt_t, wlt_f, wle_t, wle_f, wmod, wI_lt, wI_le, wI_eq, wI_neg, wI_pos, wI_cl, wI_ge, wI_po, w64_lt, w64_le, w64_eq, w64_lt0, w64_le0, w64_eq0, w64_32, zc317, zc319, wI_add, wI_a1, wI_s1, wI_e0, wI_m8, wI_m128, wI_m64, wI_m190, not_true_eq_false, not_false_eq_true, sP_3118_1 hS, sP_3118_4 hS, sP_3118_5 hS, sP_3118_6 hS, sP_3118_8 hS, sP_3118_9 hS, sP_3118_10 hS, sP_3118_61 hS, sP_4301_2 hS, sP_4301_3 hS, sP_4301_6 hS, sP_4301_8 hS, sP_4301_10 hS, sP_4301_15 hS, sN_3151 hS, sN_3184 hS, sN_3216 hS, sN_3248 hS, sN_3312 hS, sN_3345 hS, sN_3375 hS, sN_4368 hS, sN_4401 hS, sN_4495 hS, sN_4528 hS, sN_4559 hS, sN_4592 hS, sN_6417 hS]
    exact hQ
  | succ r ih =>
    intro j hj
    have q := ih (j + 1) (by omega)
    have e : (64 ≤ nI j) = (64 ≤ j) := wI_gec (c := 64)
    have e3 : zfl I 3375 (64 * (190 * s + k)) j (fun q => (I 4495 (64 * k + q)).toInt8.toInt32) 4495 = I 4495 := zfl_ne (by decide)
    have e2 : zu (zfl I 3375 (64 * (190 * s + k)) j (fun q => (I 4495 (64 * k + q)).toInt8.toInt32)) 3375 (64 * (190 * s + k) + j) (I 4495 (64 * k + j)).toInt8.toInt32 = zfl I 3375 (64 * (190 * s + k)) (j + 1) (fun q => (I 4495 (64 * k + q)).toInt8.toInt32) := by
      funext a' j'
      unfold zu zfl
      repeat' split
      all_goals first
        | rfl
        | (exfalso; omega)
        | (dsimp only; congr 3; omega)
    rw [zo256_9]
    simp (decide := true) (disch := omega) only [e, e3, e2, zi256, zt256, zo256_0, zo256_1, zo256_2, zo256_3, zo256_4, zo256_5, zo256_6, zo256_7, zo256_8, zo256_11, zy_ldI, zy_ldL, zy_ldA, zy_stI, zy_stL, zy_stA, zy_cI, zy_cL, zy_nul, zy_inc, zy_bI, zy_bL, zy_sL, zy_un, zy_cmp, zy_dup, zy_dup2, zy_pop, zy_pop2, zy_jn, zy_jnn, zy_go, zy_fal, zy_tsw, zy_lsw, zy_get, zy_put, zy_ald, zy_ast, zy_len, zy_newa, zy_new, zy_cal, zy_ret, zy_tak, zy_cst, zy_acp, zy_oini, zy_cln, zy_thr, zy_bad, zy_lco, zy_if0, zy_ic0, zy_if1, zy_ic1, zy_if2, zy_ic2, zy_if3, zy_ic3, zy_if4, zy_ic4, zy_if5, zy_ic5, zK_go, zK_to, zK_end, zK_callH, zK_iteC, zK_none, zsLd, zsSt, zsInc, zsBI, zsBL, zsSL, zsUn, zsCmp, zsDup, zsDup2, zsPop, zsPop2, zsJn, zsTsw, zsLsw, zsGet, zsPut, zsAld, zsAst, zsLen, zsNewa, zsCal, zsRet, zsCst, zsAcp, zsOini, zsCln, zsLco, zsThr, zxBI, zxBL, zxSL, zxU, zset1, zset2, zclr, zcat, zmake_mk, zcomp, zH_i, zH_l, zH_r, zH_u, zH_n, List.set_cons_zero, List.set_cons_succ, List.getElem?_cons_zero, List.getElem?_cons_succ, List.length_cons, List.length_nil, List.take_succ_cons, List.take_zero, List.drop_succ_cons, List.drop_zero, List.reverse_cons, List.reverse_nil, List.nil_append, List.cons_append, List.map_cons, List.map_nil, List.sum_cons, List.sum_nil, Option.toList_some, Option.toList_none, Value.category, Nat.reduceAdd, Nat.reduceMul, Nat.reduceMod, Nat.reduceDiv, Nat.reduceSub, Nat.reduceLT, Nat.reduceLeDiff, Nat.reduceEqDiff, Nat.zero_le, Nat.le_refl, Int32.reduceToNatClampNeg, Int32.reduceLT, Int32.reduceLE, Int32.reduceAdd, Int32.reduceSub, Int32.reduceMul, ↓reduceIte, reduceCtorEq, Nat.add_zero, Nat.zero_add, true_or, or_true, false_or, or_false, true_and, and_true, false_and, and_false, not_true_eq_false, not_false_eq_true, if_true, if_false, true_implies, false_implies, implies_true, forall_const, false_imp_iff, true_imp_iff, va_rf, zlay, zent, List.replicate_zero, List.append_nil, List.replicate_succ, List.length_append, ne_eq, Option.some.injEq, Value.int.injEq, Value.long.injEq, Int32.reduceOfNat, Int32.reduceToInt, Int.reduceLT, Int.reduceLE, Int.reduceSub, Int.reduceToNat, Int.reduceAdd, Int.reduceNeg, Int32.reduceDiv, Int64.reduceAdd, Int64.reduceSub, lg_cmp_ge, lg_cmp_le, lg_cmp_gt, lg_cmp_lt, lg_cmp_eq, wlt_t, wlt_f, wle_t, wle_f, wmod, wI_lt, wI_le, wI_eq, wI_neg, wI_pos, wI_cl, wI_ge, wI_po, w64_lt, w64_le, w64_eq, w64_lt0, w64_le0, w64_eq0, w64_32, zc317, zc319, wI_add, wI_a1, wI_s1, wI_e0, wI_m8, wI_m128, wI_m64, wI_m190, not_true_eq_false, not_false_eq_true, sP_3118_1 hS, sP_3118_4 hS, sP_3118_5 hS, sP_3118_6 hS, sP_3118_8 hS, sP_3118_9 hS, sP_3118_10 hS, sP_3118_61 hS, sP_4301_2 hS, sP_4301_3 hS, sP_4301_6 hS, sP_4301_8 hS, sP_4301_10 hS, sP_4301_15 hS, sN_3151 hS, sN_3184 hS, sN_3216 hS, sN_3248 hS, sN_3312 hS, sN_3345 hS, sN_3375 hS, sN_4368 hS, sN_4401 hS, sN_4495 hS, sN_4528 hS, sN_4559 hS, sN_4592 hS, sN_6417 hS]
    exact q
set_option maxRecDepth 20000 in
set_option maxHeartbeats 4000000 in
theorem l256k {I : zI} {J : zJ} {c : Nat} {u1 u2 : Option Value} {u3 : Int32} (hS : zStat P N) (hc : c ≤ 190) (hs : s < 32) (h18 : I 4301 18 = nI c) (h3 : I 3118 3 = nI s) (ho : ∀ j, j < c → I 4592 j = nI j)
    (hQ : ∀ I' J' u5 u6 u7, zCy I J I' J' s c → zQ zt256 zo256_11 [some (.ref 3118), u1, u2, some (.int u3), some (.int (nI c)), u5, u6, u7] [] (I', J', P, N, n, z) Q) : ∀ (r i : Nat) (I' : zI) (J' : zJ) (u5 u6 u7 : Option Value), i + r = c → zCy I J I' J' s i → zQ zt256 zo256_8 [some (.ref 3118), u1, u2, some (.int u3), some (.int (nI i)), u5, u6, u7] [] (I', J', P, N, n, z) Q := by
  intro r
  induction r with
  | zero =>
    intro i I' J' u5 u6 u7 hi C
    obtain rfl : i = c := by omega
    have f18 : I' 4301 18 = nI i := by rw [C.1 4301 (by decide) (by decide)]; exact h18
    have q := hQ I' J' u5 u6 u7 C
    rw [zo256_8]
    simp (decide := true) (disch := omega) only [f18, zi256, zt256, zo256_0, zo256_1, zo256_2, zo256_3, zo256_4, zo256_5, zo256_6, zo256_7, zo256_9, zo256_10, zy_ldI, zy_ldL, zy_ldA, zy_stI, zy_stL, zy_stA, zy_cI, zy_cL, zy_nul, zy_inc, zy_bI, zy_bL, zy_sL, zy_un, zy_cmp, zy_dup, zy_dup2, zy_pop, zy_pop2, zy_jn, zy_jnn, zy_go, zy_fal, zy_tsw, zy_lsw, zy_get, zy_put, zy_ald, zy_ast, zy_len, zy_newa, zy_new, zy_cal, zy_ret, zy_tak, zy_cst, zy_acp, zy_oini, zy_cln, zy_thr, zy_bad, zy_lco, zy_if0, zy_ic0, zy_if1, zy_ic1, zy_if2, zy_ic2, zy_if3, zy_ic3, zy_if4, zy_ic4, zy_if5, zy_ic5, zK_go, zK_to, zK_end, zK_callH, zK_iteC, zK_none, zsLd, zsSt, zsInc, zsBI, zsBL, zsSL, zsUn, zsCmp, zsDup, zsDup2, zsPop, zsPop2, zsJn, zsTsw, zsLsw, zsGet, zsPut, zsAld, zsAst, zsLen, zsNewa, zsCal, zsRet, zsCst, zsAcp, zsOini, zsCln, zsLco, zsThr, zxBI, zxBL, zxSL, zxU, zset1, zset2, zclr, zcat, zmake_mk, zcomp, zH_i, zH_l, zH_r, zH_u, zH_n, List.set_cons_zero, List.set_cons_succ, List.getElem?_cons_zero, List.getElem?_cons_succ, List.length_cons, List.length_nil, List.take_succ_cons, List.take_zero, List.drop_succ_cons, List.drop_zero, List.reverse_cons, List.reverse_nil, List.nil_append, List.cons_append, List.map_cons, List.map_nil, List.sum_cons, List.sum_nil, Option.toList_some, Option.toList_none, Value.category, Nat.reduceAdd, Nat.reduceMul, Nat.reduceMod, Nat.reduceDiv, Nat.reduceSub, Nat.reduceLT, Nat.reduceLeDiff, Nat.reduceEqDiff, Nat.zero_le, Nat.le_refl, Int32.reduceToNatClampNeg, Int32.reduceLT, Int32.reduceLE, Int32.reduceAdd, Int32.reduceSub, Int32.reduceMul, ↓reduceIte, reduceCtorEq, Nat.add_zero, Nat.zero_add, true_or, or_true, false_or, or_false, true_and, and_true, false_and, and_false, not_true_eq_false, not_false_eq_true, if_true, if_false, true_implies, false_implies, implies_true, forall_const, false_imp_iff, true_imp_iff, va_rf, zlay, zent, List.replicate_zero, List.append_nil, List.replicate_succ, List.length_append, ne_eq, Option.some.injEq, Value.int.injEq, Value.long.injEq, Int32.reduceOfNat, Int32.reduceToInt, Int.reduceLT, Int.reduceLE, Int.reduceSub, Int.reduceToNat, Int.reduceAdd, Int.reduceNeg, Int32.reduceDiv, Int64.reduceAdd, Int64.reduceSub, lg_cmp_ge, lg_cmp_le, lg_cmp_gt, lg_cmp_lt, lg_cmp_eq, wlt_t, wlt_f, wle_t, wle_f, wmod, wI_lt, wI_le, wI_eq, wI_neg, wI_pos, wI_cl, wI_ge, wI_po, w64_lt, w64_le, w64_eq, w64_lt0, w64_le0, w64_eq0, w64_32, zc317, zc319, wI_add, wI_a1, wI_s1, wI_e0, wI_m8, wI_m128, wI_m64, wI_m190, not_true_eq_false, not_false_eq_true, sP_3118_1 hS, sP_3118_4 hS, sP_3118_5 hS, sP_3118_6 hS, sP_3118_8 hS, sP_3118_9 hS, sP_3118_10 hS, sP_3118_61 hS, sP_4301_2 hS, sP_4301_3 hS, sP_4301_6 hS, sP_4301_8 hS, sP_4301_10 hS, sP_4301_15 hS, sN_3151 hS, sN_3184 hS, sN_3216 hS, sN_3248 hS, sN_3312 hS, sN_3345 hS, sN_3375 hS, sN_4368 hS, sN_4401 hS, sN_4495 hS, sN_4528 hS, sN_4559 hS, sN_4592 hS, sN_6417 hS]
    exact q
  | succ r ih =>
    intro i I' J' u5 u6 u7 hi C
    obtain ⟨C1, C2, C3, C4, C5⟩ := id C
    have f18 : I' 4301 18 = nI c := by rw [C1 4301 (by decide) (by decide)]; exact h18
    have f3 : I' 3118 3 = nI s := by rw [C1 3118 (by decide) (by decide)]; exact h3
    have fo : I' 4592 i = nI i := by rw [C1 4592 (by decide) (by decide)]; exact ho i (by omega)
    have f2 : I' 4368 i = I 4368 i := by rw [C1 4368 (by decide) (by decide)]
    have f4 : J' 4401 i = J 4401 i := by rw [C2 4401 (by decide)]
    have q0 := l256j (P := P) (N := N) (n := n) (z := z) (Q := Q) (s := s) (I := zu I' 3312 (190 * s + i) (I 4368 i)) (J := zu J' 3345 (190 * s + i) (J 4401 i)) (k := i) (u1 := u1) (u2 := u2) (u3 := u3) hS (by omega) hs (by
      have q := ih (i + 1) (zfl (zu I' 3312 (190 * s + i) (I 4368 i)) 3375 (64 * (190 * s + i)) 64 (fun q => (zu I' 3312 (190 * s + i) (I 4368 i) 4495 (64 * i + q)).toInt8.toInt32)) (zu J' 3345 (190 * s + i) (J 4401 i)) (some (.int (nI i))) (some (.int (nI (190 * s + i)))) (some (.int (nI 64))) (by omega) ⟨fun c x1 x2 => by rw [zfl_ne x2, zuR_ne x1]; exact C1 c x1 x2, fun c x1 => by rw [zuR_ne x1]; exact C2 c x1, fun x hx => ?_, fun x hx => ?_, fun j hj => ⟨?_, ?_, fun q hq => ?_⟩⟩
      · rw [zo256_10]
        simp (decide := true) (disch := omega) only [zi256, zt256, zo256_0, zo256_1, zo256_2, zo256_3, zo256_4, zo256_5, zo256_6, zo256_7, zo256_9, zo256_11, zy_ldI, zy_ldL, zy_ldA, zy_stI, zy_stL, zy_stA, zy_cI, zy_cL, zy_nul, zy_inc, zy_bI, zy_bL, zy_sL, zy_un, zy_cmp, zy_dup, zy_dup2, zy_pop, zy_pop2, zy_jn, zy_jnn, zy_go, zy_fal, zy_tsw, zy_lsw, zy_get, zy_put, zy_ald, zy_ast, zy_len, zy_newa, zy_new, zy_cal, zy_ret, zy_tak, zy_cst, zy_acp, zy_oini, zy_cln, zy_thr, zy_bad, zy_lco, zy_if0, zy_ic0, zy_if1, zy_ic1, zy_if2, zy_ic2, zy_if3, zy_ic3, zy_if4, zy_ic4, zy_if5, zy_ic5, zK_go, zK_to, zK_end, zK_callH, zK_iteC, zK_none, zsLd, zsSt, zsInc, zsBI, zsBL, zsSL, zsUn, zsCmp, zsDup, zsDup2, zsPop, zsPop2, zsJn, zsTsw, zsLsw, zsGet, zsPut, zsAld, zsAst, zsLen, zsNewa, zsCal, zsRet, zsCst, zsAcp, zsOini, zsCln, zsLco, zsThr, zxBI, zxBL, zxSL, zxU, zset1, zset2, zclr, zcat, zmake_mk, zcomp, zH_i, zH_l, zH_r, zH_u, zH_n, List.set_cons_zero, List.set_cons_succ, List.getElem?_cons_zero, List.getElem?_cons_succ, List.length_cons, List.length_nil, List.take_succ_cons, List.take_zero, List.drop_succ_cons, List.drop_zero, List.reverse_cons, List.reverse_nil, List.nil_append, List.cons_append, List.map_cons, List.map_nil, List.sum_cons, List.sum_nil, Option.toList_some, Option.toList_none, Value.category, Nat.reduceAdd, Nat.reduceMul, Nat.reduceMod, Nat.reduceDiv, Nat.reduceSub, Nat.reduceLT, Nat.reduceLeDiff, Nat.reduceEqDiff, Nat.zero_le, Nat.le_refl, Int32.reduceToNatClampNeg, Int32.reduceLT, Int32.reduceLE, Int32.reduceAdd, Int32.reduceSub, Int32.reduceMul, ↓reduceIte, reduceCtorEq, Nat.add_zero, Nat.zero_add, true_or, or_true, false_or, or_false, true_and, and_true, false_and, and_false, not_true_eq_false, not_false_eq_true, if_true, if_false, true_implies, false_implies, implies_true, forall_const, false_imp_iff, true_imp_iff, va_rf, zlay, zent, List.replicate_zero, List.append_nil, List.replicate_succ, List.length_append, ne_eq, Option.some.injEq, Value.int.injEq, Value.long.injEq, Int32.reduceOfNat, Int32.reduceToInt, Int.reduceLT, Int.reduceLE, Int.reduceSub, Int.reduceToNat, Int.reduceAdd, Int.reduceNeg, Int32.reduceDiv, Int64.reduceAdd, Int64.reduceSub, lg_cmp_ge, lg_cmp_le, lg_cmp_gt, lg_cmp_lt, lg_cmp_eq, wlt_t, wlt_f, wle_t, wle_f, wmod, wI_lt, wI_le, wI_eq, wI_neg, wI_pos, wI_cl, wI_ge, wI_po, w64_lt, w64_le, w64_eq, w64_lt0, w64_le0, w64_eq0, w64_32, zc317, zc319, wI_add, wI_a1, wI_s1, wI_e0, wI_m8, wI_m128, wI_m64, wI_m190, not_true_eq_false, not_false_eq_true, sP_3118_1 hS, sP_3118_4 hS, sP_3118_5 hS, sP_3118_6 hS, sP_3118_8 hS, sP_3118_9 hS, sP_3118_10 hS, sP_3118_61 hS, sP_4301_2 hS, sP_4301_3 hS, sP_4301_6 hS, sP_4301_8 hS, sP_4301_10 hS, sP_4301_15 hS, sN_3151 hS, sN_3184 hS, sN_3216 hS, sN_3248 hS, sN_3312 hS, sN_3345 hS, sN_3375 hS, sN_4368 hS, sN_4401 hS, sN_4495 hS, sN_4528 hS, sN_4559 hS, sN_4592 hS, sN_6417 hS]
        exact q
      · rw [zfl_ne (by decide), zu_nj (by omega), zu_nj (by omega)]
        exact C3 x hx
      · unfold zfl
        rw [if_neg (by omega), zuR_ne (by decide)]
        exact C4 x hx
      · rw [zfl_ne (by decide)]
        by_cases hji : j = i
        · rw [hji, zu_at]
        · rw [zu_nj (by omega)]
          exact (C5 j (by omega)).1
      · by_cases hji : j = i
        · rw [hji, zu_at]
        · rw [zu_nj (by omega)]
          exact (C5 j (by omega)).2.1
      · unfold zfl
        by_cases hji : j = i
        · rw [if_pos (by omega), zuR_ne (by decide), C1 4495 (by decide) (by decide), hji]
          congr 3
          omega
        · rw [if_neg (by omega), zuR_ne (by decide)]
          exact (C5 j (by omega)).2.2 q hq) 64 0 (by omega)
    rw [zfl_0] at q0
    rw [zo256_8]
    simp (decide := true) (disch := omega) only [f18, fo, f3, f2, f4, zuR_ne, zi256, zt256, zo256_0, zo256_1, zo256_2, zo256_3, zo256_4, zo256_5, zo256_6, zo256_7, zo256_10, zo256_11, zy_ldI, zy_ldL, zy_ldA, zy_stI, zy_stL, zy_stA, zy_cI, zy_cL, zy_nul, zy_inc, zy_bI, zy_bL, zy_sL, zy_un, zy_cmp, zy_dup, zy_dup2, zy_pop, zy_pop2, zy_jn, zy_jnn, zy_go, zy_fal, zy_tsw, zy_lsw, zy_get, zy_put, zy_ald, zy_ast, zy_len, zy_newa, zy_new, zy_cal, zy_ret, zy_tak, zy_cst, zy_acp, zy_oini, zy_cln, zy_thr, zy_bad, zy_lco, zy_if0, zy_ic0, zy_if1, zy_ic1, zy_if2, zy_ic2, zy_if3, zy_ic3, zy_if4, zy_ic4, zy_if5, zy_ic5, zK_go, zK_to, zK_end, zK_callH, zK_iteC, zK_none, zsLd, zsSt, zsInc, zsBI, zsBL, zsSL, zsUn, zsCmp, zsDup, zsDup2, zsPop, zsPop2, zsJn, zsTsw, zsLsw, zsGet, zsPut, zsAld, zsAst, zsLen, zsNewa, zsCal, zsRet, zsCst, zsAcp, zsOini, zsCln, zsLco, zsThr, zxBI, zxBL, zxSL, zxU, zset1, zset2, zclr, zcat, zmake_mk, zcomp, zH_i, zH_l, zH_r, zH_u, zH_n, List.set_cons_zero, List.set_cons_succ, List.getElem?_cons_zero, List.getElem?_cons_succ, List.length_cons, List.length_nil, List.take_succ_cons, List.take_zero, List.drop_succ_cons, List.drop_zero, List.reverse_cons, List.reverse_nil, List.nil_append, List.cons_append, List.map_cons, List.map_nil, List.sum_cons, List.sum_nil, Option.toList_some, Option.toList_none, Value.category, Nat.reduceAdd, Nat.reduceMul, Nat.reduceMod, Nat.reduceDiv, Nat.reduceSub, Nat.reduceLT, Nat.reduceLeDiff, Nat.reduceEqDiff, Nat.zero_le, Nat.le_refl, Int32.reduceToNatClampNeg, Int32.reduceLT, Int32.reduceLE, Int32.reduceAdd, Int32.reduceSub, Int32.reduceMul, ↓reduceIte, reduceCtorEq, Nat.add_zero, Nat.zero_add, true_or, or_true, false_or, or_false, true_and, and_true, false_and, and_false, not_true_eq_false, not_false_eq_true, if_true, if_false, true_implies, false_implies, implies_true, forall_const, false_imp_iff, true_imp_iff, va_rf, zlay, zent, List.replicate_zero, List.append_nil, List.replicate_succ, List.length_append, ne_eq, Option.some.injEq, Value.int.injEq, Value.long.injEq, Int32.reduceOfNat, Int32.reduceToInt, Int.reduceLT, Int.reduceLE, Int.reduceSub, Int.reduceToNat, Int.reduceAdd, Int.reduceNeg, Int32.reduceDiv, Int64.reduceAdd, Int64.reduceSub, lg_cmp_ge, lg_cmp_le, lg_cmp_gt, lg_cmp_lt, lg_cmp_eq, wlt_t, wlt_f, wle_t, wle_f, wmod, wI_lt, wI_le, wI_eq, wI_neg, wI_pos, wI_cl, wI_ge, wI_po, w64_lt, w64_le, w64_eq, w64_lt0, w64_le0, w64_eq0, w64_32, zc317, zc319, wI_add, wI_a1, wI_s1, wI_e0, wI_m8, wI_m128, wI_m64, wI_m190, not_true_eq_false, not_false_eq_true, sP_3118_1 hS, sP_3118_4 hS, sP_3118_5 hS, sP_3118_6 hS, sP_3118_8 hS, sP_3118_9 hS, sP_3118_10 hS, sP_3118_61 hS, sP_4301_2 hS, sP_4301_3 hS, sP_4301_6 hS, sP_4301_8 hS, sP_4301_10 hS, sP_4301_15 hS, sN_3151 hS, sN_3184 hS, sN_3216 hS, sN_3248 hS, sN_3312 hS, sN_3345 hS, sN_3375 hS, sN_4368 hS, sN_4401 hS, sN_4495 hS, sN_4528 hS, sN_4559 hS, sN_4592 hS, sN_6417 hS]
    exact q0
/-- what a script that has been registered leaves in the reference -/
def zRg (I : zI) (J : zJ) (I' : zI) (J' : zJ) (t s k dm : Nat) (K : Nat → Nat) (V : Nat → Int64) (S : Nat → Nat) : Prop :=
  ((∀ c, c ≠ 3118 → c ≠ 3184 → c ≠ 3216 → c ≠ 3248 → c ≠ 3312 → c ≠ 3375 → ¬ (4301 ≤ c ∧ c < 4900) → I' c = I c) ∧ (∀ c, c ≠ 3345 → c ≠ 4401 → J' c = J c) ∧ (∀ j, j ≠ 2 → j ≠ 3 → j ≠ 63 → I' 3118 j = I 3118 j) ∧ I' 3118 2 = 0 ∧ I' 3118 3 = nI (s + 1)) ∧
  ((∀ x, x ≠ s → I' 3184 x = I 3184 x ∧ I' 3216 x = I 3216 x ∧ I' 3248 x = I 3248 x) ∧ I' 3184 s = nI k ∧ I' 3216 s = nI dm ∧ I' 3248 s = nI t) ∧
  ((∀ x, x < 190 * s → I' 3312 x = I 3312 x ∧ J' 3345 x = J 3345 x) ∧ ∀ x, x < 64 * (190 * s) → I' 3375 x = I 3375 x) ∧
  ∀ j, j < k → I' 3312 (190 * s + j) = nI (K j) ∧ J' 3345 (190 * s + j) = V j ∧ (K j = 8 → ∀ w, w ≤ 64 → V j = (nI w).toInt64 → ∀ i, i < w → I' 3375 (64 * (190 * s + j) + i) = I 3151 (S j + i))
/-- .. and what the attempt leaves -/
def zRz (I : zI) (J : zJ) (I' : zI) (J' : zJ) : Prop := (∀ c, c ≠ 3118 → ¬ (4301 ≤ c ∧ c < 4900) → I' c = I c) ∧ (∀ c, c ≠ 4401 → J' c = J c) ∧ (∀ j, j ≠ 2 → j ≠ 63 → I' 3118 j = I 3118 j) ∧ I' 3118 2 = 0
theorem zMx_z {I I0 I' : zI} {J J' : zJ} (h : zRz I J I0 J) (h' : zMx I0 I' J J') : zRz I J I' J' := by
  have e : I' 3118 = I0 3118 := h'.1 3118 (by decide) (by decide) (by decide) (by decide) (by decide) (by decide) (by decide) (by decide) (by decide) (by decide) (by decide)
  refine ⟨fun c x1 x2 => ?_, fun c x1 => by rw [h'.2 c x1], fun j x1 x2 => by rw [e]; exact h.2.2.1 j x1 x2, by rw [e]; exact h.2.2.2⟩
  rw [h'.1 c (by omega) (by omega) (by omega) (by omega) (by omega) (by omega) (by omega) (by omega) (by omega) (by omega) (by omega)]
  exact h.1 c x1 x2
theorem zGf_z {I I0 I' : zI} {J J0 : zJ} (h : zRz I J I0 J0) (h' : zGf I0 I') : zRz I J I' J0 := by
  have e : I' 3118 = I0 3118 := h'.1 3118 (by decide) (by decide) (by decide) (by decide) (by decide) (by decide) (by decide)
  refine ⟨fun c x1 x2 => ?_, h.2.1, fun j x1 x2 => by rw [e]; exact h.2.2.1 j x1 x2, by rw [e]; exact h.2.2.2⟩
  rw [h'.1 c (by omega) (by omega) (by omega) (by omega) (by omega) (by omega) (by omega)]
  exact h.1 c x1 x2
set_option maxRecDepth 20000 in
set_option maxHeartbeats 8000000 in
theorem e256 {I : zI} {J : zJ} {B : Nat → Nat} (hS : zStat P N) (ht : t ≤ 4096) (v2 : I 3118 2 = nI t) (v3 : I 3118 3 = nI s) (hs : s ≤ 32) (hby : ∀ j, j < t → (I 3151 j).toInt8.toInt32 = I 3151 j) (hB : ∀ j, j < t → zby' (I 3151 j) = B j)
    (hF : ∀ I' J', ¬ zRk B t s → zRz I J I' J' → Q (some (.int (zRv B t s))) (I', J', P, N, n, z))
    (hO : zRk B t s → ∀ I' J', zRg I J I' J' t s (zTm B t).2.1 (zTm B t).2.2.2.1 (zTm B t).2.2.2.2.2.1 (zTm B t).2.2.2.2.2.2.1 (zTm B t).2.2.2.2.2.2.2 → Q (some (.int (nI s))) (I', J', P, N, n, z)) :
    zC 256 [.ref 3118] (I, J, P, N, n, z) Q := by
  have n0 : nI 0 = 0 := rfl
  have et : (nI t = 0) = (t = 0) := wI_e0 (by omega)
  by_cases ht0 : t = 0
  · have e1 : (zTm B t).1 = 1 := by
      rw [ht0]
      show (zPr B 0 201 (0, 0, 0, [(1, 0, -1)], fun _ => 0, fun _ => 0, fun _ => 0)).1 = 1
      have : zNf B 0 0 0 1 0 = 1 := by unfold zNf; rw [if_pos (by omega)]
      rw [zPr_x (by rw [this]; decide), this]
    have nk : ¬ zRk B t s := fun h => by rw [h.1] at e1; cases e1
    have ev : zRv B t s = -1 := by
      unfold zRv
      rw [e1, if_pos (by decide)]
      rfl
    rw [ev] at hF
    have q := hF (zu (zu I 3118 63 0) 3118 2 0) J nk ⟨fun c x1 _ => by rw [zuR_ne x1, zuR_ne x1], fun _ _ => rfl, fun j x1 x2 => by rw [zu_nj x1, zu_nj x2], zu_at⟩
    simp (decide := true) (disch := omega) only [v2, zu_nj, et, ht0, zi256, zt256, zo256_0, zo256_1, zo256_3, zo256_4, zo256_5, zo256_6, zo256_7, zo256_8, zo256_9, zo256_10, zo256_11, zy_ldI, zy_ldL, zy_ldA, zy_stI, zy_stL, zy_stA, zy_cI, zy_cL, zy_nul, zy_inc, zy_bI, zy_bL, zy_sL, zy_un, zy_cmp, zy_dup, zy_dup2, zy_pop, zy_pop2, zy_jn, zy_jnn, zy_go, zy_fal, zy_tsw, zy_lsw, zy_get, zy_put, zy_ald, zy_ast, zy_len, zy_newa, zy_new, zy_cal, zy_ret, zy_tak, zy_cst, zy_acp, zy_oini, zy_cln, zy_thr, zy_bad, zy_lco, zy_if0, zy_ic0, zy_if1, zy_ic1, zy_if2, zy_ic2, zy_if3, zy_ic3, zy_if4, zy_ic4, zy_if5, zy_ic5, zK_go, zK_to, zK_end, zK_callH, zK_iteC, zK_none, zsLd, zsSt, zsInc, zsBI, zsBL, zsSL, zsUn, zsCmp, zsDup, zsDup2, zsPop, zsPop2, zsJn, zsTsw, zsLsw, zsGet, zsPut, zsAld, zsAst, zsLen, zsNewa, zsCal, zsRet, zsCst, zsAcp, zsOini, zsCln, zsLco, zsThr, zxBI, zxBL, zxSL, zxU, zset1, zset2, zclr, zcat, zmake_mk, zcomp, zH_i, zH_l, zH_r, zH_u, zH_n, List.set_cons_zero, List.set_cons_succ, List.getElem?_cons_zero, List.getElem?_cons_succ, List.length_cons, List.length_nil, List.take_succ_cons, List.take_zero, List.drop_succ_cons, List.drop_zero, List.reverse_cons, List.reverse_nil, List.nil_append, List.cons_append, List.map_cons, List.map_nil, List.sum_cons, List.sum_nil, Option.toList_some, Option.toList_none, Value.category, Nat.reduceAdd, Nat.reduceMul, Nat.reduceMod, Nat.reduceDiv, Nat.reduceSub, Nat.reduceLT, Nat.reduceLeDiff, Nat.reduceEqDiff, Nat.zero_le, Nat.le_refl, Int32.reduceToNatClampNeg, Int32.reduceLT, Int32.reduceLE, Int32.reduceAdd, Int32.reduceSub, Int32.reduceMul, ↓reduceIte, reduceCtorEq, Nat.add_zero, Nat.zero_add, true_or, or_true, false_or, or_false, true_and, and_true, false_and, and_false, not_true_eq_false, not_false_eq_true, if_true, if_false, true_implies, false_implies, implies_true, forall_const, false_imp_iff, true_imp_iff, va_rf, zlay, zent, List.replicate_zero, List.append_nil, List.replicate_succ, List.length_append, ne_eq, Option.some.injEq, Value.int.injEq, Value.long.injEq, Int32.reduceOfNat, Int32.reduceToInt, Int.reduceLT, Int.reduceLE, Int.reduceSub, Int.reduceToNat, Int.reduceAdd, Int.reduceNeg, Int32.reduceDiv, Int64.reduceAdd, Int64.reduceSub, lg_cmp_ge, lg_cmp_le, lg_cmp_gt, lg_cmp_lt, lg_cmp_eq, wlt_t, wlt_f, wle_t, wle_f, wmod, wI_lt, wI_le, wI_eq, wI_neg, wI_pos, wI_cl, wI_ge, wI_po, w64_lt, w64_le, w64_eq, w64_lt0, w64_le0, w64_eq0, w64_32, zc317, zc319, wI_add, wI_a1, wI_s1, wI_e0, wI_m8, wI_m128, wI_m64, wI_m190, not_true_eq_false, not_false_eq_true, sP_3118_1 hS, sP_3118_4 hS, sP_3118_5 hS, sP_3118_6 hS, sP_3118_8 hS, sP_3118_9 hS, sP_3118_10 hS, sP_3118_61 hS, sP_4301_2 hS, sP_4301_3 hS, sP_4301_6 hS, sP_4301_8 hS, sP_4301_10 hS, sP_4301_15 hS, sN_3151 hS, sN_3184 hS, sN_3216 hS, sN_3248 hS, sN_3312 hS, sN_3345 hS, sN_3375 hS, sN_4368 hS, sN_4401 hS, sN_4495 hS, sN_4528 hS, sN_4559 hS, sN_4592 hS, sN_6417 hS]
    exact q
  · have p := fun (Q : Option Value → zS → Prop) => m235 (I := zu (zu I 3118 63 0) 3118 2 0) (J := J) (P := P) (N := N) (n := n) (z := z) hS Q
    have I1d : ∃ I1, I1 = zu (zu (zu (zfl (zu (zu (zu I 3118 63 0) 3118 2 0) 4301 0 0) 4338 0 200 (fun _ => 0)) 4301 7 0) 4301 9 0) 4301 11 (nI t) := ⟨_, rfl⟩
    obtain ⟨I1, hI1⟩ := I1d
    have y1 : I1 3151 = I 3151 := by rw [hI1]; simp (disch := omega) only [zuR_ne, zfl_ne]
    have y2 : ∀ c, c ≠ 3118 → ¬ (4301 ≤ c ∧ c < 4900) → I1 c = I c := fun c x1 x2 => by
      rw [hI1]
      simp (disch := omega) only [zuR_ne, zfl_ne]
    have y3 : ∀ j, j ≠ 2 → j ≠ 63 → I1 3118 j = I 3118 j := fun j x1 x2 => by
      rw [hI1]
      simp (disch := omega) only [zuR_ne, zfl_ne, zu_nj]
    have y4 : I1 3118 2 = 0 := by
      rw [hI1]
      simp (disch := omega) only [zuR_ne, zfl_ne, zu_at]
    have y5 : I1 4301 7 = 0 ∧ I1 4301 9 = 0 ∧ I1 4301 11 = nI t := by
      rw [hI1]
      simp (disch := omega) only [zuR_ne, zfl_ne, zu_nj, zu_at, and_self]
    have y6 : ∀ j, j < 200 → I1 4338 j = 0 := fun j hj => by
      rw [hI1]
      simp (disch := omega) only [zuR_ne]
      unfold zfl
      rw [if_pos (by omega)]
    have I2d : ∃ I2, I2 = zu (zfl I1 4559 0 t (I1 3151)) 4301 12 0 := ⟨_, rfl⟩
    obtain ⟨I2, hI2⟩ := I2d
    have z1 : zRz I J I2 J := by
      refine ⟨fun c x1 x2 => ?_, fun _ _ => rfl, fun j x1 x2 => ?_, ?_⟩
      · rw [hI2, zuR_ne (by omega), zfl_ne (by omega)]
        exact y2 c x1 x2
      · rw [hI2, zuR_ne (by decide), zfl_ne (by decide)]
        exact y3 j x1 x2
      · rw [hI2, zuR_ne (by decide), zfl_ne (by decide)]
        exact y4
    have z2 : ∀ j, j < t → I2 4559 j = I 3151 j := fun j hj => by
      rw [hI2, zuR_ne (by decide)]
      unfold zfl
      rw [if_pos (by omega), y1]
      congr 1
    have eT : zTm (fun j => zby' (I2 4559 j)) t = zTm B t := zTm_B (fun j hj => by show zby' (I2 4559 j) = B j; rw [z2 j hj, hB j hj])
    have hf7 : (zTm B t).1 < 7 := zPr_f (B := B) (t := t) 201 (0, 0, 0, [(1, 0, -1)], fun _ => 0, fun _ => 0, fun _ => 0)
    have q := l256 (I := I1) (J := J) (P := P) (N := N) (n := n) (z := z) (Q := Q) (t := t) (u3 := none) (u4 := none) (u5 := none) (u6 := none) (u7 := none) hS ht (by rw [y1]; exact hby) (by
      rw [zo256_3]
      simp (decide := true) (disch := omega) only [zi256, zt256, zo256_0, zo256_1, zo256_4, zo256_5, zo256_6, zo256_7, zo256_9, zo256_10, zo256_11, zy_ldI, zy_ldL, zy_ldA, zy_stI, zy_stL, zy_stA, zy_cI, zy_cL, zy_nul, zy_inc, zy_bI, zy_bL, zy_sL, zy_un, zy_cmp, zy_dup, zy_dup2, zy_pop, zy_pop2, zy_jn, zy_jnn, zy_go, zy_fal, zy_tsw, zy_lsw, zy_get, zy_put, zy_ald, zy_ast, zy_len, zy_newa, zy_new, zy_cal, zy_ret, zy_tak, zy_cst, zy_acp, zy_oini, zy_cln, zy_thr, zy_bad, zy_lco, zy_if0, zy_ic0, zy_if1, zy_ic1, zy_if2, zy_ic2, zy_if3, zy_ic3, zy_if4, zy_ic4, zy_if5, zy_ic5, zK_go, zK_to, zK_end, zK_callH, zK_iteC, zK_none, zsLd, zsSt, zsInc, zsBI, zsBL, zsSL, zsUn, zsCmp, zsDup, zsDup2, zsPop, zsPop2, zsJn, zsTsw, zsLsw, zsGet, zsPut, zsAld, zsAst, zsLen, zsNewa, zsCal, zsRet, zsCst, zsAcp, zsOini, zsCln, zsLco, zsThr, zxBI, zxBL, zxSL, zxU, zset1, zset2, zclr, zcat, zmake_mk, zcomp, zH_i, zH_l, zH_r, zH_u, zH_n, List.set_cons_zero, List.set_cons_succ, List.getElem?_cons_zero, List.getElem?_cons_succ, List.length_cons, List.length_nil, List.take_succ_cons, List.take_zero, List.drop_succ_cons, List.drop_zero, List.reverse_cons, List.reverse_nil, List.nil_append, List.cons_append, List.map_cons, List.map_nil, List.sum_cons, List.sum_nil, Option.toList_some, Option.toList_none, Value.category, Nat.reduceAdd, Nat.reduceMul, Nat.reduceMod, Nat.reduceDiv, Nat.reduceSub, Nat.reduceLT, Nat.reduceLeDiff, Nat.reduceEqDiff, Nat.zero_le, Nat.le_refl, Int32.reduceToNatClampNeg, Int32.reduceLT, Int32.reduceLE, Int32.reduceAdd, Int32.reduceSub, Int32.reduceMul, ↓reduceIte, reduceCtorEq, Nat.add_zero, Nat.zero_add, true_or, or_true, false_or, or_false, true_and, and_true, false_and, and_false, not_true_eq_false, not_false_eq_true, if_true, if_false, true_implies, false_implies, implies_true, forall_const, false_imp_iff, true_imp_iff, va_rf, zlay, zent, List.replicate_zero, List.append_nil, List.replicate_succ, List.length_append, ne_eq, Option.some.injEq, Value.int.injEq, Value.long.injEq, Int32.reduceOfNat, Int32.reduceToInt, Int.reduceLT, Int.reduceLE, Int.reduceSub, Int.reduceToNat, Int.reduceAdd, Int.reduceNeg, Int32.reduceDiv, Int64.reduceAdd, Int64.reduceSub, lg_cmp_ge, lg_cmp_le, lg_cmp_gt, lg_cmp_lt, lg_cmp_eq, wlt_t, wlt_f, wle_t, wle_f, wmod, wI_lt, wI_le, wI_eq, wI_neg, wI_pos, wI_cl, wI_ge, wI_po, w64_lt, w64_le, w64_eq, w64_lt0, w64_le0, w64_eq0, w64_32, zc317, zc319, wI_add, wI_a1, wI_s1, wI_e0, wI_m8, wI_m128, wI_m64, wI_m190, not_true_eq_false, not_false_eq_true, sP_3118_1 hS, sP_3118_4 hS, sP_3118_5 hS, sP_3118_6 hS, sP_3118_8 hS, sP_3118_9 hS, sP_3118_10 hS, sP_3118_61 hS, sP_4301_2 hS, sP_4301_3 hS, sP_4301_6 hS, sP_4301_8 hS, sP_4301_10 hS, sP_4301_15 hS, sN_3151 hS, sN_3184 hS, sN_3216 hS, sN_3248 hS, sN_3312 hS, sN_3345 hS, sN_3375 hS, sN_4368 hS, sN_4401 hS, sN_4495 hS, sN_4528 hS, sN_4559 hS, sN_4592 hS, sN_6417 hS]
      rw [← hI2]
      refine e244 (T := I2 4559) hS ht (by omega) (fun j hj => by rw [z2 j hj]; exact hby j hj) rfl (by rw [hI2]; exact zu_at) (by rw [hI2]; simp (disch := omega) only [zu_nj, zfl_ne]; exact y5.2.2) (by rw [hI2]; simp (disch := omega) only [zu_nj, zfl_ne]; exact y5.1) (by rw [hI2]; simp (disch := omega) only [zu_nj, zfl_ne]; exact y5.2.1) (fun j hj => by rw [hI2]; simp (disch := omega) only [zuR_ne, zfl_ne]; exact y6 j hj) (fun hf I' J' x1 => ?_) (fun I' J' k a dm K V S D Lb lk x0 x1 x2 R x3 x4 x5 => ?_)
      · rw [eT] at hf ⊢
        have nk : ¬ zRk B t s := fun h => hf h.1
        have ev : zRv B t s = -(nI (zTm B t).1) := by unfold zRv; rw [if_pos hf]
        have hq := hF I' J' nk (zMx_z z1 x1)
        rw [ev] at hq
        have g : ¬ nI (zTm B t).1 ≤ 0 := by rw [wI_po (by omega)]; exact hf
        simp (decide := true) (disch := omega) only [g, zi256, zt256, zo256_0, zo256_1, zo256_4, zo256_5, zo256_6, zo256_7, zo256_9, zo256_10, zo256_11, zy_ldI, zy_ldL, zy_ldA, zy_stI, zy_stL, zy_stA, zy_cI, zy_cL, zy_nul, zy_inc, zy_bI, zy_bL, zy_sL, zy_un, zy_cmp, zy_dup, zy_dup2, zy_pop, zy_pop2, zy_jn, zy_jnn, zy_go, zy_fal, zy_tsw, zy_lsw, zy_get, zy_put, zy_ald, zy_ast, zy_len, zy_newa, zy_new, zy_cal, zy_ret, zy_tak, zy_cst, zy_acp, zy_oini, zy_cln, zy_thr, zy_bad, zy_lco, zy_if0, zy_ic0, zy_if1, zy_ic1, zy_if2, zy_ic2, zy_if3, zy_ic3, zy_if4, zy_ic4, zy_if5, zy_ic5, zK_go, zK_to, zK_end, zK_callH, zK_iteC, zK_none, zsLd, zsSt, zsInc, zsBI, zsBL, zsSL, zsUn, zsCmp, zsDup, zsDup2, zsPop, zsPop2, zsJn, zsTsw, zsLsw, zsGet, zsPut, zsAld, zsAst, zsLen, zsNewa, zsCal, zsRet, zsCst, zsAcp, zsOini, zsCln, zsLco, zsThr, zxBI, zxBL, zxSL, zxU, zset1, zset2, zclr, zcat, zmake_mk, zcomp, zH_i, zH_l, zH_r, zH_u, zH_n, List.set_cons_zero, List.set_cons_succ, List.getElem?_cons_zero, List.getElem?_cons_succ, List.length_cons, List.length_nil, List.take_succ_cons, List.take_zero, List.drop_succ_cons, List.drop_zero, List.reverse_cons, List.reverse_nil, List.nil_append, List.cons_append, List.map_cons, List.map_nil, List.sum_cons, List.sum_nil, Option.toList_some, Option.toList_none, Value.category, Nat.reduceAdd, Nat.reduceMul, Nat.reduceMod, Nat.reduceDiv, Nat.reduceSub, Nat.reduceLT, Nat.reduceLeDiff, Nat.reduceEqDiff, Nat.zero_le, Nat.le_refl, Int32.reduceToNatClampNeg, Int32.reduceLT, Int32.reduceLE, Int32.reduceAdd, Int32.reduceSub, Int32.reduceMul, ↓reduceIte, reduceCtorEq, Nat.add_zero, Nat.zero_add, true_or, or_true, false_or, or_false, true_and, and_true, false_and, and_false, not_true_eq_false, not_false_eq_true, if_true, if_false, true_implies, false_implies, implies_true, forall_const, false_imp_iff, true_imp_iff, va_rf, zlay, zent, List.replicate_zero, List.append_nil, List.replicate_succ, List.length_append, ne_eq, Option.some.injEq, Value.int.injEq, Value.long.injEq, Int32.reduceOfNat, Int32.reduceToInt, Int.reduceLT, Int.reduceLE, Int.reduceSub, Int.reduceToNat, Int.reduceAdd, Int.reduceNeg, Int32.reduceDiv, Int64.reduceAdd, Int64.reduceSub, lg_cmp_ge, lg_cmp_le, lg_cmp_gt, lg_cmp_lt, lg_cmp_eq, wlt_t, wlt_f, wle_t, wle_f, wmod, wI_lt, wI_le, wI_eq, wI_neg, wI_pos, wI_cl, wI_ge, wI_po, w64_lt, w64_le, w64_eq, w64_lt0, w64_le0, w64_eq0, w64_32, zc317, zc319, wI_add, wI_a1, wI_s1, wI_e0, wI_m8, wI_m128, wI_m64, wI_m190, not_true_eq_false, not_false_eq_true, sP_3118_1 hS, sP_3118_4 hS, sP_3118_5 hS, sP_3118_6 hS, sP_3118_8 hS, sP_3118_9 hS, sP_3118_10 hS, sP_3118_61 hS, sP_4301_2 hS, sP_4301_3 hS, sP_4301_6 hS, sP_4301_8 hS, sP_4301_10 hS, sP_4301_15 hS, sN_3151 hS, sN_3184 hS, sN_3216 hS, sN_3248 hS, sN_3312 hS, sN_3345 hS, sN_3375 hS, sN_4368 hS, sN_4401 hS, sN_4495 hS, sN_4528 hS, sN_4559 hS, sN_4592 hS, sN_6417 hS]
        exact hq
      · rw [eT] at x0
        obtain ⟨⟨r1, r2, r3, r4, r5⟩, ⟨r6, r7⟩, r8⟩ := id R
        have tt := (zTm_t (B := B) (t := t) (by rw [x0])).2
        unfold zRk zRv at hF
        unfold zRk at hO
        rw [x0] at hF hO tt
        dsimp only at hF hO tt
        obtain ⟨zz, ll, ww, tt⟩ := tt
        rw [if_neg (fun h => h rfl)] at hF
        obtain ⟨⟨tk1, tk2, tz1, tz2, tz3⟩, tt2, tt3⟩ := id tt
        have zI' := zMx_z z1 x1
        by_cases h7 : a < t
        · rw [if_pos h7] at hF
          have hq := hF I' J' (fun h => h.2.1 h7) zI'
          simp (decide := true) (disch := omega) only [x4, h7, zi256, zt256, zo256_0, zo256_1, zo256_4, zo256_5, zo256_6, zo256_7, zo256_9, zo256_10, zo256_11, zy_ldI, zy_ldL, zy_ldA, zy_stI, zy_stL, zy_stA, zy_cI, zy_cL, zy_nul, zy_inc, zy_bI, zy_bL, zy_sL, zy_un, zy_cmp, zy_dup, zy_dup2, zy_pop, zy_pop2, zy_jn, zy_jnn, zy_go, zy_fal, zy_tsw, zy_lsw, zy_get, zy_put, zy_ald, zy_ast, zy_len, zy_newa, zy_new, zy_cal, zy_ret, zy_tak, zy_cst, zy_acp, zy_oini, zy_cln, zy_thr, zy_bad, zy_lco, zy_if0, zy_ic0, zy_if1, zy_ic1, zy_if2, zy_ic2, zy_if3, zy_ic3, zy_if4, zy_ic4, zy_if5, zy_ic5, zK_go, zK_to, zK_end, zK_callH, zK_iteC, zK_none, zsLd, zsSt, zsInc, zsBI, zsBL, zsSL, zsUn, zsCmp, zsDup, zsDup2, zsPop, zsPop2, zsJn, zsTsw, zsLsw, zsGet, zsPut, zsAld, zsAst, zsLen, zsNewa, zsCal, zsRet, zsCst, zsAcp, zsOini, zsCln, zsLco, zsThr, zxBI, zxBL, zxSL, zxU, zset1, zset2, zclr, zcat, zmake_mk, zcomp, zH_i, zH_l, zH_r, zH_u, zH_n, List.set_cons_zero, List.set_cons_succ, List.getElem?_cons_zero, List.getElem?_cons_succ, List.length_cons, List.length_nil, List.take_succ_cons, List.take_zero, List.drop_succ_cons, List.drop_zero, List.reverse_cons, List.reverse_nil, List.nil_append, List.cons_append, List.map_cons, List.map_nil, List.sum_cons, List.sum_nil, Option.toList_some, Option.toList_none, Value.category, Nat.reduceAdd, Nat.reduceMul, Nat.reduceMod, Nat.reduceDiv, Nat.reduceSub, Nat.reduceLT, Nat.reduceLeDiff, Nat.reduceEqDiff, Nat.zero_le, Nat.le_refl, Int32.reduceToNatClampNeg, Int32.reduceLT, Int32.reduceLE, Int32.reduceAdd, Int32.reduceSub, Int32.reduceMul, ↓reduceIte, reduceCtorEq, Nat.add_zero, Nat.zero_add, true_or, or_true, false_or, or_false, true_and, and_true, false_and, and_false, not_true_eq_false, not_false_eq_true, if_true, if_false, true_implies, false_implies, implies_true, forall_const, false_imp_iff, true_imp_iff, va_rf, zlay, zent, List.replicate_zero, List.append_nil, List.replicate_succ, List.length_append, ne_eq, Option.some.injEq, Value.int.injEq, Value.long.injEq, Int32.reduceOfNat, Int32.reduceToInt, Int.reduceLT, Int.reduceLE, Int.reduceSub, Int.reduceToNat, Int.reduceAdd, Int.reduceNeg, Int32.reduceDiv, Int64.reduceAdd, Int64.reduceSub, lg_cmp_ge, lg_cmp_le, lg_cmp_gt, lg_cmp_lt, lg_cmp_eq, wlt_t, wlt_f, wle_t, wle_f, wmod, wI_lt, wI_le, wI_eq, wI_neg, wI_pos, wI_cl, wI_ge, wI_po, w64_lt, w64_le, w64_eq, w64_lt0, w64_le0, w64_eq0, w64_32, zc317, zc319, wI_add, wI_a1, wI_s1, wI_e0, wI_m8, wI_m128, wI_m64, wI_m190, not_true_eq_false, not_false_eq_true, sP_3118_1 hS, sP_3118_4 hS, sP_3118_5 hS, sP_3118_6 hS, sP_3118_8 hS, sP_3118_9 hS, sP_3118_10 hS, sP_3118_61 hS, sP_4301_2 hS, sP_4301_3 hS, sP_4301_6 hS, sP_4301_8 hS, sP_4301_10 hS, sP_4301_15 hS, sN_3151 hS, sN_3184 hS, sN_3216 hS, sN_3248 hS, sN_3312 hS, sN_3345 hS, sN_3375 hS, sN_4368 hS, sN_4401 hS, sN_4495 hS, sN_4528 hS, sN_4559 hS, sN_4592 hS, sN_6417 hS]
          exact hq
        · rw [if_neg h7] at hF
          have t0 : I' 4528 0 = 0 := by rw [x5, (r8 0 (by omega)).1.1]; rfl
          have hge : t ≤ a := by omega
          simp (decide := true) (disch := omega) only [x4, hge, t0, zi256, zt256, zo256_0, zo256_1, zo256_4, zo256_5, zo256_6, zo256_7, zo256_9, zo256_10, zo256_11, zy_ldI, zy_ldL, zy_ldA, zy_stI, zy_stL, zy_stA, zy_cI, zy_cL, zy_nul, zy_inc, zy_bI, zy_bL, zy_sL, zy_un, zy_cmp, zy_dup, zy_dup2, zy_pop, zy_pop2, zy_jn, zy_jnn, zy_go, zy_fal, zy_tsw, zy_lsw, zy_get, zy_put, zy_ald, zy_ast, zy_len, zy_newa, zy_new, zy_cal, zy_ret, zy_tak, zy_cst, zy_acp, zy_oini, zy_cln, zy_thr, zy_bad, zy_lco, zy_if0, zy_ic0, zy_if1, zy_ic1, zy_if2, zy_ic2, zy_if3, zy_ic3, zy_if4, zy_ic4, zy_if5, zy_ic5, zK_go, zK_to, zK_end, zK_callH, zK_iteC, zK_none, zsLd, zsSt, zsInc, zsBI, zsBL, zsSL, zsUn, zsCmp, zsDup, zsDup2, zsPop, zsPop2, zsJn, zsTsw, zsLsw, zsGet, zsPut, zsAld, zsAst, zsLen, zsNewa, zsCal, zsRet, zsCst, zsAcp, zsOini, zsCln, zsLco, zsThr, zxBI, zxBL, zxSL, zxU, zset1, zset2, zclr, zcat, zmake_mk, zcomp, zH_i, zH_l, zH_r, zH_u, zH_n, List.set_cons_zero, List.set_cons_succ, List.getElem?_cons_zero, List.getElem?_cons_succ, List.length_cons, List.length_nil, List.take_succ_cons, List.take_zero, List.drop_succ_cons, List.drop_zero, List.reverse_cons, List.reverse_nil, List.nil_append, List.cons_append, List.map_cons, List.map_nil, List.sum_cons, List.sum_nil, Option.toList_some, Option.toList_none, Value.category, Nat.reduceAdd, Nat.reduceMul, Nat.reduceMod, Nat.reduceDiv, Nat.reduceSub, Nat.reduceLT, Nat.reduceLeDiff, Nat.reduceEqDiff, Nat.zero_le, Nat.le_refl, Int32.reduceToNatClampNeg, Int32.reduceLT, Int32.reduceLE, Int32.reduceAdd, Int32.reduceSub, Int32.reduceMul, ↓reduceIte, reduceCtorEq, Nat.add_zero, Nat.zero_add, true_or, or_true, false_or, or_false, true_and, and_true, false_and, and_false, not_true_eq_false, not_false_eq_true, if_true, if_false, true_implies, false_implies, implies_true, forall_const, false_imp_iff, true_imp_iff, va_rf, zlay, zent, List.replicate_zero, List.append_nil, List.replicate_succ, List.length_append, ne_eq, Option.some.injEq, Value.int.injEq, Value.long.injEq, Int32.reduceOfNat, Int32.reduceToInt, Int.reduceLT, Int.reduceLE, Int.reduceSub, Int.reduceToNat, Int.reduceAdd, Int.reduceNeg, Int32.reduceDiv, Int64.reduceAdd, Int64.reduceSub, lg_cmp_ge, lg_cmp_le, lg_cmp_gt, lg_cmp_lt, lg_cmp_eq, wlt_t, wlt_f, wle_t, wle_f, wmod, wI_lt, wI_le, wI_eq, wI_neg, wI_pos, wI_cl, wI_ge, wI_po, w64_lt, w64_le, w64_eq, w64_lt0, w64_le0, w64_eq0, w64_32, zc317, zc319, wI_add, wI_a1, wI_s1, wI_e0, wI_m8, wI_m128, wI_m64, wI_m190, not_true_eq_false, not_false_eq_true, sP_3118_1 hS, sP_3118_4 hS, sP_3118_5 hS, sP_3118_6 hS, sP_3118_8 hS, sP_3118_9 hS, sP_3118_10 hS, sP_3118_61 hS, sP_4301_2 hS, sP_4301_3 hS, sP_4301_6 hS, sP_4301_8 hS, sP_4301_10 hS, sP_4301_15 hS, sN_3151 hS, sN_3184 hS, sN_3216 hS, sN_3248 hS, sN_3312 hS, sN_3345 hS, sN_3375 hS, sN_4368 hS, sN_4401 hS, sN_4495 hS, sN_4528 hS, sN_4559 hS, sN_4592 hS, sN_6417 hS]
          refine e234 (z := zz) (l := ll) (w := ww) hS tt (fun j hj => ?_) (fun I3 g1 g2 g3 => ?_)
          · obtain ⟨s0, ⟨s7, s8, s9, s10⟩, s11, s12, -⟩ := r8 j hj
            rw [s11, s12, x3 j hj]
            refine ⟨rfl, ?_⟩
            by_cases hK : K j = 2
            · rw [if_pos ⟨rfl, hK⟩, if_pos hK]
            · rw [if_neg (fun h => hK h.2), if_neg hK]
          have z3 := zGf_z zI' g1
          have c190 : (nI k ≤ 190) = (k ≤ 190) := wI_lec (c := 190)
          by_cases h8 : 190 < k
          · rw [if_pos h8] at hF
            have hq := hF I3 J' (fun h => h.2.2.1 h8) z3
            simp (decide := true) (disch := omega) only [g2, c190, zi256, zt256, zo256_0, zo256_1, zo256_4, zo256_5, zo256_6, zo256_7, zo256_9, zo256_10, zo256_11, zy_ldI, zy_ldL, zy_ldA, zy_stI, zy_stL, zy_stA, zy_cI, zy_cL, zy_nul, zy_inc, zy_bI, zy_bL, zy_sL, zy_un, zy_cmp, zy_dup, zy_dup2, zy_pop, zy_pop2, zy_jn, zy_jnn, zy_go, zy_fal, zy_tsw, zy_lsw, zy_get, zy_put, zy_ald, zy_ast, zy_len, zy_newa, zy_new, zy_cal, zy_ret, zy_tak, zy_cst, zy_acp, zy_oini, zy_cln, zy_thr, zy_bad, zy_lco, zy_if0, zy_ic0, zy_if1, zy_ic1, zy_if2, zy_ic2, zy_if3, zy_ic3, zy_if4, zy_ic4, zy_if5, zy_ic5, zK_go, zK_to, zK_end, zK_callH, zK_iteC, zK_none, zsLd, zsSt, zsInc, zsBI, zsBL, zsSL, zsUn, zsCmp, zsDup, zsDup2, zsPop, zsPop2, zsJn, zsTsw, zsLsw, zsGet, zsPut, zsAld, zsAst, zsLen, zsNewa, zsCal, zsRet, zsCst, zsAcp, zsOini, zsCln, zsLco, zsThr, zxBI, zxBL, zxSL, zxU, zset1, zset2, zclr, zcat, zmake_mk, zcomp, zH_i, zH_l, zH_r, zH_u, zH_n, List.set_cons_zero, List.set_cons_succ, List.getElem?_cons_zero, List.getElem?_cons_succ, List.length_cons, List.length_nil, List.take_succ_cons, List.take_zero, List.drop_succ_cons, List.drop_zero, List.reverse_cons, List.reverse_nil, List.nil_append, List.cons_append, List.map_cons, List.map_nil, List.sum_cons, List.sum_nil, Option.toList_some, Option.toList_none, Value.category, Nat.reduceAdd, Nat.reduceMul, Nat.reduceMod, Nat.reduceDiv, Nat.reduceSub, Nat.reduceLT, Nat.reduceLeDiff, Nat.reduceEqDiff, Nat.zero_le, Nat.le_refl, Int32.reduceToNatClampNeg, Int32.reduceLT, Int32.reduceLE, Int32.reduceAdd, Int32.reduceSub, Int32.reduceMul, ↓reduceIte, reduceCtorEq, Nat.add_zero, Nat.zero_add, true_or, or_true, false_or, or_false, true_and, and_true, false_and, and_false, not_true_eq_false, not_false_eq_true, if_true, if_false, true_implies, false_implies, implies_true, forall_const, false_imp_iff, true_imp_iff, va_rf, zlay, zent, List.replicate_zero, List.append_nil, List.replicate_succ, List.length_append, ne_eq, Option.some.injEq, Value.int.injEq, Value.long.injEq, Int32.reduceOfNat, Int32.reduceToInt, Int.reduceLT, Int.reduceLE, Int.reduceSub, Int.reduceToNat, Int.reduceAdd, Int.reduceNeg, Int32.reduceDiv, Int64.reduceAdd, Int64.reduceSub, lg_cmp_ge, lg_cmp_le, lg_cmp_gt, lg_cmp_lt, lg_cmp_eq, wlt_t, wlt_f, wle_t, wle_f, wmod, wI_lt, wI_le, wI_eq, wI_neg, wI_pos, wI_cl, wI_ge, wI_po, w64_lt, w64_le, w64_eq, w64_lt0, w64_le0, w64_eq0, w64_32, zc317, zc319, wI_add, wI_a1, wI_s1, wI_e0, wI_m8, wI_m128, wI_m64, wI_m190, not_true_eq_false, not_false_eq_true, sP_3118_1 hS, sP_3118_4 hS, sP_3118_5 hS, sP_3118_6 hS, sP_3118_8 hS, sP_3118_9 hS, sP_3118_10 hS, sP_3118_61 hS, sP_4301_2 hS, sP_4301_3 hS, sP_4301_6 hS, sP_4301_8 hS, sP_4301_10 hS, sP_4301_15 hS, sN_3151 hS, sN_3184 hS, sN_3216 hS, sN_3248 hS, sN_3312 hS, sN_3345 hS, sN_3375 hS, sN_4368 hS, sN_4401 hS, sN_4495 hS, sN_4528 hS, sN_4559 hS, sN_4592 hS, sN_6417 hS]
            exact hq
          · rw [if_neg h8] at hF
            have i3 : I3 3118 3 = nI s := by rw [z3.2.2.1 3 (by decide) (by decide)]; exact v3
            have c32 : (nI s = 32) = (s = 32) := wI_eqc (c := 32)
            by_cases h9 : 32 ≤ s
            · rw [if_pos h9] at hF
              have hq := hF I3 J' (fun h => h.2.2.2 h9) z3
              have h9' : s = 32 := by omega
              simp (decide := true) (disch := omega) only [g2, c190, i3, c32, h9', zi256, zt256, zo256_0, zo256_1, zo256_4, zo256_5, zo256_6, zo256_7, zo256_9, zo256_10, zo256_11, zy_ldI, zy_ldL, zy_ldA, zy_stI, zy_stL, zy_stA, zy_cI, zy_cL, zy_nul, zy_inc, zy_bI, zy_bL, zy_sL, zy_un, zy_cmp, zy_dup, zy_dup2, zy_pop, zy_pop2, zy_jn, zy_jnn, zy_go, zy_fal, zy_tsw, zy_lsw, zy_get, zy_put, zy_ald, zy_ast, zy_len, zy_newa, zy_new, zy_cal, zy_ret, zy_tak, zy_cst, zy_acp, zy_oini, zy_cln, zy_thr, zy_bad, zy_lco, zy_if0, zy_ic0, zy_if1, zy_ic1, zy_if2, zy_ic2, zy_if3, zy_ic3, zy_if4, zy_ic4, zy_if5, zy_ic5, zK_go, zK_to, zK_end, zK_callH, zK_iteC, zK_none, zsLd, zsSt, zsInc, zsBI, zsBL, zsSL, zsUn, zsCmp, zsDup, zsDup2, zsPop, zsPop2, zsJn, zsTsw, zsLsw, zsGet, zsPut, zsAld, zsAst, zsLen, zsNewa, zsCal, zsRet, zsCst, zsAcp, zsOini, zsCln, zsLco, zsThr, zxBI, zxBL, zxSL, zxU, zset1, zset2, zclr, zcat, zmake_mk, zcomp, zH_i, zH_l, zH_r, zH_u, zH_n, List.set_cons_zero, List.set_cons_succ, List.getElem?_cons_zero, List.getElem?_cons_succ, List.length_cons, List.length_nil, List.take_succ_cons, List.take_zero, List.drop_succ_cons, List.drop_zero, List.reverse_cons, List.reverse_nil, List.nil_append, List.cons_append, List.map_cons, List.map_nil, List.sum_cons, List.sum_nil, Option.toList_some, Option.toList_none, Value.category, Nat.reduceAdd, Nat.reduceMul, Nat.reduceMod, Nat.reduceDiv, Nat.reduceSub, Nat.reduceLT, Nat.reduceLeDiff, Nat.reduceEqDiff, Nat.zero_le, Nat.le_refl, Int32.reduceToNatClampNeg, Int32.reduceLT, Int32.reduceLE, Int32.reduceAdd, Int32.reduceSub, Int32.reduceMul, ↓reduceIte, reduceCtorEq, Nat.add_zero, Nat.zero_add, true_or, or_true, false_or, or_false, true_and, and_true, false_and, and_false, not_true_eq_false, not_false_eq_true, if_true, if_false, true_implies, false_implies, implies_true, forall_const, false_imp_iff, true_imp_iff, va_rf, zlay, zent, List.replicate_zero, List.append_nil, List.replicate_succ, List.length_append, ne_eq, Option.some.injEq, Value.int.injEq, Value.long.injEq, Int32.reduceOfNat, Int32.reduceToInt, Int.reduceLT, Int.reduceLE, Int.reduceSub, Int.reduceToNat, Int.reduceAdd, Int.reduceNeg, Int32.reduceDiv, Int64.reduceAdd, Int64.reduceSub, lg_cmp_ge, lg_cmp_le, lg_cmp_gt, lg_cmp_lt, lg_cmp_eq, wlt_t, wlt_f, wle_t, wle_f, wmod, wI_lt, wI_le, wI_eq, wI_neg, wI_pos, wI_cl, wI_ge, wI_po, w64_lt, w64_le, w64_eq, w64_lt0, w64_le0, w64_eq0, w64_32, zc317, zc319, wI_add, wI_a1, wI_s1, wI_e0, wI_m8, wI_m128, wI_m64, wI_m190, not_true_eq_false, not_false_eq_true, sP_3118_1 hS, sP_3118_4 hS, sP_3118_5 hS, sP_3118_6 hS, sP_3118_8 hS, sP_3118_9 hS, sP_3118_10 hS, sP_3118_61 hS, sP_4301_2 hS, sP_4301_3 hS, sP_4301_6 hS, sP_4301_8 hS, sP_4301_10 hS, sP_4301_15 hS, sN_3151 hS, sN_3184 hS, sN_3216 hS, sN_3248 hS, sN_3312 hS, sN_3345 hS, sN_3375 hS, sN_4368 hS, sN_4401 hS, sN_4495 hS, sN_4528 hS, sN_4559 hS, sN_4592 hS, sN_6417 hS]
              exact hq
            · have hO := hO ⟨rfl, h7, h8, h9⟩
              have q8 := l256k (P := P) (N := N) (n := n) (z := z) (Q := Q) (I := I3) (J := J') (c := k) (s := s) (u1 := some (.int (nI t))) (u2 := some (.int 0)) (u3 := nI dm) hS (by omega) (by omega) g2 i3 g3 (fun I4 J4 u5 u6 u7 C => by
                obtain ⟨C1, C2, C3, C4, C5⟩ := C
                have i43 : I4 3118 3 = nI s := by rw [C1 3118 (by decide) (by decide)]; exact i3
                have i48 : I4 4301 18 = nI k := by rw [C1 4301 (by decide) (by decide)]; exact g2
                have hq := hO (zu (zu (zu (zu I4 3184 s (nI k)) 3216 s (nI dm)) 3248 s (nI t)) 3118 3 (nI (s + 1))) J4 ⟨⟨fun c a1 a2 a3 a4 a5 a6 a7 => ?_, fun c a1 a2 => ?_, fun j a1 a2 a3 => ?_, ?_, zu_at⟩, ⟨fun x hx => ?_, ?_, ?_, ?_⟩, ⟨fun x hx => ?_, fun x hx => ?_⟩, fun j hj => ?_⟩
                · rw [zo256_11]
                  simp (decide := true) (disch := omega) only [i43, i48, zuR_ne, zu_nj, zu_at, nI_pred, zi256, zt256, zo256_0, zo256_1, zo256_2, zo256_3, zo256_4, zo256_5, zo256_6, zo256_7, zo256_9, zo256_10, zy_ldI, zy_ldL, zy_ldA, zy_stI, zy_stL, zy_stA, zy_cI, zy_cL, zy_nul, zy_inc, zy_bI, zy_bL, zy_sL, zy_un, zy_cmp, zy_dup, zy_dup2, zy_pop, zy_pop2, zy_jn, zy_jnn, zy_go, zy_fal, zy_tsw, zy_lsw, zy_get, zy_put, zy_ald, zy_ast, zy_len, zy_newa, zy_new, zy_cal, zy_ret, zy_tak, zy_cst, zy_acp, zy_oini, zy_cln, zy_thr, zy_bad, zy_lco, zy_if0, zy_ic0, zy_if1, zy_ic1, zy_if2, zy_ic2, zy_if3, zy_ic3, zy_if4, zy_ic4, zy_if5, zy_ic5, zK_go, zK_to, zK_end, zK_callH, zK_iteC, zK_none, zsLd, zsSt, zsInc, zsBI, zsBL, zsSL, zsUn, zsCmp, zsDup, zsDup2, zsPop, zsPop2, zsJn, zsTsw, zsLsw, zsGet, zsPut, zsAld, zsAst, zsLen, zsNewa, zsCal, zsRet, zsCst, zsAcp, zsOini, zsCln, zsLco, zsThr, zxBI, zxBL, zxSL, zxU, zset1, zset2, zclr, zcat, zmake_mk, zcomp, zH_i, zH_l, zH_r, zH_u, zH_n, List.set_cons_zero, List.set_cons_succ, List.getElem?_cons_zero, List.getElem?_cons_succ, List.length_cons, List.length_nil, List.take_succ_cons, List.take_zero, List.drop_succ_cons, List.drop_zero, List.reverse_cons, List.reverse_nil, List.nil_append, List.cons_append, List.map_cons, List.map_nil, List.sum_cons, List.sum_nil, Option.toList_some, Option.toList_none, Value.category, Nat.reduceAdd, Nat.reduceMul, Nat.reduceMod, Nat.reduceDiv, Nat.reduceSub, Nat.reduceLT, Nat.reduceLeDiff, Nat.reduceEqDiff, Nat.zero_le, Nat.le_refl, Int32.reduceToNatClampNeg, Int32.reduceLT, Int32.reduceLE, Int32.reduceAdd, Int32.reduceSub, Int32.reduceMul, ↓reduceIte, reduceCtorEq, Nat.add_zero, Nat.zero_add, true_or, or_true, false_or, or_false, true_and, and_true, false_and, and_false, not_true_eq_false, not_false_eq_true, if_true, if_false, true_implies, false_implies, implies_true, forall_const, false_imp_iff, true_imp_iff, va_rf, zlay, zent, List.replicate_zero, List.append_nil, List.replicate_succ, List.length_append, ne_eq, Option.some.injEq, Value.int.injEq, Value.long.injEq, Int32.reduceOfNat, Int32.reduceToInt, Int.reduceLT, Int.reduceLE, Int.reduceSub, Int.reduceToNat, Int.reduceAdd, Int.reduceNeg, Int32.reduceDiv, Int64.reduceAdd, Int64.reduceSub, lg_cmp_ge, lg_cmp_le, lg_cmp_gt, lg_cmp_lt, lg_cmp_eq, wlt_t, wlt_f, wle_t, wle_f, wmod, wI_lt, wI_le, wI_eq, wI_neg, wI_pos, wI_cl, wI_ge, wI_po, w64_lt, w64_le, w64_eq, w64_lt0, w64_le0, w64_eq0, w64_32, zc317, zc319, wI_add, wI_a1, wI_s1, wI_e0, wI_m8, wI_m128, wI_m64, wI_m190, not_true_eq_false, not_false_eq_true, sP_3118_1 hS, sP_3118_4 hS, sP_3118_5 hS, sP_3118_6 hS, sP_3118_8 hS, sP_3118_9 hS, sP_3118_10 hS, sP_3118_61 hS, sP_4301_2 hS, sP_4301_3 hS, sP_4301_6 hS, sP_4301_8 hS, sP_4301_10 hS, sP_4301_15 hS, sN_3151 hS, sN_3184 hS, sN_3216 hS, sN_3248 hS, sN_3312 hS, sN_3345 hS, sN_3375 hS, sN_4368 hS, sN_4401 hS, sN_4495 hS, sN_4528 hS, sN_4559 hS, sN_4592 hS, sN_6417 hS]
                  exact hq
                · simp (disch := omega) only [zuR_ne]
                  rw [C1 c a5 a6]
                  exact z3.1 c a1 a7
                · rw [C2 c a1]
                  exact z3.2.1 c a2
                · simp (disch := omega) only [zuR_ne, zu_nj]
                  rw [C1 3118 (by decide) (by decide)]
                  exact z3.2.2.1 j a1 a3
                · simp (disch := omega) only [zuR_ne, zu_nj]
                  rw [C1 3118 (by decide) (by decide)]
                  exact z3.2.2.2
                · simp (disch := omega) only [zuR_ne, zu_nj]
                  rw [C1 3184 (by decide) (by decide), C1 3216 (by decide) (by decide), C1 3248 (by decide) (by decide), z3.1 3184 (by decide) (by omega), z3.1 3216 (by decide) (by omega), z3.1 3248 (by decide) (by omega)]
                  exact ⟨rfl, rfl, rfl⟩
                · simp (disch := omega) only [zuR_ne, zu_at]
                · simp (disch := omega) only [zuR_ne, zu_at]
                · simp (disch := omega) only [zuR_ne, zu_at]
                · simp (disch := omega) only [zuR_ne]
                  rw [(C3 x hx).1, (C3 x hx).2, z3.1 3312 (by decide) (by omega), z3.2.1 3345 (by decide)]
                  exact ⟨rfl, rfl⟩
                · simp (disch := omega) only [zuR_ne]
                  rw [C4 x hx, z3.1 3375 (by decide) (by omega)]
                · simp (disch := omega) only [zuR_ne]
                  obtain ⟨c1, c2, c3⟩ := C5 j hj
                  obtain ⟨⟨s1, s2, s3, s4, s5, s6⟩, ⟨s7, s8, s9, s10⟩, s11, s12, s13, s14⟩ := r8 j hj
                  refine ⟨?_, c2.trans s3, fun hK w w1 w2 i hi => ?_⟩
                  · rw [c1, g1.1 4368 (by decide) (by decide) (by decide) (by decide) (by decide) (by decide) (by decide)]
                    exact s2
                  · obtain ⟨x, e1, e2, e3⟩ := (tt2 j hj).2.2.2.2.2.2.2.2.2.2.2 hK
                    have hwx : w = x := by
                      have := w64_inj (w2.symm.trans e2)
                      rw [wI_eq (by omega) (by omega)] at this
                      exact this
                    rw [c3 i (by omega), g1.1 4495 (by decide) (by decide) (by decide) (by decide) (by decide) (by decide) (by decide), s14 hK w w1 w2 i hi, z2 _ (by omega)]
                    exact hby _ (by omega)) k 0 I3 J' none none none (by omega) ⟨fun _ _ _ => rfl, fun _ _ => rfl, fun _ _ => ⟨rfl, rfl⟩, fun _ _ => rfl, fun j hj => by omega⟩
              have h9' : ¬ s = 32 := by omega
              simp (decide := true) (disch := omega) only [g2, c190, i3, c32, h9', zi256, zt256, zo256_0, zo256_1, zo256_4, zo256_5, zo256_6, zo256_7, zo256_9, zo256_10, zo256_11, zy_ldI, zy_ldL, zy_ldA, zy_stI, zy_stL, zy_stA, zy_cI, zy_cL, zy_nul, zy_inc, zy_bI, zy_bL, zy_sL, zy_un, zy_cmp, zy_dup, zy_dup2, zy_pop, zy_pop2, zy_jn, zy_jnn, zy_go, zy_fal, zy_tsw, zy_lsw, zy_get, zy_put, zy_ald, zy_ast, zy_len, zy_newa, zy_new, zy_cal, zy_ret, zy_tak, zy_cst, zy_acp, zy_oini, zy_cln, zy_thr, zy_bad, zy_lco, zy_if0, zy_ic0, zy_if1, zy_ic1, zy_if2, zy_ic2, zy_if3, zy_ic3, zy_if4, zy_ic4, zy_if5, zy_ic5, zK_go, zK_to, zK_end, zK_callH, zK_iteC, zK_none, zsLd, zsSt, zsInc, zsBI, zsBL, zsSL, zsUn, zsCmp, zsDup, zsDup2, zsPop, zsPop2, zsJn, zsTsw, zsLsw, zsGet, zsPut, zsAld, zsAst, zsLen, zsNewa, zsCal, zsRet, zsCst, zsAcp, zsOini, zsCln, zsLco, zsThr, zxBI, zxBL, zxSL, zxU, zset1, zset2, zclr, zcat, zmake_mk, zcomp, zH_i, zH_l, zH_r, zH_u, zH_n, List.set_cons_zero, List.set_cons_succ, List.getElem?_cons_zero, List.getElem?_cons_succ, List.length_cons, List.length_nil, List.take_succ_cons, List.take_zero, List.drop_succ_cons, List.drop_zero, List.reverse_cons, List.reverse_nil, List.nil_append, List.cons_append, List.map_cons, List.map_nil, List.sum_cons, List.sum_nil, Option.toList_some, Option.toList_none, Value.category, Nat.reduceAdd, Nat.reduceMul, Nat.reduceMod, Nat.reduceDiv, Nat.reduceSub, Nat.reduceLT, Nat.reduceLeDiff, Nat.reduceEqDiff, Nat.zero_le, Nat.le_refl, Int32.reduceToNatClampNeg, Int32.reduceLT, Int32.reduceLE, Int32.reduceAdd, Int32.reduceSub, Int32.reduceMul, ↓reduceIte, reduceCtorEq, Nat.add_zero, Nat.zero_add, true_or, or_true, false_or, or_false, true_and, and_true, false_and, and_false, not_true_eq_false, not_false_eq_true, if_true, if_false, true_implies, false_implies, implies_true, forall_const, false_imp_iff, true_imp_iff, va_rf, zlay, zent, List.replicate_zero, List.append_nil, List.replicate_succ, List.length_append, ne_eq, Option.some.injEq, Value.int.injEq, Value.long.injEq, Int32.reduceOfNat, Int32.reduceToInt, Int.reduceLT, Int.reduceLE, Int.reduceSub, Int.reduceToNat, Int.reduceAdd, Int.reduceNeg, Int32.reduceDiv, Int64.reduceAdd, Int64.reduceSub, lg_cmp_ge, lg_cmp_le, lg_cmp_gt, lg_cmp_lt, lg_cmp_eq, wlt_t, wlt_f, wle_t, wle_f, wmod, wI_lt, wI_le, wI_eq, wI_neg, wI_pos, wI_cl, wI_ge, wI_po, w64_lt, w64_le, w64_eq, w64_lt0, w64_le0, w64_eq0, w64_32, zc317, zc319, wI_add, wI_a1, wI_s1, wI_e0, wI_m8, wI_m128, wI_m64, wI_m190, not_true_eq_false, not_false_eq_true, sP_3118_1 hS, sP_3118_4 hS, sP_3118_5 hS, sP_3118_6 hS, sP_3118_8 hS, sP_3118_9 hS, sP_3118_10 hS, sP_3118_61 hS, sP_4301_2 hS, sP_4301_3 hS, sP_4301_6 hS, sP_4301_8 hS, sP_4301_10 hS, sP_4301_15 hS, sN_3151 hS, sN_3184 hS, sN_3216 hS, sN_3248 hS, sN_3312 hS, sN_3345 hS, sN_3375 hS, sN_4368 hS, sN_4401 hS, sN_4495 hS, sN_4528 hS, sN_4559 hS, sN_4592 hS, sN_6417 hS]
              exact q8) t 0 (by omega)
    rw [zfl_0] at q
    simp (decide := true) (disch := omega) only [v2, zu_nj, et, ht0, p, zi256, zt256, zo256_0, zo256_1, zo256_3, zo256_4, zo256_5, zo256_6, zo256_7, zo256_8, zo256_9, zo256_10, zo256_11, zy_ldI, zy_ldL, zy_ldA, zy_stI, zy_stL, zy_stA, zy_cI, zy_cL, zy_nul, zy_inc, zy_bI, zy_bL, zy_sL, zy_un, zy_cmp, zy_dup, zy_dup2, zy_pop, zy_pop2, zy_jn, zy_jnn, zy_go, zy_fal, zy_tsw, zy_lsw, zy_get, zy_put, zy_ald, zy_ast, zy_len, zy_newa, zy_new, zy_cal, zy_ret, zy_tak, zy_cst, zy_acp, zy_oini, zy_cln, zy_thr, zy_bad, zy_lco, zy_if0, zy_ic0, zy_if1, zy_ic1, zy_if2, zy_ic2, zy_if3, zy_ic3, zy_if4, zy_ic4, zy_if5, zy_ic5, zK_go, zK_to, zK_end, zK_callH, zK_iteC, zK_none, zsLd, zsSt, zsInc, zsBI, zsBL, zsSL, zsUn, zsCmp, zsDup, zsDup2, zsPop, zsPop2, zsJn, zsTsw, zsLsw, zsGet, zsPut, zsAld, zsAst, zsLen, zsNewa, zsCal, zsRet, zsCst, zsAcp, zsOini, zsCln, zsLco, zsThr, zxBI, zxBL, zxSL, zxU, zset1, zset2, zclr, zcat, zmake_mk, zcomp, zH_i, zH_l, zH_r, zH_u, zH_n, List.set_cons_zero, List.set_cons_succ, List.getElem?_cons_zero, List.getElem?_cons_succ, List.length_cons, List.length_nil, List.take_succ_cons, List.take_zero, List.drop_succ_cons, List.drop_zero, List.reverse_cons, List.reverse_nil, List.nil_append, List.cons_append, List.map_cons, List.map_nil, List.sum_cons, List.sum_nil, Option.toList_some, Option.toList_none, Value.category, Nat.reduceAdd, Nat.reduceMul, Nat.reduceMod, Nat.reduceDiv, Nat.reduceSub, Nat.reduceLT, Nat.reduceLeDiff, Nat.reduceEqDiff, Nat.zero_le, Nat.le_refl, Int32.reduceToNatClampNeg, Int32.reduceLT, Int32.reduceLE, Int32.reduceAdd, Int32.reduceSub, Int32.reduceMul, ↓reduceIte, reduceCtorEq, Nat.add_zero, Nat.zero_add, true_or, or_true, false_or, or_false, true_and, and_true, false_and, and_false, not_true_eq_false, not_false_eq_true, if_true, if_false, true_implies, false_implies, implies_true, forall_const, false_imp_iff, true_imp_iff, va_rf, zlay, zent, List.replicate_zero, List.append_nil, List.replicate_succ, List.length_append, ne_eq, Option.some.injEq, Value.int.injEq, Value.long.injEq, Int32.reduceOfNat, Int32.reduceToInt, Int.reduceLT, Int.reduceLE, Int.reduceSub, Int.reduceToNat, Int.reduceAdd, Int.reduceNeg, Int32.reduceDiv, Int64.reduceAdd, Int64.reduceSub, lg_cmp_ge, lg_cmp_le, lg_cmp_gt, lg_cmp_lt, lg_cmp_eq, wlt_t, wlt_f, wle_t, wle_f, wmod, wI_lt, wI_le, wI_eq, wI_neg, wI_pos, wI_cl, wI_ge, wI_po, w64_lt, w64_le, w64_eq, w64_lt0, w64_le0, w64_eq0, w64_32, zc317, zc319, wI_add, wI_a1, wI_s1, wI_e0, wI_m8, wI_m128, wI_m64, wI_m190, not_true_eq_false, not_false_eq_true, sP_3118_1 hS, sP_3118_4 hS, sP_3118_5 hS, sP_3118_6 hS, sP_3118_8 hS, sP_3118_9 hS, sP_3118_10 hS, sP_3118_61 hS, sP_4301_2 hS, sP_4301_3 hS, sP_4301_6 hS, sP_4301_8 hS, sP_4301_10 hS, sP_4301_15 hS, sN_3151 hS, sN_3184 hS, sN_3216 hS, sN_3248 hS, sN_3312 hS, sN_3345 hS, sN_3375 hS, sN_4368 hS, sN_4401 hS, sN_4495 hS, sN_4528 hS, sN_4559 hS, sN_4592 hS, sN_6417 hS]
    rw [← hI1]
    exact q
end
