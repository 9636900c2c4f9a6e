-- needs: 01 02.names 03 04 05 18 19 20 22 23 24 25 30 31 32 33 36 40 42 43 44 46 47 60 61 62 63 64 79f 79g 79h 79i 79j 79l
/-! a node of DATA, read by the reference -/
/-- forms of the reference for kinds of the class -/
def zFo (q : Nat) : Nat := if q = 6 then 0 else if q = 5 then 1 else if q = 4 then 2 else if q = 2 then 4 else 3
/-- how much is within, as the reference counts -/
def zrC (v : Int64) : Nat := if v < 0 ∨ 1000 < v then 1000 else v.toInt.toNat
def zrN (B : Nat → Nat) (a : Nat) : Nat := if zhQ B a = 2 then znC B a else if zhQ B a = 6 then zrC (zhN B (zhX B a)) else if zhQ B a = 4 ∨ zhQ B a = 5 then zrC (zhN B a) else 0
def zrH (B : Nat → Nat) (a : Nat) : Nat := if zhQ B a = 2 then 0 else if zhQ B a = 5 then 2 * zrN B a else zrN B a
theorem zrC_i {v : Int64} : zrC v ≤ 1000 ∧ (¬ v < 0 → ¬ 1000 < v → v.toInt32 = nI (zrC v) ∧ v = (nI (zrC v)).toInt64) ∧ (zCa v ≤ 200 → zrC v = zCa v) ∧ (¬ zCa v ≤ 200 → 200 < zrC v) := by
  have e0 : (0 : Int64).toInt = 0 := rfl
  have e1 : (1000 : Int64).toInt = 1000 := rfl
  have e2 : (200 : Int64).toInt = 200 := rfl
  have a0 : v < 0 ↔ v.toInt < 0 := by rw [Int64.lt_iff_toInt_lt, e0]
  have a1 : 1000 < v ↔ 1000 < v.toInt := by rw [Int64.lt_iff_toInt_lt, e1]
  have a2 : 200 < v ↔ 200 < v.toInt := by rw [Int64.lt_iff_toInt_lt, e2]
  unfold zrC zCa
  simp only [a0, a1, a2]
  refine ⟨?_, fun h1 h2 => ?_, ?_, ?_⟩
  · split <;> omega
  · rw [if_neg (by omega)]
    have e3 : v = (nI v.toInt.toNat).toInt64 := by
      apply Int64.toInt_inj.1
      rw [w64_toInt (by omega)]
      omega
    refine ⟨?_, e3⟩
    conv => lhs; rw [e3]
    rw [w64_32]
  · split
    · intro h; omega
    · intro h
      rw [if_neg (by omega)]
  · split
    · intro _
      split <;> omega
    · intro h; omega
theorem zrH_i {B : Nat → Nat} {a : Nat} : zrH B a ≤ 2000 ∧ (zrH B a = znH B a ∨ (200 < zrH B a ∧ 200 < znH B a)) := by
  have h1 := zrC_i (v := zhN B a)
  have h2 := zrC_i (v := zhN B (zhX B a))
  unfold zrH znH zrN znC
  by_cases q2 : zhQ B a = 2
  · rw [if_pos q2, if_pos q2]; omega
  · rw [if_neg q2, if_neg q2]
    by_cases q6 : zhQ B a = 6
    · rw [if_neg (by omega), if_neg q2, if_pos q6, if_neg q2, if_pos q6]
      by_cases h : zCa (zhN B (zhX B a)) ≤ 200
      · have := h2.2.2.1 h; omega
      · have := h2.2.2.2 h; omega
    · by_cases q5 : zhQ B a = 5
      · rw [if_pos q5, if_neg q2, if_neg q6, if_pos (Or.inr q5), if_neg q2, if_neg q6, if_neg (by omega), if_pos q5]
        by_cases h : zCa (zhN B a) ≤ 200
        · have := h1.2.2.1 h; omega
        · have := h1.2.2.2 h; omega
      · rw [if_neg q5, if_neg q2, if_neg q6, if_neg q2, if_neg q6]
        by_cases q4 : zhQ B a = 4
        · rw [if_pos (Or.inl q4), if_pos q4]
          by_cases h : zCa (zhN B a) ≤ 200
          · have := h1.2.2.1 h; omega
          · have := h1.2.2.2 h; omega
        · rw [if_neg (by omega), if_neg q4, if_neg q5]; omega
/-- what the reference's reading of data leaves as it was -/
def zFm (I : zI) (J : zJ) (I' : zI) (J' : zJ) : Prop := (∀ c, c ≠ 3118 → c ≠ 3920 → c ≠ 3984 → c ≠ 3792 → c ≠ 3856 → c ≠ 3952 → c ≠ 3888 → I' c = I c) ∧ (∀ j, j ≠ 31 → j ≠ 38 → j ≠ 47 → j ≠ 48 → I' 3118 j = I 3118 j) ∧ (∀ c, c ≠ 3118 → c ≠ 3825 → c ≠ 4017 → J' c = J c) ∧ ∀ j, j ≠ 49 → J' 3118 j = J 3118 j
theorem zFm_rf {I : zI} {J : zJ} : zFm I J I J := ⟨fun _ _ _ _ _ _ _ _ => rfl, fun _ _ _ _ _ => rfl, fun _ _ _ _ => rfl, fun _ _ => rfl⟩
theorem zFm_tr {I I' I'' : zI} {J J' J'' : zJ} (h : zFm I J I' J') (h' : zFm I' J' I'' J'') : zFm I J I'' J'' := ⟨fun c x1 x2 x3 x4 x5 x6 x7 => (h'.1 c x1 x2 x3 x4 x5 x6 x7).trans (h.1 c x1 x2 x3 x4 x5 x6 x7), fun j x1 x2 x3 x4 => (h'.2.1 j x1 x2 x3 x4).trans (h.2.1 j x1 x2 x3 x4), fun c x1 x2 x3 => (h'.2.2.1 c x1 x2 x3).trans (h.2.2.1 c x1 x2 x3), fun j x1 => (h'.2.2.2 j x1).trans (h.2.2.2 j x1)⟩
theorem zFm_h {I I' : zI} {J J' : zJ} (h : zHm I J I' J') : zFm I J I' J' := ⟨fun c x1 _ _ _ _ _ _ => by funext j; exact h.1 c j (by omega), fun j x1 x2 x3 x4 => h.1 3118 j (by omega), fun c x1 _ _ => by funext j; exact h.2 c j (by omega), fun j x1 => h.2 3118 j (by omega)⟩
/-- the rows of one more node -/
def zMn (I : zI) (J : zJ) (I' : zI) (J' : zJ) (k L : Nat) (B : Nat → Nat) (a : Nat) : Prop :=
  (∀ j, j ≠ k → I' 3920 j = I 3920 j ∧ I' 3984 j = I 3984 j ∧ I' 3792 j = I 3792 j ∧ I' 3856 j = I 3856 j ∧ I' 3952 j = I 3952 j ∧ J' 3825 j = J 3825 j) ∧
  (I' 3920 k = nI a ∧ I' 3984 k = nI L ∧ I' 3792 k = nI (zFo (znQ B a)) ∧ I' 3856 k = nI (zrN B a) ∧ I' 3952 k = nI (zhX B a) ∧ J' 3825 k = znT B a) ∧
  (I' 3118 38 = nI (k + 1) ∧ I' 3118 47 = nI (znX B a) ∧ I' 3118 48 = 0 ∧ I' 3118 31 = I 3118 31) ∧ J' 4017 = J 4017
section
variable {I : zI} {J : zJ} {P : zP} {N : Nat → Nat} {n z t : Nat} {Q : Option Value → zS → Prop}
set_option maxRecDepth 20000 in
/-- the bytes of a node are passed over -/
theorem l264 {a m k : Nat} {u1 u2 u3 : Int32} (hS : zStat P N) (hk : k < 200) (h1 : I 3118 2 = nI t) (ht : t ≤ 4096) (hm : m ≤ 200) (hc : I 3856 k = nI m)
    (hF : t < a + m → Q (some (.long 0)) (zu (zu (zu I 3118 47 (nI t)) 3118 48 1) 3118 31 (nI t), J, P, N, n, z))
    (hO : a + m ≤ t → Q (some (.long 0)) (zu I 3118 47 (nI (a + m)), J, P, N, n, z)) (h0 : I 3118 48 = 0) : ∀ r i u6, i + r = m → a + i ≤ t → zQ zt264 zo264_16 [some (.ref 3118), some (.int u1), some (.int u2), some (.int u3), some (.int (nI k)), some (.int (nI i)), u6] [] (zu I 3118 47 (nI (a + i)), J, P, N, n, z) Q := by
  intro r
  induction r with
  | zero =>
    intro i u6 hi ha
    obtain rfl : i = m := by omega
    have q := hO ha
    rw [zo264_16]
    simp (decide := true) (disch := omega) only [hc, zuR_ne, zi264, zt264, zo264_0, zo264_1, zo264_2, zo264_3, zo264_4, zo264_5, zo264_6, zo264_7, zo264_8, zo264_9, zo264_10, zo264_11, zo264_12, zo264_13, zo264_14, zo264_15, zo264_17, zo264_18, zo264_19, zo264_20, zo264_21, zo264_22, zo264_23, zo264_24, zo264_25, zy_ldI, zy_ldL, zy_ldA, zy_stI, zy_stL, zy_stA, zy_cI, zy_cL, zy_nul, zy_inc, zy_bI, zy_bL, zy_sL, zy_un, zy_cmp, zy_dup, zy_dup2, zy_pop, zy_pop2, zy_jn, zy_jnn, zy_go, zy_fal, zy_tsw, zy_lsw, zy_get, zy_put, zy_ald, zy_ast, zy_len, zy_newa, zy_new, zy_cal, zy_ret, zy_tak, zy_cst, zy_acp, zy_oini, zy_cln, zy_thr, zy_bad, zy_lco, zy_if0, zy_ic0, zy_if1, zy_ic1, zy_if2, zy_ic2, zy_if3, zy_ic3, zy_if4, zy_ic4, zy_if5, zy_ic5, zK_go, zK_to, zK_end, zK_callH, zK_iteC, zK_none, zsLd, zsSt, zsInc, zsBI, zsBL, zsSL, zsUn, zsCmp, zsDup, zsDup2, zsPop, zsPop2, zsJn, zsTsw, zsLsw, zsGet, zsPut, zsAld, zsAst, zsLen, zsNewa, zsCal, zsRet, zsCst, zsAcp, zsOini, zsCln, zsLco, zsThr, zxBI, zxBL, zxSL, zxU, zset1, zset2, zclr, zcat, zmake_mk, zcomp, zH_i, zH_l, zH_r, zH_u, zH_n, List.set_cons_zero, List.set_cons_succ, List.getElem?_cons_zero, List.getElem?_cons_succ, List.length_cons, List.length_nil, List.take_succ_cons, List.take_zero, List.drop_succ_cons, List.drop_zero, List.reverse_cons, List.reverse_nil, List.nil_append, List.cons_append, List.map_cons, List.map_nil, List.sum_cons, List.sum_nil, Option.toList_some, Option.toList_none, Value.category, Nat.reduceAdd, Nat.reduceMul, Nat.reduceMod, Nat.reduceDiv, Nat.reduceSub, Nat.reduceLT, Nat.reduceLeDiff, Nat.reduceEqDiff, Nat.zero_le, Nat.le_refl, Int32.reduceToNatClampNeg, Int32.reduceLT, Int32.reduceLE, Int32.reduceAdd, Int32.reduceSub, Int32.reduceMul, ↓reduceIte, reduceCtorEq, Nat.add_zero, Nat.zero_add, true_or, or_true, false_or, or_false, true_and, and_true, false_and, and_false, not_true_eq_false, not_false_eq_true, if_true, if_false, true_implies, false_implies, implies_true, forall_const, false_imp_iff, true_imp_iff, va_rf, zlay, zent, List.replicate_zero, List.append_nil, List.replicate_succ, List.length_append, ne_eq, Option.some.injEq, Value.int.injEq, Value.long.injEq, Int32.reduceOfNat, Int32.reduceToInt, Int.reduceLT, Int.reduceLE, Int.reduceSub, Int.reduceToNat, Int.reduceAdd, Int.reduceNeg, Int32.reduceDiv, Int64.reduceAdd, Int64.reduceSub, lg_cmp_ge, lg_cmp_le, lg_cmp_gt, lg_cmp_lt, lg_cmp_eq, wlt_t, wlt_f, wle_t, wle_f, wmod, wI_lt, wI_le, wI_eq, wI_neg, wI_pos, wI_cl, wI_ge, wI_po, w64_lt, w64_le, w64_eq, w64_lt0, w64_le0, w64_eq0, w64_32, zc317, zc319, wI_add, wI_a1, wI_s1, wI_e0, wI_m8, wI_m128, wI_m64, wI_m190, not_true_eq_false, not_false_eq_true, sP_3118_39 hS, sP_3118_40 hS, sP_3118_41 hS, sP_3118_43 hS, sP_3118_44 hS, sP_3118_45 hS, sN_3792 hS, sN_3825 hS, sN_3856 hS, sN_3920 hS, sN_3952 hS, sN_3984 hS, sN_6417 hS]
    exact q
  | succ r ih =>
    intro i u6 hi ha
    rw [zo264_16]
    by_cases h2 : a + i < t
    · have p := fun (Q : Option Value → zS → Prop) => m261a (I := zu I 3118 47 (nI (a + i))) (J := J) (P := P) (N := N) (n := n) (z := z) (t := t) (a := a + i) hS (by rw [zu_nj (by decide)]; exact h0) (by rw [zu_nj (by decide)]; exact h1) zu_at ht h2 Q
      simp (disch := omega) only [zuR_ne, zuu] at p
      have q := ih (i + 1) (some (.int (nI (zby' (I 3151 (a + i)))))) (by omega) (by omega)
      simp (decide := true) (disch := omega) only [hc, zuR_ne, p, zi264, zt264, zo264_0, zo264_1, zo264_2, zo264_3, zo264_4, zo264_5, zo264_6, zo264_7, zo264_8, zo264_9, zo264_10, zo264_11, zo264_12, zo264_13, zo264_14, zo264_15, zo264_17, zo264_18, zo264_19, zo264_20, zo264_21, zo264_22, zo264_23, zo264_24, zo264_25, zy_ldI, zy_ldL, zy_ldA, zy_stI, zy_stL, zy_stA, zy_cI, zy_cL, zy_nul, zy_inc, zy_bI, zy_bL, zy_sL, zy_un, zy_cmp, zy_dup, zy_dup2, zy_pop, zy_pop2, zy_jn, zy_jnn, zy_go, zy_fal, zy_tsw, zy_lsw, zy_get, zy_put, zy_ald, zy_ast, zy_len, zy_newa, zy_new, zy_cal, zy_ret, zy_tak, zy_cst, zy_acp, zy_oini, zy_cln, zy_thr, zy_bad, zy_lco, zy_if0, zy_ic0, zy_if1, zy_ic1, zy_if2, zy_ic2, zy_if3, zy_ic3, zy_if4, zy_ic4, zy_if5, zy_ic5, zK_go, zK_to, zK_end, zK_callH, zK_iteC, zK_none, zsLd, zsSt, zsInc, zsBI, zsBL, zsSL, zsUn, zsCmp, zsDup, zsDup2, zsPop, zsPop2, zsJn, zsTsw, zsLsw, zsGet, zsPut, zsAld, zsAst, zsLen, zsNewa, zsCal, zsRet, zsCst, zsAcp, zsOini, zsCln, zsLco, zsThr, zxBI, zxBL, zxSL, zxU, zset1, zset2, zclr, zcat, zmake_mk, zcomp, zH_i, zH_l, zH_r, zH_u, zH_n, List.set_cons_zero, List.set_cons_succ, List.getElem?_cons_zero, List.getElem?_cons_succ, List.length_cons, List.length_nil, List.take_succ_cons, List.take_zero, List.drop_succ_cons, List.drop_zero, List.reverse_cons, List.reverse_nil, List.nil_append, List.cons_append, List.map_cons, List.map_nil, List.sum_cons, List.sum_nil, Option.toList_some, Option.toList_none, Value.category, Nat.reduceAdd, Nat.reduceMul, Nat.reduceMod, Nat.reduceDiv, Nat.reduceSub, Nat.reduceLT, Nat.reduceLeDiff, Nat.reduceEqDiff, Nat.zero_le, Nat.le_refl, Int32.reduceToNatClampNeg, Int32.reduceLT, Int32.reduceLE, Int32.reduceAdd, Int32.reduceSub, Int32.reduceMul, ↓reduceIte, reduceCtorEq, Nat.add_zero, Nat.zero_add, true_or, or_true, false_or, or_false, true_and, and_true, false_and, and_false, not_true_eq_false, not_false_eq_true, if_true, if_false, true_implies, false_implies, implies_true, forall_const, false_imp_iff, true_imp_iff, va_rf, zlay, zent, List.replicate_zero, List.append_nil, List.replicate_succ, List.length_append, ne_eq, Option.some.injEq, Value.int.injEq, Value.long.injEq, Int32.reduceOfNat, Int32.reduceToInt, Int.reduceLT, Int.reduceLE, Int.reduceSub, Int.reduceToNat, Int.reduceAdd, Int.reduceNeg, Int32.reduceDiv, Int64.reduceAdd, Int64.reduceSub, lg_cmp_ge, lg_cmp_le, lg_cmp_gt, lg_cmp_lt, lg_cmp_eq, wlt_t, wlt_f, wle_t, wle_f, wmod, wI_lt, wI_le, wI_eq, wI_neg, wI_pos, wI_cl, wI_ge, wI_po, w64_lt, w64_le, w64_eq, w64_lt0, w64_le0, w64_eq0, w64_32, zc317, zc319, wI_add, wI_a1, wI_s1, wI_e0, wI_m8, wI_m128, wI_m64, wI_m190, not_true_eq_false, not_false_eq_true, sP_3118_39 hS, sP_3118_40 hS, sP_3118_41 hS, sP_3118_43 hS, sP_3118_44 hS, sP_3118_45 hS, sN_3792 hS, sN_3825 hS, sN_3856 hS, sN_3920 hS, sN_3952 hS, sN_3984 hS, sN_6417 hS]
      exact q
    · have et : a + i = t := by omega
      have p := fun (Q : Option Value → zS → Prop) => m261b (I := zu I 3118 47 (nI t)) (J := J) (P := P) (N := N) (n := n) (z := z) (t := t) hS (by rw [zu_nj (by decide)]; exact h0) (by rw [zu_nj (by decide)]; exact h1) zu_at Q
      have ce : zu (zu (zu I 3118 47 (nI t)) 3118 48 1) 3118 31 (nI t) 3856 k = nI m := by simp (disch := omega) only [zuR_ne]; exact hc
      have p2 := fun (Q : Option Value → zS → Prop) => m261c (I := zu (zu (zu I 3118 47 (nI t)) 3118 48 1) 3118 31 (nI t)) (J := J) (P := P) (N := N) (n := n) (z := z) (f := 1) (by decide) (by decide) (by rw [zu_nj (by decide), zu_at]; rfl) Q
      have qf := hF (by omega)
      -- the rest runs idly
      have idle : ∀ r' i' u6, i' + r' = m → zQ zt264 zo264_16 [some (.ref 3118), some (.int u1), some (.int u2), some (.int u3), some (.int (nI k)), some (.int (nI i')), u6] [] (zu (zu (zu I 3118 47 (nI t)) 3118 48 1) 3118 31 (nI t), J, P, N, n, z) Q := by
        intro r'
        induction r' with
        | zero =>
          intro i' u6 hi'
          obtain rfl : i' = m := by omega
          rw [zo264_16]
          simp (decide := true) (disch := omega) only [ce, zi264, zt264, zo264_0, zo264_1, zo264_2, zo264_3, zo264_4, zo264_5, zo264_6, zo264_7, zo264_8, zo264_9, zo264_10, zo264_11, zo264_12, zo264_13, zo264_14, zo264_15, zo264_17, zo264_18, zo264_19, zo264_20, zo264_21, zo264_22, zo264_23, zo264_24, zo264_25, zy_ldI, zy_ldL, zy_ldA, zy_stI, zy_stL, zy_stA, zy_cI, zy_cL, zy_nul, zy_inc, zy_bI, zy_bL, zy_sL, zy_un, zy_cmp, zy_dup, zy_dup2, zy_pop, zy_pop2, zy_jn, zy_jnn, zy_go, zy_fal, zy_tsw, zy_lsw, zy_get, zy_put, zy_ald, zy_ast, zy_len, zy_newa, zy_new, zy_cal, zy_ret, zy_tak, zy_cst, zy_acp, zy_oini, zy_cln, zy_thr, zy_bad, zy_lco, zy_if0, zy_ic0, zy_if1, zy_ic1, zy_if2, zy_ic2, zy_if3, zy_ic3, zy_if4, zy_ic4, zy_if5, zy_ic5, zK_go, zK_to, zK_end, zK_callH, zK_iteC, zK_none, zsLd, zsSt, zsInc, zsBI, zsBL, zsSL, zsUn, zsCmp, zsDup, zsDup2, zsPop, zsPop2, zsJn, zsTsw, zsLsw, zsGet, zsPut, zsAld, zsAst, zsLen, zsNewa, zsCal, zsRet, zsCst, zsAcp, zsOini, zsCln, zsLco, zsThr, zxBI, zxBL, zxSL, zxU, zset1, zset2, zclr, zcat, zmake_mk, zcomp, zH_i, zH_l, zH_r, zH_u, zH_n, List.set_cons_zero, List.set_cons_succ, List.getElem?_cons_zero, List.getElem?_cons_succ, List.length_cons, List.length_nil, List.take_succ_cons, List.take_zero, List.drop_succ_cons, List.drop_zero, List.reverse_cons, List.reverse_nil, List.nil_append, List.cons_append, List.map_cons, List.map_nil, List.sum_cons, List.sum_nil, Option.toList_some, Option.toList_none, Value.category, Nat.reduceAdd, Nat.reduceMul, Nat.reduceMod, Nat.reduceDiv, Nat.reduceSub, Nat.reduceLT, Nat.reduceLeDiff, Nat.reduceEqDiff, Nat.zero_le, Nat.le_refl, Int32.reduceToNatClampNeg, Int32.reduceLT, Int32.reduceLE, Int32.reduceAdd, Int32.reduceSub, Int32.reduceMul, ↓reduceIte, reduceCtorEq, Nat.add_zero, Nat.zero_add, true_or, or_true, false_or, or_false, true_and, and_true, false_and, and_false, not_true_eq_false, not_false_eq_true, if_true, if_false, true_implies, false_implies, implies_true, forall_const, false_imp_iff, true_imp_iff, va_rf, zlay, zent, List.replicate_zero, List.append_nil, List.replicate_succ, List.length_append, ne_eq, Option.some.injEq, Value.int.injEq, Value.long.injEq, Int32.reduceOfNat, Int32.reduceToInt, Int.reduceLT, Int.reduceLE, Int.reduceSub, Int.reduceToNat, Int.reduceAdd, Int.reduceNeg, Int32.reduceDiv, Int64.reduceAdd, Int64.reduceSub, lg_cmp_ge, lg_cmp_le, lg_cmp_gt, lg_cmp_lt, lg_cmp_eq, wlt_t, wlt_f, wle_t, wle_f, wmod, wI_lt, wI_le, wI_eq, wI_neg, wI_pos, wI_cl, wI_ge, wI_po, w64_lt, w64_le, w64_eq, w64_lt0, w64_le0, w64_eq0, w64_32, zc317, zc319, wI_add, wI_a1, wI_s1, wI_e0, wI_m8, wI_m128, wI_m64, wI_m190, not_true_eq_false, not_false_eq_true, sP_3118_39 hS, sP_3118_40 hS, sP_3118_41 hS, sP_3118_43 hS, sP_3118_44 hS, sP_3118_45 hS, sN_3792 hS, sN_3825 hS, sN_3856 hS, sN_3920 hS, sN_3952 hS, sN_3984 hS, sN_6417 hS]
          exact qf
        | succ r' ih' =>
          intro i' u6 hi'
          have q := ih' (i' + 1) (some (.int 0)) (by omega)
          rw [zo264_16]
          simp (decide := true) (disch := omega) only [ce, p2, zi264, zt264, zo264_0, zo264_1, zo264_2, zo264_3, zo264_4, zo264_5, zo264_6, zo264_7, zo264_8, zo264_9, zo264_10, zo264_11, zo264_12, zo264_13, zo264_14, zo264_15, zo264_17, zo264_18, zo264_19, zo264_20, zo264_21, zo264_22, zo264_23, zo264_24, zo264_25, zy_ldI, zy_ldL, zy_ldA, zy_stI, zy_stL, zy_stA, zy_cI, zy_cL, zy_nul, zy_inc, zy_bI, zy_bL, zy_sL, zy_un, zy_cmp, zy_dup, zy_dup2, zy_pop, zy_pop2, zy_jn, zy_jnn, zy_go, zy_fal, zy_tsw, zy_lsw, zy_get, zy_put, zy_ald, zy_ast, zy_len, zy_newa, zy_new, zy_cal, zy_ret, zy_tak, zy_cst, zy_acp, zy_oini, zy_cln, zy_thr, zy_bad, zy_lco, zy_if0, zy_ic0, zy_if1, zy_ic1, zy_if2, zy_ic2, zy_if3, zy_ic3, zy_if4, zy_ic4, zy_if5, zy_ic5, zK_go, zK_to, zK_end, zK_callH, zK_iteC, zK_none, zsLd, zsSt, zsInc, zsBI, zsBL, zsSL, zsUn, zsCmp, zsDup, zsDup2, zsPop, zsPop2, zsJn, zsTsw, zsLsw, zsGet, zsPut, zsAld, zsAst, zsLen, zsNewa, zsCal, zsRet, zsCst, zsAcp, zsOini, zsCln, zsLco, zsThr, zxBI, zxBL, zxSL, zxU, zset1, zset2, zclr, zcat, zmake_mk, zcomp, zH_i, zH_l, zH_r, zH_u, zH_n, List.set_cons_zero, List.set_cons_succ, List.getElem?_cons_zero, List.getElem?_cons_succ, List.length_cons, List.length_nil, List.take_succ_cons, List.take_zero, List.drop_succ_cons, List.drop_zero, List.reverse_cons, List.reverse_nil, List.nil_append, List.cons_append, List.map_cons, List.map_nil, List.sum_cons, List.sum_nil, Option.toList_some, Option.toList_none, Value.category, Nat.reduceAdd, Nat.reduceMul, Nat.reduceMod, Nat.reduceDiv, Nat.reduceSub, Nat.reduceLT, Nat.reduceLeDiff, Nat.reduceEqDiff, Nat.zero_le, Nat.le_refl, Int32.reduceToNatClampNeg, Int32.reduceLT, Int32.reduceLE, Int32.reduceAdd, Int32.reduceSub, Int32.reduceMul, ↓reduceIte, reduceCtorEq, Nat.add_zero, Nat.zero_add, true_or, or_true, false_or, or_false, true_and, and_true, false_and, and_false, not_true_eq_false, not_false_eq_true, if_true, if_false, true_implies, false_implies, implies_true, forall_const, false_imp_iff, true_imp_iff, va_rf, zlay, zent, List.replicate_zero, List.append_nil, List.replicate_succ, List.length_append, ne_eq, Option.some.injEq, Value.int.injEq, Value.long.injEq, Int32.reduceOfNat, Int32.reduceToInt, Int.reduceLT, Int.reduceLE, Int.reduceSub, Int.reduceToNat, Int.reduceAdd, Int.reduceNeg, Int32.reduceDiv, Int64.reduceAdd, Int64.reduceSub, lg_cmp_ge, lg_cmp_le, lg_cmp_gt, lg_cmp_lt, lg_cmp_eq, wlt_t, wlt_f, wle_t, wle_f, wmod, wI_lt, wI_le, wI_eq, wI_neg, wI_pos, wI_cl, wI_ge, wI_po, w64_lt, w64_le, w64_eq, w64_lt0, w64_le0, w64_eq0, w64_32, zc317, zc319, wI_add, wI_a1, wI_s1, wI_e0, wI_m8, wI_m128, wI_m64, wI_m190, not_true_eq_false, not_false_eq_true, sP_3118_39 hS, sP_3118_40 hS, sP_3118_41 hS, sP_3118_43 hS, sP_3118_44 hS, sP_3118_45 hS, sN_3792 hS, sN_3825 hS, sN_3856 hS, sN_3920 hS, sN_3952 hS, sN_3984 hS, sN_6417 hS]
          exact q
      have q := idle r (i + 1) (some (.int 0)) (by omega)
      rw [et]
      simp (decide := true) (disch := omega) only [hc, zuR_ne, p, zi264, zt264, zo264_0, zo264_1, zo264_2, zo264_3, zo264_4, zo264_5, zo264_6, zo264_7, zo264_8, zo264_9, zo264_10, zo264_11, zo264_12, zo264_13, zo264_14, zo264_15, zo264_17, zo264_18, zo264_19, zo264_20, zo264_21, zo264_22, zo264_23, zo264_24, zo264_25, zy_ldI, zy_ldL, zy_ldA, zy_stI, zy_stL, zy_stA, zy_cI, zy_cL, zy_nul, zy_inc, zy_bI, zy_bL, zy_sL, zy_un, zy_cmp, zy_dup, zy_dup2, zy_pop, zy_pop2, zy_jn, zy_jnn, zy_go, zy_fal, zy_tsw, zy_lsw, zy_get, zy_put, zy_ald, zy_ast, zy_len, zy_newa, zy_new, zy_cal, zy_ret, zy_tak, zy_cst, zy_acp, zy_oini, zy_cln, zy_thr, zy_bad, zy_lco, zy_if0, zy_ic0, zy_if1, zy_ic1, zy_if2, zy_ic2, zy_if3, zy_ic3, zy_if4, zy_ic4, zy_if5, zy_ic5, zK_go, zK_to, zK_end, zK_callH, zK_iteC, zK_none, zsLd, zsSt, zsInc, zsBI, zsBL, zsSL, zsUn, zsCmp, zsDup, zsDup2, zsPop, zsPop2, zsJn, zsTsw, zsLsw, zsGet, zsPut, zsAld, zsAst, zsLen, zsNewa, zsCal, zsRet, zsCst, zsAcp, zsOini, zsCln, zsLco, zsThr, zxBI, zxBL, zxSL, zxU, zset1, zset2, zclr, zcat, zmake_mk, zcomp, zH_i, zH_l, zH_r, zH_u, zH_n, List.set_cons_zero, List.set_cons_succ, List.getElem?_cons_zero, List.getElem?_cons_succ, List.length_cons, List.length_nil, List.take_succ_cons, List.take_zero, List.drop_succ_cons, List.drop_zero, List.reverse_cons, List.reverse_nil, List.nil_append, List.cons_append, List.map_cons, List.map_nil, List.sum_cons, List.sum_nil, Option.toList_some, Option.toList_none, Value.category, Nat.reduceAdd, Nat.reduceMul, Nat.reduceMod, Nat.reduceDiv, Nat.reduceSub, Nat.reduceLT, Nat.reduceLeDiff, Nat.reduceEqDiff, Nat.zero_le, Nat.le_refl, Int32.reduceToNatClampNeg, Int32.reduceLT, Int32.reduceLE, Int32.reduceAdd, Int32.reduceSub, Int32.reduceMul, ↓reduceIte, reduceCtorEq, Nat.add_zero, Nat.zero_add, true_or, or_true, false_or, or_false, true_and, and_true, false_and, and_false, not_true_eq_false, not_false_eq_true, if_true, if_false, true_implies, false_implies, implies_true, forall_const, false_imp_iff, true_imp_iff, va_rf, zlay, zent, List.replicate_zero, List.append_nil, List.replicate_succ, List.length_append, ne_eq, Option.some.injEq, Value.int.injEq, Value.long.injEq, Int32.reduceOfNat, Int32.reduceToInt, Int.reduceLT, Int.reduceLE, Int.reduceSub, Int.reduceToNat, Int.reduceAdd, Int.reduceNeg, Int32.reduceDiv, Int64.reduceAdd, Int64.reduceSub, lg_cmp_ge, lg_cmp_le, lg_cmp_gt, lg_cmp_lt, lg_cmp_eq, wlt_t, wlt_f, wle_t, wle_f, wmod, wI_lt, wI_le, wI_eq, wI_neg, wI_pos, wI_cl, wI_ge, wI_po, w64_lt, w64_le, w64_eq, w64_lt0, w64_le0, w64_eq0, w64_32, zc317, zc319, wI_add, wI_a1, wI_s1, wI_e0, wI_m8, wI_m128, wI_m64, wI_m190, not_true_eq_false, not_false_eq_true, sP_3118_39 hS, sP_3118_40 hS, sP_3118_41 hS, sP_3118_43 hS, sP_3118_44 hS, sP_3118_45 hS, sN_3792 hS, sN_3825 hS, sN_3856 hS, sN_3920 hS, sN_3952 hS, sN_3984 hS, sN_6417 hS]
      exact q
end
