-- needs: 01 02.names 03 04 05 18 19 20 22 23 24 25 30 31 32 33 36 40 42 43 44 46 47 60 61 62 63 64 79f 79g 79h 79i 79j 79k 79l 79m 79n 79o
/-! READING DATA by the reference, as a whole; DATA are trees -/
section
variable {P : zP} {N : Nat → Nat} {n z t : Nat} {Q : Option Value → zS → Prop}
set_option maxRecDepth 20000 in
set_option maxHeartbeats 4000000 in
theorem e265 {I : zI} {J : zJ} {B : Nat → Nat} (hS : zStat P N) (ht : t ≤ 4096) (hB : B = fun j => zby' (I 3151 j)) (h2 : I 3118 2 = nI t)
    (hF : ∀ I' J', ¬ (zdr B t 201 0).1 = 0 → zFm I J I' J' → I' 3118 48 = nI (zdr B t 201 0).1 → I' 3118 31 = nI (zdr B t 201 0).2.1 → Q none (I', J', P, N, n, z))
    (hO : ∀ I' J' K, zdr B t 201 0 = (0, 0, K) → zFm I J I' J' → zEr I' J' t B K → I' 3118 31 = -1 → Q none (I', J', P, N, n, z)) : zC 265 [.ref 3118] (I, J, P, N, n, z) Q := by
  have F0 : zFm I J (zu (zu (zu (zu I 3118 38 0) 3118 47 0) 3118 48 0) 3118 31 (-1)) (zu J 4017 1 1) := ⟨fun c x1 x2 x3 x4 x5 x6 x7 => by simp (disch := omega) only [zuR_ne], fun j x1 x2 x3 x4 => by simp (disch := omega) only [zu_nj], fun c x1 x2 x3 => zuR_ne x3, fun j x1 => by rw [zuR_ne (by decide)]⟩
  have q := l265 (n := n) (z := z) (Q := Q) (B := B) hS ht 201 0 [1] (zu (zu (zu (zu I 3118 38 0) 3118 47 0) 3118 48 0) 3118 31 (-1)) (zu J 4017 1 1) none none (by omega) (by omega) (Nat.zero_le _) (by simp (disch := omega) only [zuR_ne]; exact hB) (by simp (disch := omega) only [zu_nj]; exact h2) (by simp (disch := omega) only [zu_nj, zu_at]; rfl) (by simp (disch := omega) only [zu_nj, zu_at]) (by simp (disch := omega) only [zu_nj, zu_at]; rfl) rfl (fun h => by cases h) (by decide) ⟨⟨1, zu_at, by decide, Or.inl rfl⟩, trivial⟩ (fun j hj => by omega) (fun j hj => by omega) (fun I' J' u1 u2 u3 x1 x2 x3 x4 => by
      have hlt : (zdr B t 201 0).1 < 6 := by
        have gen : ∀ r k, (zdr B t r k).1 < 6 := by
          intro r
          induction r with
          | zero => intro k; show 0 < 6; omega
          | succ r ih =>
            intro k
            unfold zdr
            split
            · exact znF_lt
            · split
              · show 0 < 6; omega
              · exact ih _
        exact gen _ _
      have hn : ¬ nI (zdr B t 201 0).1 = 0 := by rw [wI_e0 (by omega)]; exact x1
      have q := hF I' J' x1 (zFm_tr F0 x2) x3 x4
      rw [zo265_4]
      by_cases hk : I' 3118 38 ≤ 0
      · simp (decide := true) (disch := omega) only [hk, zi265, zt265, zo265_0, zo265_2, zo265_3, zo265_5, zo265_7, zo265_8, zy_ldI, zy_ldL, zy_ldA, zy_stI, zy_stL, zy_stA, zy_cI, zy_cL, zy_nul, zy_inc, zy_bI, zy_bL, zy_sL, zy_un, zy_cmp, zy_dup, zy_dup2, zy_pop, zy_pop2, zy_jn, zy_jnn, zy_go, zy_fal, zy_tsw, zy_lsw, zy_get, zy_put, zy_ald, zy_ast, zy_len, zy_newa, zy_new, zy_cal, zy_ret, zy_tak, zy_cst, zy_acp, zy_oini, zy_cln, zy_thr, zy_bad, zy_lco, zy_if0, zy_ic0, zy_if1, zy_ic1, zy_if2, zy_ic2, zy_if3, zy_ic3, zy_if4, zy_ic4, zy_if5, zy_ic5, zK_go, zK_to, zK_end, zK_callH, zK_iteC, zK_none, zsLd, zsSt, zsInc, zsBI, zsBL, zsSL, zsUn, zsCmp, zsDup, zsDup2, zsPop, zsPop2, zsJn, zsTsw, zsLsw, zsGet, zsPut, zsAld, zsAst, zsLen, zsNewa, zsCal, zsRet, zsCst, zsAcp, zsOini, zsCln, zsLco, zsThr, zxBI, zxBL, zxSL, zxU, zset1, zset2, zclr, zcat, zmake_mk, zcomp, zH_i, zH_l, zH_r, zH_u, zH_n, List.set_cons_zero, List.set_cons_succ, List.getElem?_cons_zero, List.getElem?_cons_succ, List.length_cons, List.length_nil, List.take_succ_cons, List.take_zero, List.drop_succ_cons, List.drop_zero, List.reverse_cons, List.reverse_nil, List.nil_append, List.cons_append, List.map_cons, List.map_nil, List.sum_cons, List.sum_nil, Option.toList_some, Option.toList_none, Value.category, Nat.reduceAdd, Nat.reduceMul, Nat.reduceMod, Nat.reduceDiv, Nat.reduceSub, Nat.reduceLT, Nat.reduceLeDiff, Nat.reduceEqDiff, Nat.zero_le, Nat.le_refl, Int32.reduceToNatClampNeg, Int32.reduceLT, Int32.reduceLE, Int32.reduceAdd, Int32.reduceSub, Int32.reduceMul, ↓reduceIte, reduceCtorEq, Nat.add_zero, Nat.zero_add, true_or, or_true, false_or, or_false, true_and, and_true, false_and, and_false, not_true_eq_false, not_false_eq_true, if_true, if_false, true_implies, false_implies, implies_true, forall_const, false_imp_iff, true_imp_iff, va_rf, zlay, zent, List.replicate_zero, List.append_nil, List.replicate_succ, List.length_append, ne_eq, Option.some.injEq, Value.int.injEq, Value.long.injEq, Int32.reduceOfNat, Int32.reduceToInt, Int.reduceLT, Int.reduceLE, Int.reduceSub, Int.reduceToNat, Int.reduceAdd, Int.reduceNeg, Int32.reduceDiv, Int64.reduceAdd, Int64.reduceSub, lg_cmp_ge, lg_cmp_le, lg_cmp_gt, lg_cmp_lt, lg_cmp_eq, wlt_t, wlt_f, wle_t, wle_f, wmod, wI_lt, wI_le, wI_eq, wI_neg, wI_pos, wI_cl, wI_ge, wI_po, w64_lt, w64_le, w64_eq, w64_lt0, w64_le0, w64_eq0, w64_32, zc317, zc319, wI_add, wI_a1, wI_s1, wI_e0, wI_m8, wI_m128, wI_m64, wI_m190, not_true_eq_false, not_false_eq_true, sP_3118_42 hS, sP_3118_45 hS, sP_3118_46 hS, sN_3888 hS, sN_3984 hS, sN_4017 hS, sN_6417 hS]
        exact q
      · simp (decide := true) (disch := omega) only [hk, x3, hn, zi265, zt265, zo265_0, zo265_2, zo265_3, zo265_5, zo265_7, zo265_8, zy_ldI, zy_ldL, zy_ldA, zy_stI, zy_stL, zy_stA, zy_cI, zy_cL, zy_nul, zy_inc, zy_bI, zy_bL, zy_sL, zy_un, zy_cmp, zy_dup, zy_dup2, zy_pop, zy_pop2, zy_jn, zy_jnn, zy_go, zy_fal, zy_tsw, zy_lsw, zy_get, zy_put, zy_ald, zy_ast, zy_len, zy_newa, zy_new, zy_cal, zy_ret, zy_tak, zy_cst, zy_acp, zy_oini, zy_cln, zy_thr, zy_bad, zy_lco, zy_if0, zy_ic0, zy_if1, zy_ic1, zy_if2, zy_ic2, zy_if3, zy_ic3, zy_if4, zy_ic4, zy_if5, zy_ic5, zK_go, zK_to, zK_end, zK_callH, zK_iteC, zK_none, zsLd, zsSt, zsInc, zsBI, zsBL, zsSL, zsUn, zsCmp, zsDup, zsDup2, zsPop, zsPop2, zsJn, zsTsw, zsLsw, zsGet, zsPut, zsAld, zsAst, zsLen, zsNewa, zsCal, zsRet, zsCst, zsAcp, zsOini, zsCln, zsLco, zsThr, zxBI, zxBL, zxSL, zxU, zset1, zset2, zclr, zcat, zmake_mk, zcomp, zH_i, zH_l, zH_r, zH_u, zH_n, List.set_cons_zero, List.set_cons_succ, List.getElem?_cons_zero, List.getElem?_cons_succ, List.length_cons, List.length_nil, List.take_succ_cons, List.take_zero, List.drop_succ_cons, List.drop_zero, List.reverse_cons, List.reverse_nil, List.nil_append, List.cons_append, List.map_cons, List.map_nil, List.sum_cons, List.sum_nil, Option.toList_some, Option.toList_none, Value.category, Nat.reduceAdd, Nat.reduceMul, Nat.reduceMod, Nat.reduceDiv, Nat.reduceSub, Nat.reduceLT, Nat.reduceLeDiff, Nat.reduceEqDiff, Nat.zero_le, Nat.le_refl, Int32.reduceToNatClampNeg, Int32.reduceLT, Int32.reduceLE, Int32.reduceAdd, Int32.reduceSub, Int32.reduceMul, ↓reduceIte, reduceCtorEq, Nat.add_zero, Nat.zero_add, true_or, or_true, false_or, or_false, true_and, and_true, false_and, and_false, not_true_eq_false, not_false_eq_true, if_true, if_false, true_implies, false_implies, implies_true, forall_const, false_imp_iff, true_imp_iff, va_rf, zlay, zent, List.replicate_zero, List.append_nil, List.replicate_succ, List.length_append, ne_eq, Option.some.injEq, Value.int.injEq, Value.long.injEq, Int32.reduceOfNat, Int32.reduceToInt, Int.reduceLT, Int.reduceLE, Int.reduceSub, Int.reduceToNat, Int.reduceAdd, Int.reduceNeg, Int32.reduceDiv, Int64.reduceAdd, Int64.reduceSub, lg_cmp_ge, lg_cmp_le, lg_cmp_gt, lg_cmp_lt, lg_cmp_eq, wlt_t, wlt_f, wle_t, wle_f, wmod, wI_lt, wI_le, wI_eq, wI_neg, wI_pos, wI_cl, wI_ge, wI_po, w64_lt, w64_le, w64_eq, w64_lt0, w64_le0, w64_eq0, w64_32, zc317, zc319, wI_add, wI_a1, wI_s1, wI_e0, wI_m8, wI_m128, wI_m64, wI_m190, not_true_eq_false, not_false_eq_true, sP_3118_42 hS, sP_3118_45 hS, sP_3118_46 hS, sN_3888 hS, sN_3984 hS, sN_4017 hS, sN_6417 hS]
        exact q) (fun I' J' K u1 u2 u3 x1 x2 x3 x4 x5 x6 x7 x8 x9 x10 x11 x12 => by
      have q := l265w (P := P) (N := N) (n := n) (z := z) (Q := Q) (B := B) (K := K) (u1 := u1) (J := J') hS x10 x8 x12 K 0 I' u3 (by omega) x3 x5 (fun i hi => (x11 i hi).2.1) (fun i hi => by omega) (fun I2 y1 y2 => hO I2 J' K x1 (zFm_tr (zFm_tr F0 x2) ⟨fun c _ _ _ _ _ _ z7 => y1 c z7, fun j _ _ _ _ => by rw [y1 3118 (by decide)], fun _ _ _ _ => rfl, fun _ _ => rfl⟩) ⟨⟨by rw [y1 3118 (by decide)]; exact x3, by rw [y1 3118 (by decide)]; exact x4, by rw [y1 3118 (by decide)]; exact x5, x7, x8, x9, x10⟩, fun j hj => by rw [y1 3920 (by decide), y1 3984 (by decide), y1 3792 (by decide), y1 3856 (by decide), y1 3952 (by decide)]; exact x11 j hj, y2⟩ (by rw [y1 3118 (by decide), x6]; simp (disch := omega) only [zu_nj, zu_at]))
      rw [zo265_4]
      simp (decide := true) (disch := omega) only [zi265, zt265, zo265_0, zo265_2, zo265_3, zo265_6, zo265_7, zo265_8, zy_ldI, zy_ldL, zy_ldA, zy_stI, zy_stL, zy_stA, zy_cI, zy_cL, zy_nul, zy_inc, zy_bI, zy_bL, zy_sL, zy_un, zy_cmp, zy_dup, zy_dup2, zy_pop, zy_pop2, zy_jn, zy_jnn, zy_go, zy_fal, zy_tsw, zy_lsw, zy_get, zy_put, zy_ald, zy_ast, zy_len, zy_newa, zy_new, zy_cal, zy_ret, zy_tak, zy_cst, zy_acp, zy_oini, zy_cln, zy_thr, zy_bad, zy_lco, zy_if0, zy_ic0, zy_if1, zy_ic1, zy_if2, zy_ic2, zy_if3, zy_ic3, zy_if4, zy_ic4, zy_if5, zy_ic5, zK_go, zK_to, zK_end, zK_callH, zK_iteC, zK_none, zsLd, zsSt, zsInc, zsBI, zsBL, zsSL, zsUn, zsCmp, zsDup, zsDup2, zsPop, zsPop2, zsJn, zsTsw, zsLsw, zsGet, zsPut, zsAld, zsAst, zsLen, zsNewa, zsCal, zsRet, zsCst, zsAcp, zsOini, zsCln, zsLco, zsThr, zxBI, zxBL, zxSL, zxU, zset1, zset2, zclr, zcat, zmake_mk, zcomp, zH_i, zH_l, zH_r, zH_u, zH_n, List.set_cons_zero, List.set_cons_succ, List.getElem?_cons_zero, List.getElem?_cons_succ, List.length_cons, List.length_nil, List.take_succ_cons, List.take_zero, List.drop_succ_cons, List.drop_zero, List.reverse_cons, List.reverse_nil, List.nil_append, List.cons_append, List.map_cons, List.map_nil, List.sum_cons, List.sum_nil, Option.toList_some, Option.toList_none, Value.category, Nat.reduceAdd, Nat.reduceMul, Nat.reduceMod, Nat.reduceDiv, Nat.reduceSub, Nat.reduceLT, Nat.reduceLeDiff, Nat.reduceEqDiff, Nat.zero_le, Nat.le_refl, Int32.reduceToNatClampNeg, Int32.reduceLT, Int32.reduceLE, Int32.reduceAdd, Int32.reduceSub, Int32.reduceMul, ↓reduceIte, reduceCtorEq, Nat.add_zero, Nat.zero_add, true_or, or_true, false_or, or_false, true_and, and_true, false_and, and_false, not_true_eq_false, not_false_eq_true, if_true, if_false, true_implies, false_implies, implies_true, forall_const, false_imp_iff, true_imp_iff, va_rf, zlay, zent, List.replicate_zero, List.append_nil, List.replicate_succ, List.length_append, ne_eq, Option.some.injEq, Value.int.injEq, Value.long.injEq, Int32.reduceOfNat, Int32.reduceToInt, Int.reduceLT, Int.reduceLE, Int.reduceSub, Int.reduceToNat, Int.reduceAdd, Int.reduceNeg, Int32.reduceDiv, Int64.reduceAdd, Int64.reduceSub, lg_cmp_ge, lg_cmp_le, lg_cmp_gt, lg_cmp_lt, lg_cmp_eq, wlt_t, wlt_f, wle_t, wle_f, wmod, wI_lt, wI_le, wI_eq, wI_neg, wI_pos, wI_cl, wI_ge, wI_po, w64_lt, w64_le, w64_eq, w64_lt0, w64_le0, w64_eq0, w64_32, zc317, zc319, wI_add, wI_a1, wI_s1, wI_e0, wI_m8, wI_m128, wI_m64, wI_m190, not_true_eq_false, not_false_eq_true, sP_3118_42 hS, sP_3118_45 hS, sP_3118_46 hS, sN_3888 hS, sN_3984 hS, sN_4017 hS, sN_6417 hS]
      exact q)
  have e1 : nI ([1] : List Nat).length = 1 := rfl
  rw [e1] at q
  simp (decide := true) (disch := omega) only [zi265, zt265, zo265_0, zo265_2, zo265_3, zo265_5, zo265_6, zo265_7, zo265_8, zy_ldI, zy_ldL, zy_ldA, zy_stI, zy_stL, zy_stA, zy_cI, zy_cL, zy_nul, zy_inc, zy_bI, zy_bL, zy_sL, zy_un, zy_cmp, zy_dup, zy_dup2, zy_pop, zy_pop2, zy_jn, zy_jnn, zy_go, zy_fal, zy_tsw, zy_lsw, zy_get, zy_put, zy_ald, zy_ast, zy_len, zy_newa, zy_new, zy_cal, zy_ret, zy_tak, zy_cst, zy_acp, zy_oini, zy_cln, zy_thr, zy_bad, zy_lco, zy_if0, zy_ic0, zy_if1, zy_ic1, zy_if2, zy_ic2, zy_if3, zy_ic3, zy_if4, zy_ic4, zy_if5, zy_ic5, zK_go, zK_to, zK_end, zK_callH, zK_iteC, zK_none, zsLd, zsSt, zsInc, zsBI, zsBL, zsSL, zsUn, zsCmp, zsDup, zsDup2, zsPop, zsPop2, zsJn, zsTsw, zsLsw, zsGet, zsPut, zsAld, zsAst, zsLen, zsNewa, zsCal, zsRet, zsCst, zsAcp, zsOini, zsCln, zsLco, zsThr, zxBI, zxBL, zxSL, zxU, zset1, zset2, zclr, zcat, zmake_mk, zcomp, zH_i, zH_l, zH_r, zH_u, zH_n, List.set_cons_zero, List.set_cons_succ, List.getElem?_cons_zero, List.getElem?_cons_succ, List.length_cons, List.length_nil, List.take_succ_cons, List.take_zero, List.drop_succ_cons, List.drop_zero, List.reverse_cons, List.reverse_nil, List.nil_append, List.cons_append, List.map_cons, List.map_nil, List.sum_cons, List.sum_nil, Option.toList_some, Option.toList_none, Value.category, Nat.reduceAdd, Nat.reduceMul, Nat.reduceMod, Nat.reduceDiv, Nat.reduceSub, Nat.reduceLT, Nat.reduceLeDiff, Nat.reduceEqDiff, Nat.zero_le, Nat.le_refl, Int32.reduceToNatClampNeg, Int32.reduceLT, Int32.reduceLE, Int32.reduceAdd, Int32.reduceSub, Int32.reduceMul, ↓reduceIte, reduceCtorEq, Nat.add_zero, Nat.zero_add, true_or, or_true, false_or, or_false, true_and, and_true, false_and, and_false, not_true_eq_false, not_false_eq_true, if_true, if_false, true_implies, false_implies, implies_true, forall_const, false_imp_iff, true_imp_iff, va_rf, zlay, zent, List.replicate_zero, List.append_nil, List.replicate_succ, List.length_append, ne_eq, Option.some.injEq, Value.int.injEq, Value.long.injEq, Int32.reduceOfNat, Int32.reduceToInt, Int.reduceLT, Int.reduceLE, Int.reduceSub, Int.reduceToNat, Int.reduceAdd, Int.reduceNeg, Int32.reduceDiv, Int64.reduceAdd, Int64.reduceSub, lg_cmp_ge, lg_cmp_le, lg_cmp_gt, lg_cmp_lt, lg_cmp_eq, wlt_t, wlt_f, wle_t, wle_f, wmod, wI_lt, wI_le, wI_eq, wI_neg, wI_pos, wI_cl, wI_ge, wI_po, w64_lt, w64_le, w64_eq, w64_lt0, w64_le0, w64_eq0, w64_32, zc317, zc319, wI_add, wI_a1, wI_s1, wI_e0, wI_m8, wI_m128, wI_m64, wI_m190, not_true_eq_false, not_false_eq_true, sP_3118_42 hS, sP_3118_45 hS, sP_3118_46 hS, sN_3888 hS, sN_3984 hS, sN_4017 hS, sN_6417 hS]
  exact q
end
/-! the tree -/
theorem zIsp_u {B : Nat → Nat} {j m m' : Nat} (h : zIsp B j m) (h' : zIsp B j m') : m = m' := by
  obtain ⟨a1, a2, a3⟩ := h
  obtain ⟨b1, b2, b3⟩ := h'
  rcases Nat.lt_trichotomy m m' with h | h | h
  · have := b2 m (by omega) h; omega
  · exact h
  · have := a2 m' (by omega) h; omega
theorem zppx_app (V : List Nat) : ∀ Y : List Nat, zppx (Y ++ V) = zppx V ∨ ∃ Y', ¬ Y' = [] ∧ zppx (Y ++ V) = Y' ++ V := by
  intro Y
  induction Y with
  | nil => exact Or.inl rfl
  | cons y Y ih =>
    by_cases hy : y = 0
    · have e : zppx ((y :: Y) ++ V) = zppx (Y ++ V) := by
        show (if y = 0 then zppx (Y ++ V) else _) = _
        rw [if_pos hy]
      rw [e]
      exact ih
    · refine Or.inr ⟨y :: Y, fun h => (by cases h), ?_⟩
      show (if y = 0 then _ else y :: (Y ++ V)) = _
      rw [if_neg hy]
      rfl
/-- the top of the stack is not used up -/
theorem zsq_top {B : Nat → Nat} : ∀ k, (zsq B k).2 = [] ∨ ∃ l W, (zsq B k).2 = (l + 1) :: W := by
  intro k
  cases k with
  | zero => exact Or.inr ⟨0, [], rfl⟩
  | succ k =>
    show zppx (zpus (znH B (zsq B k).1) (zsq B k).2) = [] ∨ _
    have gen : ∀ X : List Nat, zppx X = [] ∨ ∃ l W, zppx X = (l + 1) :: W := by
      intro X
      induction X with
      | nil => exact Or.inl rfl
      | cons x X ih =>
        unfold zppx
        split
        · exact ih
        · exact Or.inr ⟨x - 1, X, by rw [show x - 1 + 1 = x by omega]⟩
    exact gen _
/-- within a node the stack below it stays -/
theorem zsq_in {B : Nat → Nat} {k l : Nat} {W : List Nat} (hk : (zsq B k).2 = (l + 1) :: W) {m : Nat} (h : zIsp B k m) : (∀ i, 0 < i → i < m → ∃ X, ¬ X = [] ∧ (zsq B (k + i)).2 = X ++ (l :: W)) ∧ (zsq B (k + m)).2 = zppx (l :: W) := by
  obtain ⟨h1, h2, h3⟩ := h
  have lv : zlvl B k = W.length + 1 := by show (zsq B k).2.length = _; rw [hk]; rfl
  have st : ∀ i X, ¬ X = [] → (zsq B (k + i)).2 = X ++ (l :: W) → (zsq B (k + (i + 1))).2 = zppx (l :: W) ∨ ∃ X', ¬ X' = [] ∧ (zsq B (k + (i + 1))).2 = X' ++ (l :: W) := by
    intro i X hX e
    cases X with
    | nil => exact absurd rfl hX
    | cons x X =>
      show zppx (zpus (znH B (zsq B (k + i)).1) (zsq B (k + i)).2) = _ ∨ ∃ X', ¬ X' = [] ∧ zppx (zpus (znH B (zsq B (k + i)).1) (zsq B (k + i)).2) = _
      rw [e]
      by_cases hc : 0 < znH B (zsq B (k + i)).1
      · have e2 : zpus (znH B (zsq B (k + i)).1) ((x :: X) ++ (l :: W)) = (znH B (zsq B (k + i)).1 :: (x - 1) :: X) ++ (l :: W) := by
          show (if 0 < znH B (zsq B (k + i)).1 then _ else _) = _
          rw [if_pos hc]
          rfl
        rw [e2]
        exact zppx_app _ _
      · have e2 : zpus (znH B (zsq B (k + i)).1) ((x :: X) ++ (l :: W)) = ((x - 1) :: X) ++ (l :: W) := by
          show (if 0 < znH B (zsq B (k + i)).1 then _ else _) = _
          rw [if_neg hc]
          rfl
        rw [e2]
        exact zppx_app _ _
  have s1 : (zsq B (k + 1)).2 = zppx (l :: W) ∨ ∃ X', ¬ X' = [] ∧ (zsq B (k + 1)).2 = X' ++ (l :: W) := by
    show zppx (zpus (znH B (zsq B k).1) (zsq B k).2) = _ ∨ ∃ X', ¬ X' = [] ∧ zppx (zpus (znH B (zsq B k).1) (zsq B k).2) = _
    rw [hk]
    by_cases hc : 0 < znH B (zsq B k).1
    · have e2 : zpus (znH B (zsq B k).1) ((l + 1) :: W) = [znH B (zsq B k).1] ++ (l :: W) := by
        show (if 0 < znH B (zsq B k).1 then _ else _) = _
        rw [if_pos hc]
        rfl
      rw [e2]
      exact zppx_app _ _
    · have e2 : zpus (znH B (zsq B k).1) ((l + 1) :: W) = [] ++ (l :: W) := by
        show (if 0 < znH B (zsq B k).1 then _ else _) = _
        rw [if_neg hc]
        rfl
      rw [e2]
      exact zppx_app _ _
  have sh : ∀ i, (zsq B (k + i)).2 = zppx (l :: W) → zlvl B (k + i) ≤ zlvl B k := fun i e => by
    show (zsq B (k + i)).2.length ≤ _
    rw [e, lv]
    exact zppx_l _
  have lg : ∀ i X, ¬ X = [] → (zsq B (k + i)).2 = X ++ (l :: W) → zlvl B k < zlvl B (k + i) := fun i X hX e => by
    show _ < (zsq B (k + i)).2.length
    rw [e, List.length_append, lv]
    cases X with
    | nil => exact absurd rfl hX
    | cons x X => show W.length + 1 < X.length + 1 + (W.length + 1); omega
  have key : ∀ i, i + 1 < m → ∃ X, ¬ X = [] ∧ (zsq B (k + (i + 1))).2 = X ++ (l :: W) := by
    intro i
    induction i with
    | zero =>
      intro hi
      rcases s1 with e | e
      · have := sh 1 e
        have := h2 1 (by omega) (by omega)
        omega
      · exact e
    | succ i ih =>
      intro hi
      obtain ⟨X, hX, e⟩ := ih (by omega)
      rcases st (i + 1) X hX e with e | e
      · have := sh (i + 1 + 1) e
        have := h2 (i + 1 + 1) (by omega) (by omega)
        omega
      · exact e
  refine ⟨fun i i1 i2 => ?_, ?_⟩
  · obtain ⟨i, rfl⟩ : ∃ i', i = i' + 1 := ⟨i - 1, by omega⟩
    exact key i i2
  · by_cases hm : m = 1
    · subst hm
      rcases s1 with e | ⟨X, hX, e⟩
      · exact e
      · have := lg 1 X hX e; omega
    · obtain ⟨m, rfl⟩ : ∃ m', m = m' + 1 + 1 := ⟨m - 2, by omega⟩
      obtain ⟨X, hX, e⟩ := key m (by omega)
      rcases st (m + 1) X hX e with e | ⟨X', hX', e⟩
      · exact e
      · have := lg (m + 1 + 1) X' hX' e; omega
/-- how many nodes a node is -/
noncomputable def zSz (B : Nat → Nat) (j : Nat) : Nat := @dite Nat (∃ m, zIsp B j m) (Classical.propDecidable _) (fun h => Classical.choose h) (fun _ => 0)
theorem zSz_i {B : Nat → Nat} {j m : Nat} (h : zIsp B j m) : zSz B j = m := by
  have h' : ∃ m, zIsp B j m := ⟨m, h⟩
  unfold zSz
  rw [dif_pos h']
  exact zIsp_u (Classical.choose_spec h') h
/-- the places of what is within -/
def zWi (Z : Nat → Nat) (k : Nat) : Nat → Nat
  | 0 => k + 1
  | i + 1 => zWi Z k i + Z (zWi Z k i)
theorem zWi_c {B : Nat → Nat} {K k l : Nat} {W : List Nat} (hI : ∀ j, j < K → zIsp B j (zSz B j) ∧ j + zSz B j ≤ K) (hK : (zsq B K).2 = []) (hk : (zsq B k).2 = (l + 1) :: W) (hkK : k < K) (hc : 0 < znH B (zat B k)) :
    ∀ i, i ≤ znH B (zat B k) → k < zWi (zSz B) k i ∧ zWi (zSz B) k i ≤ K ∧ (i < znH B (zat B k) → (zsq B (zWi (zSz B) k i)).2 = (znH B (zat B k) - i) :: l :: W ∧ zWi (zSz B) k i < K) ∧ (i = znH B (zat B k) → (zsq B (zWi (zSz B) k i)).2 = zppx (l :: W)) ∧ ∀ m, k < m → m < zWi (zSz B) k i → zlvl B k < zlvl B m := by
  have lv : zlvl B k = W.length + 1 := by show (zsq B k).2.length = _; rw [hk]; rfl
  have s1 : (zsq B (k + 1)).2 = znH B (zat B k) :: l :: W := by
    show zppx (zpus (znH B (zsq B k).1) (zsq B k).2) = _
    rw [hk]
    show zppx (if 0 < znH B (zat B k) then znH B (zat B k) :: l :: W else l :: W) = _
    rw [if_pos hc]
    show (if znH B (zat B k) = 0 then _ else _) = _
    rw [if_neg (by omega)]
  have nk : ∀ m, m ≤ K → ¬ (zsq B m).2 = [] → m < K := fun m h1 h2 => by
    rcases Nat.lt_or_ge m K with h | h
    · exact h
    · obtain rfl : m = K := by omega
      exact absurd hK h2
  intro i
  induction i with
  | zero =>
    intro _
    refine ⟨by show k < k + 1; omega, by show k + 1 ≤ K; omega, fun _ => ⟨s1, nk (k + 1) (by omega) (by rw [s1]; exact fun h => (by cases h))⟩, fun h => by omega, fun m h1 h2 => ?_⟩
    have h2 : m < k + 1 := h2
    omega
  | succ i ih =>
    intro hi
    obtain ⟨a1, a2, a3, -, a5⟩ := ih (by omega)
    obtain ⟨b1, b2⟩ := a3 (by omega)
    obtain ⟨c1, c2⟩ := hI _ b2
    have b1 : (zsq B (zWi (zSz B) k i)).2 = (znH B (zat B k) - i - 1 + 1) :: l :: W := by rw [b1]; congr 1; omega
    obtain ⟨d1, d2⟩ := zsq_in b1 c1
    have lvi : zlvl B (zWi (zSz B) k i) = W.length + 1 + 1 := by show (zsq B _).2.length = _; rw [b1]; rfl
    have e : zWi (zSz B) k (i + 1) = zWi (zSz B) k i + zSz B (zWi (zSz B) k i) := rfl
    have eN : i + 1 < znH B (zat B k) → (zsq B (zWi (zSz B) k (i + 1))).2 = (znH B (zat B k) - (i + 1)) :: l :: W := fun h => by
      rw [e, d2]
      show (if znH B (zat B k) - i - 1 = 0 then _ else _) = _
      rw [if_neg (by omega)]
      congr 1
    refine ⟨by rw [e]; omega, by rw [e]; exact c2, fun h => ⟨eN h, nk _ (by rw [e]; exact c2) (by rw [eN h]; exact fun h => (by cases h))⟩, fun h => ?_, fun m h1 h2 => ?_⟩
    · rw [e, d2]
      show (if znH B (zat B k) - i - 1 = 0 then _ else _) = _
      rw [if_pos (by omega)]
    · rw [e] at h2
      rcases Nat.lt_trichotomy m (zWi (zSz B) k i) with h | h | h
      · exact a5 m h1 h
      · rw [h, lvi, lv]; omega
      · have := c1.2.1 (m - zWi (zSz B) k i) (by omega) (by omega)
        rw [show zWi (zSz B) k i + (m - zWi (zSz B) k i) = m by omega] at this
        omega
/-- the nodes of data: K of them, Z their sizes -/
theorem zTd {B : Nat → Nat} {K : Nat} (hI : ∀ j, j < K → zIsp B j (zSz B j) ∧ j + zSz B j ≤ K) (hK : (zsq B K).2 = []) (hne : ∀ j, j < K → ¬ (zsq B j).2 = []) (h1 : 1 ≤ K) :
    zSz B 0 = K ∧ ∀ j, j < K → (1 ≤ zSz B j ∧ j + zSz B j ≤ K) ∧ zWi (zSz B) j (znH B (zat B j)) = j + zSz B j ∧ (∀ i, i < znH B (zat B j) → zWi (zSz B) j i < K ∧ zlvl B (zWi (zSz B) j i) = zlvl B j + 1) := by
  refine ⟨?_, fun j hj => ?_⟩
  · obtain ⟨a1, a2⟩ := hI 0 (by omega)
    obtain ⟨-, b2⟩ := zsq_in (B := B) (k := 0) (l := 0) (W := []) rfl a1
    have b2 : (zsq B (0 + zSz B 0)).2 = [] := b2
    apply Classical.byContradiction
    intro h
    exact hne (0 + zSz B 0) (by omega) b2
  · obtain ⟨a1, a2⟩ := hI j hj
    rcases zsq_top (B := B) j with e | ⟨l, W, e⟩
    · exact absurd e (hne j hj)
    · have lv : zlvl B j = W.length + 1 := by show (zsq B j).2.length = _; rw [e]; rfl
      refine ⟨⟨a1.1, a2⟩, ?_, fun i hi => ?_⟩
      · by_cases hc : 0 < znH B (zat B j)
        · obtain ⟨b1, b2, -, b4, b5⟩ := zWi_c hI hK e hj hc (znH B (zat B j)) (Nat.le_refl _)
          have b4 := b4 rfl
          have : zIsp B j (zWi (zSz B) j (znH B (zat B j)) - j) := by
            refine ⟨by omega, fun i i1 i2 => b5 (j + i) (by omega) (by omega), ?_⟩
            rw [show j + (zWi (zSz B) j (znH B (zat B j)) - j) = zWi (zSz B) j (znH B (zat B j)) by omega]
            show (zsq B _).2.length ≤ _
            rw [b4, lv]
            exact zppx_l _
          have := zIsp_u a1 this
          omega
        · have hz : znH B (zat B j) = 0 := by omega
          have e2 : (zsq B (j + 1)).2 = zppx (l :: W) := by
            show zppx (zpus (znH B (zsq B j).1) (zsq B j).2) = _
            rw [e]
            show zppx (if 0 < znH B (zat B j) then _ else _) = _
            rw [if_neg hc]
            rfl
          have : zIsp B j 1 := by
            refine ⟨by omega, fun i i1 i2 => by omega, ?_⟩
            show (zsq B (j + 1)).2.length ≤ _
            rw [e2, lv]
            exact zppx_l _
          have := zIsp_u a1 this
          rw [hz, this]
          rfl
      · obtain ⟨-, -, b3, -, -⟩ := zWi_c hI hK e hj (by omega) i (by omega)
        obtain ⟨b3, b4⟩ := b3 hi
        refine ⟨b4, ?_⟩
        show (zsq B _).2.length = _
        rw [b3, lv]
        rfl
/-- the reading, node by node -/
theorem zdr_i {B : Nat → Nat} {t : Nat} : ∀ r k K, zdr B t r k = (0, 0, K) → ¬ (zsq B k).2 = [] → k + r = 201 → k ≤ 200 → (∀ j, k ≤ j → j < K → ¬ (zsq B j).2 = [] ∧ zsF B t j = 0) ∧ (zsq B K).2 = [] ∧ k < K ∧ K ≤ 200 := by
  intro r
  induction r with
  | zero => intro k K h _ h2; omega
  | succ r ih =>
    intro k K h hne hk hk2
    unfold zdr at h
    split at h
    · rename_i h1
      injection h with h2 h3
      exact absurd h2 h1
    · rename_i h1
      have h1 := Classical.not_not.1 h1
      have hk3 : k < 200 := (znF_h h1).2.2.1
      split at h
      · rename_i h2
        injection h with h3 h4
        injection h4 with h4 h5
        subst h5
        refine ⟨fun j j1 j2 => ?_, h2, by omega, by omega⟩
        obtain rfl : j = k := by omega
        exact ⟨hne, h1⟩
      · rename_i h2
        obtain ⟨a1, a2, a3, a4⟩ := ih (k + 1) K h h2 (by omega) (by omega)
        refine ⟨fun j j1 j2 => ?_, a2, by omega, a4⟩
        by_cases hjk : j = k
        · subst hjk; exact ⟨hne, h1⟩
        · exact a1 j (by omega) j2
