-- needs: 01 02.names 03 04 05 18 19 20 22 23 24 25 30 31 32 33 36 40 42 43 47 60 61 62 63 64 65 66 67
/-! readTerm of the class -/
/-- what the reading of t bytes comes to -/
noncomputable def zTm (B : Nat → Nat) (t : Nat) : Nat × zPS := zPr B t 201 (0, 0, 0, [(1, 0, -1)], fun _ => 0, fun _ => 0, fun _ => 0)
section
variable {I : zI} {J : zJ} {P : zP} {N : Nat → Nat} {n z t : Nat} {Q : Option Value → zS → Prop}
set_option maxRecDepth 20000 in
set_option maxHeartbeats 4000000 in
theorem e108 (hS : zStat P N) (ht : t ≤ 4096)
    (hQ : ∀ I' J', zNs I J I' J' → ((zTm (fun j => zby' (I 239 j)) t).1 = 0 → (zTm (fun j => zby' (I 239 j)) t).2.2.2.2.1 = [] ∧ (zTm (fun j => zby' (I 239 j)) t).2.1 ≤ 200 ∧ (zTm (fun j => zby' (I 239 j)) t).2.2.1 ≤ t ∧ (zTm (fun j => zby' (I 239 j)) t).2.2.2.1 ≤ 60 ∧ zRl I' J' t (zTm (fun j => zby' (I 239 j)) t).2) → Q (some (.int (nI (zTm (fun j => zby' (I 239 j)) t).1))) (I', J', zu P 424 7 (some 239), N, n, z)) :
    zC 108 [.ref 424, .ref 239, .int (nI t)] (I, J, P, N, n, z) Q := by
  have hS' : zStat (zu P 424 7 (some 239)) N := zStat_c hS (fun a j h1 h2 h3 h4 => by unfold zu; rw [if_neg h4]) (fun _ _ _ => rfl)
  have p := fun (Q : Option Value → zS → Prop) => m110 (I := zu (zu (zu (zu (zu I 424 8 (nI t)) 424 11 0) 424 12 0) 424 9 0) 424 6 0) (J := J) (P := zu P 424 7 (some 239)) (N := N) (n := n) (z := z) (w := 0) (x := 1) (y := 0) (o := -1) hS' (by decide) zu_at Q
  have q := l108 (B := fun j => zby' (I 239 j)) (P := zu P 424 7 (some 239)) (N := N) (n := n) (z := z) (t := t) (Q := Q) hS' zu_at ht 201 0 0 0 [(1, 0, -1)] (fun _ => 0) (fun _ => 0) (fun _ => 0) (zu (zu (zu (zu (zu (zu (zu (zu (zu I 424 8 (nI t)) 424 11 0) 424 12 0) 424 9 0) 424 6 0) 560 0 1) 592 0 0) 624 0 (-1)) 424 6 (nI (0 + 1))) J none (by omega) (by omega) (by omega) (by omega) ⟨⟨Nat.zero_le _, by decide, by decide, Or.inl rfl⟩, trivial⟩ (by funext j; simp (disch := omega) only [zuR_ne]) ⟨⟨?_, ?_, ?_, ?_, zu_at, ?_⟩, fun j hj => by omega⟩ (fun I' J' ns hz => hQ I' J' (zNs_tr ⟨fun c h1 h2 h3 h4 h5 h6 => ?_, fun _ _ _ => rfl⟩ ns) hz)
  · simp (decide := true) (disch := omega) only [p, zi108, zt108, zo108_0, zo108_2, zo108_3, zy_ldI, zy_ldL, zy_ldA, zy_stI, zy_stL, zy_stA, zy_cI, zy_cL, zy_nul, zy_inc, zy_bI, zy_bL, zy_sL, zy_un, zy_cmp, zy_dup, zy_dup2, zy_pop, zy_pop2, zy_jn, zy_jnn, zy_go, zy_fal, zy_tsw, zy_lsw, zy_get, zy_put, zy_ald, zy_ast, zy_len, zy_newa, zy_new, zy_cal, zy_ret, zy_tak, zy_cst, zy_acp, zy_oini, zy_cln, zy_thr, zy_bad, zy_lco, zy_if0, zy_ic0, zy_if1, zy_ic1, zy_if2, zy_ic2, zy_if3, zy_ic3, zy_if4, zy_ic4, zy_if5, zy_ic5, zK_go, zK_to, zK_end, zK_callH, zK_iteC, zK_none, zsLd, zsSt, zsInc, zsBI, zsBL, zsSL, zsUn, zsCmp, zsDup, zsDup2, zsPop, zsPop2, zsJn, zsTsw, zsLsw, zsGet, zsPut, zsAld, zsAst, zsLen, zsNewa, zsCal, zsRet, zsCst, zsAcp, zsOini, zsCln, zsLco, zsThr, zxBI, zxBL, zxSL, zxU, zset1, zset2, zclr, zcat, zmake_mk, zcomp, zH_i, zH_l, zH_r, zH_u, zH_n, List.set_cons_zero, List.set_cons_succ, List.getElem?_cons_zero, List.getElem?_cons_succ, List.length_cons, List.length_nil, List.take_succ_cons, List.take_zero, List.drop_succ_cons, List.drop_zero, List.reverse_cons, List.reverse_nil, List.nil_append, List.cons_append, List.map_cons, List.map_nil, List.sum_cons, List.sum_nil, Option.toList_some, Option.toList_none, Value.category, Nat.reduceAdd, Nat.reduceMul, Nat.reduceMod, Nat.reduceDiv, Nat.reduceSub, Nat.reduceLT, Nat.reduceLeDiff, Nat.reduceEqDiff, Nat.zero_le, Nat.le_refl, Int32.reduceToNatClampNeg, Int32.reduceLT, Int32.reduceLE, Int32.reduceAdd, Int32.reduceSub, Int32.reduceMul, ↓reduceIte, reduceCtorEq, Nat.add_zero, Nat.zero_add, true_or, or_true, false_or, or_false, true_and, and_true, false_and, and_false, not_true_eq_false, not_false_eq_true, if_true, if_false, true_implies, false_implies, implies_true, forall_const, false_imp_iff, true_imp_iff, va_rf, zlay, zent, List.replicate_zero, List.append_nil, List.replicate_succ, List.length_append, ne_eq, Option.some.injEq, Value.int.injEq, Value.long.injEq, Int32.reduceOfNat, Int32.reduceToInt, Int.reduceLT, Int.reduceLE, Int.reduceSub, Int.reduceToNat, Int.reduceAdd, Int.reduceNeg, Int32.reduceDiv, Int64.reduceAdd, Int64.reduceSub, lg_cmp_ge, lg_cmp_le, lg_cmp_gt, lg_cmp_lt, lg_cmp_eq, wlt_t, wlt_f, wle_t, wle_f, wmod, wI_lt, wI_le, wI_eq, wI_neg, wI_pos, wI_cl, wI_ge, wI_po, w64_lt, w64_le, w64_eq, w64_lt0, w64_le0, w64_eq0, w64_32, zc317, zc319, wI_add, wI_a1, wI_s1, wI_e0, wI_m8, wI_m128, wI_m64, wI_m190, not_true_eq_false, not_false_eq_true, sN_6417 hS]
    exact q
  · simp (disch := omega) only [zuR_ne, zu_nj, zu_at]
    rfl
  · simp (disch := omega) only [zuR_ne, zu_nj, zu_at]
    rfl
  · simp (disch := omega) only [zuR_ne, zu_nj, zu_at]
    rfl
  · simp (disch := omega) only [zuR_ne, zu_nj, zu_at]
  · refine ⟨?_, ?_, ?_, trivial⟩
    · show zu _ _ _ _ 560 0 = nI 1
      simp (disch := omega) only [zuR_ne, zu_nj, zu_at]
      rfl
    · show zu _ _ _ _ 592 0 = nI 0
      simp (disch := omega) only [zuR_ne, zu_nj, zu_at]
      rfl
    · show zu _ _ _ _ 624 0 = -1
      simp (disch := omega) only [zuR_ne, zu_nj, zu_at]
  · simp (disch := omega) only [zuR_ne]
end
