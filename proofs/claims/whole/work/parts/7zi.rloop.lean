-- needs: 01 02.names 03 04 05 18 19 20 22 23 24 25 30 31 32 33 36 40 42 43 44 46 47 60 61 62 63 64 79f 79g 79h 79i 79j 79k 79l 79m 79n 79o 79p 79q 79r 79s 79t 79u 7a 7b 7c 7d 7e 7f 7g 7h 7i 7j 7k 7l 7m 7n 7o 7p 7q 7r 7s 7t 7u 7v 7w 7x 7y 7z. 7za 7zb 7zc 7zd 7ze 7zf 7zg 7zh
/-! The reference's machine runs as ours does -/
def yOr (r : Nat → Nat) (I : zI) (J : zJ) : yM → Prop
  | (tab, _, _, x, _, _, S, W, a) => I 4908 44 = nI a ∧ I 4908 45 = nI S ∧ I 4908 46 = nI W ∧ a < 7 ∧ S ≤ 20000 ∧ W ≤ 3000 ∧ (a = 0 → r x < 3700 ∧ I 4908 50 = nI (r x) ∧ I 5168 (r x) = nI (tab x).1 ∧ (tab x).1 < 8 ∧ ((tab x).1 = 2 → J 5201 (r x) = (tab x).2.1))
def yas9 : yM → Nat
  | (_, _, _, _, _, _, _, _, a) => a
section
variable {I I0 : zI} {J J0 : zJ} {P : zP} {N : Nat → Nat} {n z te de re rm c0 : Nat} {r u : Nat → Nat} {Q : Option Value → zS → Prop} {Kd Sc l : Nat → Nat} {Nm : Nat → Int64} {M : Nat} {s0 : yM} {w1 w2 w3 w4 : Option Value}
set_option maxRecDepth 20000 in
/-- it is over -/
theorem l225o {tab : Nat → yV} {top x S W a : Nat} {e : List Nat} {st : List (Nat × Nat × List Nat)} (hS : zStat P N) (h7 : a < 7) (hw : ywm Kd l M (tab, top, 2, x, e, st, S, W, a)) (hs : yRS Kd Sc Nm M c0 r u I J te de re rm (tab, top, 2, x, e, st, S, W, a)) (hQ : ∀ I' J', yRF I J I' J' → yOr r I' J' (tab, top, 2, x, e, st, S, W, a) → Q (some (.int (nI a))) (I', J', P, N, n, z)) : yRL P N n z Q w1 w2 w3 w4 I J := by
  obtain ⟨h1, h2, h3, h4⟩ := hs
  generalize h53 : I 4908 53 = cm
  have q := hQ (zu (zu I 4908 44 (nI a)) 4908 50 cm) J (yRF_m (fun c h _ _ _ _ => by simp only [zuR_ne h])) ⟨by rw [zu_nj (by decide), zu_at], by simp (disch := omega) only [zu_nj, h2], by simp (disch := omega) only [zu_nj, h3], h7, hw.1.2.2.1, hw.1.2.2.2.1, fun h0 => by
    obtain ⟨x1, x2, x3, x4, x5, x6⟩ := h4 h0
    have vx := hw.2.1 x (hw.2.2.2.2 (Or.inr ⟨rfl, h0⟩))
    refine ⟨x3, by rw [zu_at, ← h53, x4], by rw [zuR_ne (by decide), zuR_ne (by decide), x5], ?_, x6⟩
    generalize tab x = w at vx
    obtain ⟨kd, nm, bd, ee, K, F, C, T, Z, L, Y⟩ := w
    exact vx.1⟩
  unfold yRL
  rw [zo225_11]
  by_cases h0 : a = 0
  · obtain ⟨x1, x2, -, -, -, -⟩ := h4 h0
    clear h4
    subst h0
    have h1 : I 4908 49 = 0 := h1
    have nn : ¬ (0 : Int32) ≤ -1 := by decide
    have z0 : ((0 : Int32) ≤ 0) = True := eq_true (by decide)
    simp (decide := true) (disch := omega) only [h1, x1, nn, x2, z0, h53, zuR_ne, zu_nj, zu_at, zi225, zt225, zo225_0, zo225_1, zo225_2, zo225_3, zo225_4, zo225_5, zo225_6, zo225_7, zo225_8, zo225_9, zo225_10, zo225_12, zo225_13, zo225_14, zy_ldI, zy_ldL, zy_ldA, zy_stI, zy_stL, zy_stA, zy_cI, zy_cL, zy_nul, zy_inc, zy_bI, zy_bL, zy_sL, zy_un, zy_cmp, zy_dup, zy_dup2, zy_pop, zy_pop2, zy_jn, zy_jnn, zy_go, zy_fal, zy_tsw, zy_lsw, zy_get, zy_put, zy_ald, zy_ast, zy_len, zy_newa, zy_new, zy_cal, zy_ret, zy_tak, zy_cst, zy_acp, zy_oini, zy_cln, zy_thr, zy_bad, zy_lco, zy_if0, zy_ic0, zy_if1, zy_ic1, zy_if2, zy_ic2, zy_if3, zy_ic3, zy_if4, zy_ic4, zy_if5, zy_ic5, zK_go, zK_to, zK_end, zK_callH, zK_iteC, zK_none, zsLd, zsSt, zsInc, zsBI, zsBL, zsSL, zsUn, zsCmp, zsDup, zsDup2, zsPop, zsPop2, zsJn, zsTsw, zsLsw, zsGet, zsPut, zsAld, zsAst, zsLen, zsNewa, zsCal, zsRet, zsCst, zsAcp, zsOini, zsCln, zsLco, zsThr, zxBI, zxBL, zxSL, zxU, zset1, zset2, zclr, zcat, zmake_mk, zcomp, zH_i, zH_l, zH_r, zH_u, zH_n, List.set_cons_zero, List.set_cons_succ, List.getElem?_cons_zero, List.getElem?_cons_succ, List.length_cons, List.length_nil, List.take_succ_cons, List.take_zero, List.drop_succ_cons, List.drop_zero, List.reverse_cons, List.reverse_nil, List.nil_append, List.cons_append, List.map_cons, List.map_nil, List.sum_cons, List.sum_nil, Option.toList_some, Option.toList_none, Value.category, Nat.reduceAdd, Nat.reduceMul, Nat.reduceMod, Nat.reduceDiv, Nat.reduceSub, Nat.reduceLT, Nat.reduceLeDiff, Nat.reduceEqDiff, Nat.zero_le, Nat.le_refl, Int32.reduceToNatClampNeg, Int32.reduceLT, Int32.reduceLE, Int32.reduceAdd, Int32.reduceSub, Int32.reduceMul, ↓reduceIte, reduceCtorEq, Nat.add_zero, Nat.zero_add, true_or, or_true, false_or, or_false, true_and, and_true, false_and, and_false, not_true_eq_false, not_false_eq_true, if_true, if_false, true_implies, false_implies, implies_true, forall_const, false_imp_iff, true_imp_iff, va_rf, zlay, zent, List.replicate_zero, List.append_nil, List.replicate_succ, List.length_append, ne_eq, Option.some.injEq, Value.int.injEq, Value.long.injEq, Int32.reduceOfNat, Int32.reduceToInt, Int.reduceLT, Int.reduceLE, Int.reduceSub, Int.reduceToNat, Int.reduceAdd, Int.reduceNeg, Int32.reduceDiv, Int64.reduceAdd, Int64.reduceSub, lg_cmp_ge, lg_cmp_le, lg_cmp_gt, lg_cmp_lt, lg_cmp_eq, wlt_t, wlt_f, wle_t, wle_f, wmod, wI_lt, wI_le, wI_eq, wI_neg, wI_pos, wI_cl, wI_ge, wI_po, w64_lt, w64_le, w64_eq, w64_lt0, w64_le0, w64_eq0, w64_32, zc317, zc319, wI_add, wI_a1, wI_s1, wI_e0, wI_m8, wI_m128, wI_m64, wI_m190, not_true_eq_false, not_false_eq_true, sP_4908_5 hS, sP_4908_8 hS, sP_4908_29 hS, sP_4908_30 hS, sN_5072 hS, sN_5136 hS, sN_5648 hS, sN_5680 hS, sN_6417 hS]
    exact q
  · clear h4
    have n0 : ¬ nI a = 0 := by rw [show (0 : Int32) = nI 0 from rfl, wI_eq (by omega) (by omega)]; exact h0
    simp (decide := true) (disch := omega) only [h1, h0, n0, h53, zuR_ne, zu_nj, zu_at, zi225, zt225, zo225_0, zo225_1, zo225_2, zo225_3, zo225_4, zo225_5, zo225_6, zo225_7, zo225_8, zo225_9, zo225_10, zo225_12, zo225_13, zo225_14, zy_ldI, zy_ldL, zy_ldA, zy_stI, zy_stL, zy_stA, zy_cI, zy_cL, zy_nul, zy_inc, zy_bI, zy_bL, zy_sL, zy_un, zy_cmp, zy_dup, zy_dup2, zy_pop, zy_pop2, zy_jn, zy_jnn, zy_go, zy_fal, zy_tsw, zy_lsw, zy_get, zy_put, zy_ald, zy_ast, zy_len, zy_newa, zy_new, zy_cal, zy_ret, zy_tak, zy_cst, zy_acp, zy_oini, zy_cln, zy_thr, zy_bad, zy_lco, zy_if0, zy_ic0, zy_if1, zy_ic1, zy_if2, zy_ic2, zy_if3, zy_ic3, zy_if4, zy_ic4, zy_if5, zy_ic5, zK_go, zK_to, zK_end, zK_callH, zK_iteC, zK_none, zsLd, zsSt, zsInc, zsBI, zsBL, zsSL, zsUn, zsCmp, zsDup, zsDup2, zsPop, zsPop2, zsJn, zsTsw, zsLsw, zsGet, zsPut, zsAld, zsAst, zsLen, zsNewa, zsCal, zsRet, zsCst, zsAcp, zsOini, zsCln, zsLco, zsThr, zxBI, zxBL, zxSL, zxU, zset1, zset2, zclr, zcat, zmake_mk, zcomp, zH_i, zH_l, zH_r, zH_u, zH_n, List.set_cons_zero, List.set_cons_succ, List.getElem?_cons_zero, List.getElem?_cons_succ, List.length_cons, List.length_nil, List.take_succ_cons, List.take_zero, List.drop_succ_cons, List.drop_zero, List.reverse_cons, List.reverse_nil, List.nil_append, List.cons_append, List.map_cons, List.map_nil, List.sum_cons, List.sum_nil, Option.toList_some, Option.toList_none, Value.category, Nat.reduceAdd, Nat.reduceMul, Nat.reduceMod, Nat.reduceDiv, Nat.reduceSub, Nat.reduceLT, Nat.reduceLeDiff, Nat.reduceEqDiff, Nat.zero_le, Nat.le_refl, Int32.reduceToNatClampNeg, Int32.reduceLT, Int32.reduceLE, Int32.reduceAdd, Int32.reduceSub, Int32.reduceMul, ↓reduceIte, reduceCtorEq, Nat.add_zero, Nat.zero_add, true_or, or_true, false_or, or_false, true_and, and_true, false_and, and_false, not_true_eq_false, not_false_eq_true, if_true, if_false, true_implies, false_implies, implies_true, forall_const, false_imp_iff, true_imp_iff, va_rf, zlay, zent, List.replicate_zero, List.append_nil, List.replicate_succ, List.length_append, ne_eq, Option.some.injEq, Value.int.injEq, Value.long.injEq, Int32.reduceOfNat, Int32.reduceToInt, Int.reduceLT, Int.reduceLE, Int.reduceSub, Int.reduceToNat, Int.reduceAdd, Int.reduceNeg, Int32.reduceDiv, Int64.reduceAdd, Int64.reduceSub, lg_cmp_ge, lg_cmp_le, lg_cmp_gt, lg_cmp_lt, lg_cmp_eq, wlt_t, wlt_f, wle_t, wle_f, wmod, wI_lt, wI_le, wI_eq, wI_neg, wI_pos, wI_cl, wI_ge, wI_po, w64_lt, w64_le, w64_eq, w64_lt0, w64_le0, w64_eq0, w64_32, zc317, zc319, wI_add, wI_a1, wI_s1, wI_e0, wI_m8, wI_m128, wI_m64, wI_m190, not_true_eq_false, not_false_eq_true, sP_4908_5 hS, sP_4908_8 hS, sP_4908_29 hS, sP_4908_30 hS, sN_5072 hS, sN_5136 hS, sN_5648 hS, sN_5680 hS, sN_6417 hS]
    exact q
set_option maxRecDepth 20000 in
set_option maxHeartbeats 4000000 in
theorem l225 (hS : zStat P N) (hh : yRh Kd M c0 r) (hc : yco Kd Sc Nm l M) (hw : ywm Kd l M s0) (h7 : yan7 s0) (hQ : ∀ I' J' k, yend (yit Kd Sc Nm s0 k) → yRF I0 J0 I' J' → yOr r I' J' (yit Kd Sc Nm s0 k) → Q (some (.int (nI (yas9 (yit Kd Sc Nm s0 k))))) (I', J', P, N, n, z)) : ∀ b t k (I : zI) (J : zJ) te de re rm, t + b = 120010 → yRF I0 J0 I J → yRS Kd Sc Nm M c0 r u I J te de re rm (yit Kd Sc Nm s0 k) → (yend (yit Kd Sc Nm s0 k) ∨ t + yph (yit Kd Sc Nm s0 k).2.2.2.2.2.1 ≤ 6 * (yit Kd Sc Nm s0 k).2.2.2.2.2.2.1) → yRL P N n z Q w1 w2 w3 w4 I J := by
  intro b
  induction b with
  | zero =>
    intro t k I J te de re rm hb hf hs hm
    have wk := ywm_i hc hw k
    have a7 := yan7_i (Kd := Kd) (Sc := Sc) (Nm := Nm) h7 k
    have fin := fun I' J' => hQ I' J' k
    generalize yit Kd Sc Nm s0 k = s at wk hs hm fin a7
    obtain ⟨tab, top, m, x, e, st, S, W, a⟩ := s
    have w3 := wk.1.2.2.1
    have hm2 : m = 2 := by
      rcases hm with h | h
      · exact h
      · exfalso
        have h : t + yph st ≤ 6 * S := h
        omega
    subst hm2
    exact l225o (l := l) (tab := tab) (top := top) (x := x) (e := e) (st := st) (S := S) (W := W) (a := a) hS a7 wk hs (fun I' J' x1 x2 => fin I' J' rfl (yRF_t hf x1) x2)
  | succ b ih =>
    intro t k I J te de re rm hb hf hs hm
    have wk := ywm_i hc hw k
    have a7 := yan7_i (Kd := Kd) (Sc := Sc) (Nm := Nm) h7 k
    have nx : yit Kd Sc Nm s0 (k + 1) = yst Kd Sc Nm (yit Kd Sc Nm s0 k) := rfl
    have fin := fun I' J' => hQ I' J' k
    generalize yit Kd Sc Nm s0 k = s at wk nx hs hm fin a7
    obtain ⟨tab, top, m, x, e, st, S, W, a⟩ := s
    have wk' := wk
    obtain ⟨⟨v1, v2, v3, v4, v5, v6⟩, wv, ws, wx, wy⟩ := wk'
    have hm' : m = 0 ∨ m = 1 ∨ m = 2 := by omega
    rcases hm' with rfl | rfl | rfl
    · have hm : t + yph st ≤ 6 * S := by
        rcases hm with h | h
        · cases h
        · exact h
      refine s225e (l := l) (x := x) (e := e) (st := st) (S := S) (W := W) (tab := tab) (top := top) hS hh hc ⟨⟨v1, v2, v3, v4, v5, v6⟩, wv, ws, wx, fun h => by omega⟩ hs (fun I' J' te' de' re' rm' a1 a2 => ?_)
      have e1 : yit Kd Sc Nm s0 (k + 1) = yev Kd Nm tab top x e st S W := nx
      refine ih (t + 1) (k + 1) I' J' te' de' re' rm' (by omega) (yRF_t hf a1) (by rw [e1]; exact a2) ?_
      rw [e1]
      rcases ymu_e (Kd := Kd) (Nm := Nm) (tab := tab) (top := top) (x := x) (e := e) (st := st) (S := S) (W := W) with h | h
      · exact Or.inl h
      · exact Or.inr (by omega)
    · have hm : t + yph st ≤ 6 * S := by
        rcases hm with h | h
        · cases h
        · exact h
      have vx := wy (Or.inl rfl)
      have e1 : yit Kd Sc Nm s0 (k + 1) = ygv Sc tab top x st S W := nx
      match st, hs, ws, v5, hm, e1 with
      | [], hs, ws, v5, hm, e1 =>
        have e1 : yit Kd Sc Nm s0 (k + 1) = yov tab top x S W 0 := e1
        have fin := fun I' J' => hQ I' J' (k + 1)
        rw [e1] at fin
        obtain ⟨hR, h51, h53⟩ := hs
        obtain ⟨-, -, ⟨f1, f2, f3, f4, f5, f6⟩, -, rv, -⟩ := hR
        have f1 : I 4908 36 = 0 := f1
        have lx := yRh_l hh v1 vx
        have hc0 := hh.1
        have cx := rv x vx
        have wvx := wv x vx
        have key : I 5168 (r x) = nI (tab x).1 ∧ (tab x).1 < 8 ∧ ((tab x).1 = 2 → J 5201 (r x) = (tab x).2.1) := by
          generalize tab x = w at cx wvx
          obtain ⟨kd, nm, bd, ee, K, F, C, T, Z, L, Y⟩ := w
          exact ⟨cx.1, wvx.1, fun h => cx.2.1 (Or.inr (Or.inl h))⟩
        have q := fin (zu (zu I 4908 44 0) 4908 50 (nI (r x))) J rfl (yRF_t hf (yRF_m (fun c h _ _ _ _ => by simp only [zuR_ne h]))) ⟨by rw [zu_nj (by decide), zu_at]; rfl, by simp (disch := omega) only [zu_nj, f2], by simp (disch := omega) only [zu_nj, f3], by omega, v3, v4, fun _ => ⟨by omega, zu_at, by rw [zuR_ne (by decide), zuR_ne (by decide)]; exact key.1, key.2.1, key.2.2⟩⟩
        have nn : ¬ (0 : Int32) ≤ -1 := by decide
        have z0 : ((0 : Int32) ≤ 0) = True := eq_true (by decide)
        unfold yRL
        rw [zo225_11]
        simp (decide := true) (disch := omega) only [f6, h51, nn, f1, z0, h53, zuR_ne, zu_nj, zu_at, zi225, zt225, zo225_0, zo225_1, zo225_2, zo225_3, zo225_4, zo225_5, zo225_6, zo225_7, zo225_8, zo225_9, zo225_10, zo225_12, zo225_13, zo225_14, zy_ldI, zy_ldL, zy_ldA, zy_stI, zy_stL, zy_stA, zy_cI, zy_cL, zy_nul, zy_inc, zy_bI, zy_bL, zy_sL, zy_un, zy_cmp, zy_dup, zy_dup2, zy_pop, zy_pop2, zy_jn, zy_jnn, zy_go, zy_fal, zy_tsw, zy_lsw, zy_get, zy_put, zy_ald, zy_ast, zy_len, zy_newa, zy_new, zy_cal, zy_ret, zy_tak, zy_cst, zy_acp, zy_oini, zy_cln, zy_thr, zy_bad, zy_lco, zy_if0, zy_ic0, zy_if1, zy_ic1, zy_if2, zy_ic2, zy_if3, zy_ic3, zy_if4, zy_ic4, zy_if5, zy_ic5, zK_go, zK_to, zK_end, zK_callH, zK_iteC, zK_none, zsLd, zsSt, zsInc, zsBI, zsBL, zsSL, zsUn, zsCmp, zsDup, zsDup2, zsPop, zsPop2, zsJn, zsTsw, zsLsw, zsGet, zsPut, zsAld, zsAst, zsLen, zsNewa, zsCal, zsRet, zsCst, zsAcp, zsOini, zsCln, zsLco, zsThr, zxBI, zxBL, zxSL, zxU, zset1, zset2, zclr, zcat, zmake_mk, zcomp, zH_i, zH_l, zH_r, zH_u, zH_n, List.set_cons_zero, List.set_cons_succ, List.getElem?_cons_zero, List.getElem?_cons_succ, List.length_cons, List.length_nil, List.take_succ_cons, List.take_zero, List.drop_succ_cons, List.drop_zero, List.reverse_cons, List.reverse_nil, List.nil_append, List.cons_append, List.map_cons, List.map_nil, List.sum_cons, List.sum_nil, Option.toList_some, Option.toList_none, Value.category, Nat.reduceAdd, Nat.reduceMul, Nat.reduceMod, Nat.reduceDiv, Nat.reduceSub, Nat.reduceLT, Nat.reduceLeDiff, Nat.reduceEqDiff, Nat.zero_le, Nat.le_refl, Int32.reduceToNatClampNeg, Int32.reduceLT, Int32.reduceLE, Int32.reduceAdd, Int32.reduceSub, Int32.reduceMul, ↓reduceIte, reduceCtorEq, Nat.add_zero, Nat.zero_add, true_or, or_true, false_or, or_false, true_and, and_true, false_and, and_false, not_true_eq_false, not_false_eq_true, if_true, if_false, true_implies, false_implies, implies_true, forall_const, false_imp_iff, true_imp_iff, va_rf, zlay, zent, List.replicate_zero, List.append_nil, List.replicate_succ, List.length_append, ne_eq, Option.some.injEq, Value.int.injEq, Value.long.injEq, Int32.reduceOfNat, Int32.reduceToInt, Int.reduceLT, Int.reduceLE, Int.reduceSub, Int.reduceToNat, Int.reduceAdd, Int.reduceNeg, Int32.reduceDiv, Int64.reduceAdd, Int64.reduceSub, lg_cmp_ge, lg_cmp_le, lg_cmp_gt, lg_cmp_lt, lg_cmp_eq, wlt_t, wlt_f, wle_t, wle_f, wmod, wI_lt, wI_le, wI_eq, wI_neg, wI_pos, wI_cl, wI_ge, wI_po, w64_lt, w64_le, w64_eq, w64_lt0, w64_le0, w64_eq0, w64_32, zc317, zc319, wI_add, wI_a1, wI_s1, wI_e0, wI_m8, wI_m128, wI_m64, wI_m190, not_true_eq_false, not_false_eq_true, sP_4908_5 hS, sP_4908_8 hS, sP_4908_29 hS, sP_4908_30 hS, sN_5072 hS, sN_5136 hS, sN_5648 hS, sN_5680 hS, sN_6417 hS]
        exact q
      | f0 :: st, hs, ws, v5, hm, e1 =>
        refine s225g (l := l) (v := x) (e := e) (f0 := f0) (st := st) (S := S) (W := W) (tab := tab) (top := top) hS hh hc ⟨⟨v1, v2, v3, v4, v5, v6⟩, wv, ws, fun h => by omega, fun _ => vx⟩ hs (fun I' J' te' de' re' rm' a1 a2 => ?_)
        have tn : 1 ≤ ytn (f0 :: st) := by
          obtain ⟨k, y, e⟩ := f0
          show 1 ≤ (if k = 1 then 4 else 1)
          split <;> omega
        refine ih (t + 1) (k + 1) I' J' te' de' re' rm' (by omega) (yRF_t hf a1) (by rw [e1]; exact a2) ?_
        rw [e1]
        rcases ymu_g (Sc := Sc) (tab := tab) (v := x) (S := S) (W := W) ws with h | h
        · exact Or.inl h
        · exact Or.inr (by omega)
    · exact l225o (l := l) (tab := tab) (top := top) (x := x) (e := e) (st := st) (S := S) (W := W) (a := a) hS a7 wk hs (fun I' J' x1 x2 => fin I' J' rfl (yRF_t hf x1) x2)
set_option maxRecDepth 20000 in
theorem m226 {s : yM} (hS : zStat P N) (h : yOr r I J s) (Q : Option Value → zS → Prop) : zC 226 [.ref 4908] (I, J, P, N, n, z) Q = Q (some (.int (ykn s))) (I, J, P, N, n, z) := by
  refine zC_eq (fun Q hQ => ?_) Q
  obtain ⟨tab, top, m, x, e, st, S, W, a⟩ := s
  obtain ⟨h1, h2, h3, h4, -, -, h5⟩ := h
  have hQ : Q (some (.int (if a = 0 then nI (tab x).1 else -1))) (I, J, P, N, n, z) := hQ
  by_cases h0 : a = 0
  · rw [if_pos h0] at hQ
    obtain ⟨x1, x2, x3, x4, x5⟩ := h5 h0
    rw [h0] at h1
    have h1 : I 4908 44 = 0 := h1
    simp (decide := true) (disch := omega) only [h1, x2, x3, zi226, zt226, zo226_0, zo226_1, zo226_2, zy_ldI, zy_ldL, zy_ldA, zy_stI, zy_stL, zy_stA, zy_cI, zy_cL, zy_nul, zy_inc, zy_bI, zy_bL, zy_sL, zy_un, zy_cmp, zy_dup, zy_dup2, zy_pop, zy_pop2, zy_jn, zy_jnn, zy_go, zy_fal, zy_tsw, zy_lsw, zy_get, zy_put, zy_ald, zy_ast, zy_len, zy_newa, zy_new, zy_cal, zy_ret, zy_tak, zy_cst, zy_acp, zy_oini, zy_cln, zy_thr, zy_bad, zy_lco, zy_if0, zy_ic0, zy_if1, zy_ic1, zy_if2, zy_ic2, zy_if3, zy_ic3, zy_if4, zy_ic4, zy_if5, zy_ic5, zK_go, zK_to, zK_end, zK_callH, zK_iteC, zK_none, zsLd, zsSt, zsInc, zsBI, zsBL, zsSL, zsUn, zsCmp, zsDup, zsDup2, zsPop, zsPop2, zsJn, zsTsw, zsLsw, zsGet, zsPut, zsAld, zsAst, zsLen, zsNewa, zsCal, zsRet, zsCst, zsAcp, zsOini, zsCln, zsLco, zsThr, zxBI, zxBL, zxSL, zxU, zset1, zset2, zclr, zcat, zmake_mk, zcomp, zH_i, zH_l, zH_r, zH_u, zH_n, List.set_cons_zero, List.set_cons_succ, List.getElem?_cons_zero, List.getElem?_cons_succ, List.length_cons, List.length_nil, List.take_succ_cons, List.take_zero, List.drop_succ_cons, List.drop_zero, List.reverse_cons, List.reverse_nil, List.nil_append, List.cons_append, List.map_cons, List.map_nil, List.sum_cons, List.sum_nil, Option.toList_some, Option.toList_none, Value.category, Nat.reduceAdd, Nat.reduceMul, Nat.reduceMod, Nat.reduceDiv, Nat.reduceSub, Nat.reduceLT, Nat.reduceLeDiff, Nat.reduceEqDiff, Nat.zero_le, Nat.le_refl, Int32.reduceToNatClampNeg, Int32.reduceLT, Int32.reduceLE, Int32.reduceAdd, Int32.reduceSub, Int32.reduceMul, ↓reduceIte, reduceCtorEq, Nat.add_zero, Nat.zero_add, true_or, or_true, false_or, or_false, true_and, and_true, false_and, and_false, not_true_eq_false, not_false_eq_true, if_true, if_false, true_implies, false_implies, implies_true, forall_const, false_imp_iff, true_imp_iff, va_rf, zlay, zent, List.replicate_zero, List.append_nil, List.replicate_succ, List.length_append, ne_eq, Option.some.injEq, Value.int.injEq, Value.long.injEq, Int32.reduceOfNat, Int32.reduceToInt, Int.reduceLT, Int.reduceLE, Int.reduceSub, Int.reduceToNat, Int.reduceAdd, Int.reduceNeg, Int32.reduceDiv, Int64.reduceAdd, Int64.reduceSub, lg_cmp_ge, lg_cmp_le, lg_cmp_gt, lg_cmp_lt, lg_cmp_eq, wlt_t, wlt_f, wle_t, wle_f, wmod, wI_lt, wI_le, wI_eq, wI_neg, wI_pos, wI_cl, wI_ge, wI_po, w64_lt, w64_le, w64_eq, w64_lt0, w64_le0, w64_eq0, w64_32, zc317, zc319, wI_add, wI_a1, wI_s1, wI_e0, wI_m8, wI_m128, wI_m64, wI_m190, not_true_eq_false, not_false_eq_true, sP_4908_10 hS, sN_5168 hS, sN_6417 hS]
    exact hQ
  · rw [if_neg h0] at hQ
    have n0 : ¬ nI a = 0 := by rw [show (0 : Int32) = nI 0 from rfl, wI_eq (by omega) (by omega)]; exact h0
    simp (decide := true) (disch := omega) only [h1, h0, n0, zi226, zt226, zo226_0, zo226_1, zo226_2, zy_ldI, zy_ldL, zy_ldA, zy_stI, zy_stL, zy_stA, zy_cI, zy_cL, zy_nul, zy_inc, zy_bI, zy_bL, zy_sL, zy_un, zy_cmp, zy_dup, zy_dup2, zy_pop, zy_pop2, zy_jn, zy_jnn, zy_go, zy_fal, zy_tsw, zy_lsw, zy_get, zy_put, zy_ald, zy_ast, zy_len, zy_newa, zy_new, zy_cal, zy_ret, zy_tak, zy_cst, zy_acp, zy_oini, zy_cln, zy_thr, zy_bad, zy_lco, zy_if0, zy_ic0, zy_if1, zy_ic1, zy_if2, zy_ic2, zy_if3, zy_ic3, zy_if4, zy_ic4, zy_if5, zy_ic5, zK_go, zK_to, zK_end, zK_callH, zK_iteC, zK_none, zsLd, zsSt, zsInc, zsBI, zsBL, zsSL, zsUn, zsCmp, zsDup, zsDup2, zsPop, zsPop2, zsJn, zsTsw, zsLsw, zsGet, zsPut, zsAld, zsAst, zsLen, zsNewa, zsCal, zsRet, zsCst, zsAcp, zsOini, zsCln, zsLco, zsThr, zxBI, zxBL, zxSL, zxU, zset1, zset2, zclr, zcat, zmake_mk, zcomp, zH_i, zH_l, zH_r, zH_u, zH_n, List.set_cons_zero, List.set_cons_succ, List.getElem?_cons_zero, List.getElem?_cons_succ, List.length_cons, List.length_nil, List.take_succ_cons, List.take_zero, List.drop_succ_cons, List.drop_zero, List.reverse_cons, List.reverse_nil, List.nil_append, List.cons_append, List.map_cons, List.map_nil, List.sum_cons, List.sum_nil, Option.toList_some, Option.toList_none, Value.category, Nat.reduceAdd, Nat.reduceMul, Nat.reduceMod, Nat.reduceDiv, Nat.reduceSub, Nat.reduceLT, Nat.reduceLeDiff, Nat.reduceEqDiff, Nat.zero_le, Nat.le_refl, Int32.reduceToNatClampNeg, Int32.reduceLT, Int32.reduceLE, Int32.reduceAdd, Int32.reduceSub, Int32.reduceMul, ↓reduceIte, reduceCtorEq, Nat.add_zero, Nat.zero_add, true_or, or_true, false_or, or_false, true_and, and_true, false_and, and_false, not_true_eq_false, not_false_eq_true, if_true, if_false, true_implies, false_implies, implies_true, forall_const, false_imp_iff, true_imp_iff, va_rf, zlay, zent, List.replicate_zero, List.append_nil, List.replicate_succ, List.length_append, ne_eq, Option.some.injEq, Value.int.injEq, Value.long.injEq, Int32.reduceOfNat, Int32.reduceToInt, Int.reduceLT, Int.reduceLE, Int.reduceSub, Int.reduceToNat, Int.reduceAdd, Int.reduceNeg, Int32.reduceDiv, Int64.reduceAdd, Int64.reduceSub, lg_cmp_ge, lg_cmp_le, lg_cmp_gt, lg_cmp_lt, lg_cmp_eq, wlt_t, wlt_f, wle_t, wle_f, wmod, wI_lt, wI_le, wI_eq, wI_neg, wI_pos, wI_cl, wI_ge, wI_po, w64_lt, w64_le, w64_eq, w64_lt0, w64_le0, w64_eq0, w64_32, zc317, zc319, wI_add, wI_a1, wI_s1, wI_e0, wI_m8, wI_m128, wI_m64, wI_m190, not_true_eq_false, not_false_eq_true, sP_4908_10 hS, sN_5168 hS, sN_6417 hS]
    exact hQ
set_option maxRecDepth 20000 in
theorem m227 {s : yM} (hS : zStat P N) (h : yOr r I J s) (Q : Option Value → zS → Prop) : zC 227 [.ref 4908] (I, J, P, N, n, z) Q = Q (some (.int (zyn (yac s)))) (I, J, P, N, n, z) := by
  refine zC_eq (fun Q hQ => ?_) Q
  obtain ⟨tab, top, m, x, e, st, S, W, a⟩ := s
  obtain ⟨h1, h2, h3, h4, -, -, h5⟩ := h
  by_cases h0 : a = 0
  case neg =>
    rw [zyn_f (fun h => h0 h.1)] at hQ
    have n0 : ¬ nI a = 0 := by rw [show (0 : Int32) = nI 0 from rfl, wI_eq (by omega) (by omega)]; exact h0
    simp (decide := true) (disch := omega) only [h1, h0, n0, zi227, zt227, zo227_0, zo227_1, zo227_2, zy_ldI, zy_ldL, zy_ldA, zy_stI, zy_stL, zy_stA, zy_cI, zy_cL, zy_nul, zy_inc, zy_bI, zy_bL, zy_sL, zy_un, zy_cmp, zy_dup, zy_dup2, zy_pop, zy_pop2, zy_jn, zy_jnn, zy_go, zy_fal, zy_tsw, zy_lsw, zy_get, zy_put, zy_ald, zy_ast, zy_len, zy_newa, zy_new, zy_cal, zy_ret, zy_tak, zy_cst, zy_acp, zy_oini, zy_cln, zy_thr, zy_bad, zy_lco, zy_if0, zy_ic0, zy_if1, zy_ic1, zy_if2, zy_ic2, zy_if3, zy_ic3, zy_if4, zy_ic4, zy_if5, zy_ic5, zK_go, zK_to, zK_end, zK_callH, zK_iteC, zK_none, zsLd, zsSt, zsInc, zsBI, zsBL, zsSL, zsUn, zsCmp, zsDup, zsDup2, zsPop, zsPop2, zsJn, zsTsw, zsLsw, zsGet, zsPut, zsAld, zsAst, zsLen, zsNewa, zsCal, zsRet, zsCst, zsAcp, zsOini, zsCln, zsLco, zsThr, zxBI, zxBL, zxSL, zxU, zset1, zset2, zclr, zcat, zmake_mk, zcomp, zH_i, zH_l, zH_r, zH_u, zH_n, List.set_cons_zero, List.set_cons_succ, List.getElem?_cons_zero, List.getElem?_cons_succ, List.length_cons, List.length_nil, List.take_succ_cons, List.take_zero, List.drop_succ_cons, List.drop_zero, List.reverse_cons, List.reverse_nil, List.nil_append, List.cons_append, List.map_cons, List.map_nil, List.sum_cons, List.sum_nil, Option.toList_some, Option.toList_none, Value.category, Nat.reduceAdd, Nat.reduceMul, Nat.reduceMod, Nat.reduceDiv, Nat.reduceSub, Nat.reduceLT, Nat.reduceLeDiff, Nat.reduceEqDiff, Nat.zero_le, Nat.le_refl, Int32.reduceToNatClampNeg, Int32.reduceLT, Int32.reduceLE, Int32.reduceAdd, Int32.reduceSub, Int32.reduceMul, ↓reduceIte, reduceCtorEq, Nat.add_zero, Nat.zero_add, true_or, or_true, false_or, or_false, true_and, and_true, false_and, and_false, not_true_eq_false, not_false_eq_true, if_true, if_false, true_implies, false_implies, implies_true, forall_const, false_imp_iff, true_imp_iff, va_rf, zlay, zent, List.replicate_zero, List.append_nil, List.replicate_succ, List.length_append, ne_eq, Option.some.injEq, Value.int.injEq, Value.long.injEq, Int32.reduceOfNat, Int32.reduceToInt, Int.reduceLT, Int.reduceLE, Int.reduceSub, Int.reduceToNat, Int.reduceAdd, Int.reduceNeg, Int32.reduceDiv, Int64.reduceAdd, Int64.reduceSub, lg_cmp_ge, lg_cmp_le, lg_cmp_gt, lg_cmp_lt, lg_cmp_eq, wlt_t, wlt_f, wle_t, wle_f, wmod, wI_lt, wI_le, wI_eq, wI_neg, wI_pos, wI_cl, wI_ge, wI_po, w64_lt, w64_le, w64_eq, w64_lt0, w64_le0, w64_eq0, w64_32, zc317, zc319, wI_add, wI_a1, wI_s1, wI_e0, wI_m8, wI_m128, wI_m64, wI_m190, not_true_eq_false, not_false_eq_true, sP_4908_10 hS, sP_4908_11 hS, sN_5168 hS, sN_5201 hS, sN_6417 hS]
    exact hQ
  case pos =>
  obtain ⟨x1, x2, x3, x4, x5⟩ := h5 h0
  rw [h0] at h1
  have h1 : I 4908 44 = 0 := h1
  have c2 : (nI (tab x).1 = 2) = ((tab x).1 = 2) := wI_eqc (c := 2)
  by_cases k2 : (tab x).1 = 2
  case neg =>
    rw [zyn_f (fun h => k2 h.2.1)] at hQ
    simp (decide := true) (disch := omega) only [h1, x2, x3, c2, k2, zi227, zt227, zo227_0, zo227_1, zo227_2, zy_ldI, zy_ldL, zy_ldA, zy_stI, zy_stL, zy_stA, zy_cI, zy_cL, zy_nul, zy_inc, zy_bI, zy_bL, zy_sL, zy_un, zy_cmp, zy_dup, zy_dup2, zy_pop, zy_pop2, zy_jn, zy_jnn, zy_go, zy_fal, zy_tsw, zy_lsw, zy_get, zy_put, zy_ald, zy_ast, zy_len, zy_newa, zy_new, zy_cal, zy_ret, zy_tak, zy_cst, zy_acp, zy_oini, zy_cln, zy_thr, zy_bad, zy_lco, zy_if0, zy_ic0, zy_if1, zy_ic1, zy_if2, zy_ic2, zy_if3, zy_ic3, zy_if4, zy_ic4, zy_if5, zy_ic5, zK_go, zK_to, zK_end, zK_callH, zK_iteC, zK_none, zsLd, zsSt, zsInc, zsBI, zsBL, zsSL, zsUn, zsCmp, zsDup, zsDup2, zsPop, zsPop2, zsJn, zsTsw, zsLsw, zsGet, zsPut, zsAld, zsAst, zsLen, zsNewa, zsCal, zsRet, zsCst, zsAcp, zsOini, zsCln, zsLco, zsThr, zxBI, zxBL, zxSL, zxU, zset1, zset2, zclr, zcat, zmake_mk, zcomp, zH_i, zH_l, zH_r, zH_u, zH_n, List.set_cons_zero, List.set_cons_succ, List.getElem?_cons_zero, List.getElem?_cons_succ, List.length_cons, List.length_nil, List.take_succ_cons, List.take_zero, List.drop_succ_cons, List.drop_zero, List.reverse_cons, List.reverse_nil, List.nil_append, List.cons_append, List.map_cons, List.map_nil, List.sum_cons, List.sum_nil, Option.toList_some, Option.toList_none, Value.category, Nat.reduceAdd, Nat.reduceMul, Nat.reduceMod, Nat.reduceDiv, Nat.reduceSub, Nat.reduceLT, Nat.reduceLeDiff, Nat.reduceEqDiff, Nat.zero_le, Nat.le_refl, Int32.reduceToNatClampNeg, Int32.reduceLT, Int32.reduceLE, Int32.reduceAdd, Int32.reduceSub, Int32.reduceMul, ↓reduceIte, reduceCtorEq, Nat.add_zero, Nat.zero_add, true_or, or_true, false_or, or_false, true_and, and_true, false_and, and_false, not_true_eq_false, not_false_eq_true, if_true, if_false, true_implies, false_implies, implies_true, forall_const, false_imp_iff, true_imp_iff, va_rf, zlay, zent, List.replicate_zero, List.append_nil, List.replicate_succ, List.length_append, ne_eq, Option.some.injEq, Value.int.injEq, Value.long.injEq, Int32.reduceOfNat, Int32.reduceToInt, Int.reduceLT, Int.reduceLE, Int.reduceSub, Int.reduceToNat, Int.reduceAdd, Int.reduceNeg, Int32.reduceDiv, Int64.reduceAdd, Int64.reduceSub, lg_cmp_ge, lg_cmp_le, lg_cmp_gt, lg_cmp_lt, lg_cmp_eq, wlt_t, wlt_f, wle_t, wle_f, wmod, wI_lt, wI_le, wI_eq, wI_neg, wI_pos, wI_cl, wI_ge, wI_po, w64_lt, w64_le, w64_eq, w64_lt0, w64_le0, w64_eq0, w64_32, zc317, zc319, wI_add, wI_a1, wI_s1, wI_e0, wI_m8, wI_m128, wI_m64, wI_m190, not_true_eq_false, not_false_eq_true, sP_4908_10 hS, sP_4908_11 hS, sN_5168 hS, sN_5201 hS, sN_6417 hS]
    exact hQ
  case pos =>
  have x3 : I 5168 (r x) = 2 := by rw [x3, k2]; rfl
  have y := x5 k2
  by_cases h1' : (tab x).2.1 = 1
  · rw [zyn_t ⟨h0, k2, h1'⟩] at hQ
    have t1 : ((tab x).2.1 = 1) = True := eq_true h1'
    simp (decide := true) (disch := omega) only [h1, x2, x3, y, t1, zi227, zt227, zo227_0, zo227_1, zo227_2, zy_ldI, zy_ldL, zy_ldA, zy_stI, zy_stL, zy_stA, zy_cI, zy_cL, zy_nul, zy_inc, zy_bI, zy_bL, zy_sL, zy_un, zy_cmp, zy_dup, zy_dup2, zy_pop, zy_pop2, zy_jn, zy_jnn, zy_go, zy_fal, zy_tsw, zy_lsw, zy_get, zy_put, zy_ald, zy_ast, zy_len, zy_newa, zy_new, zy_cal, zy_ret, zy_tak, zy_cst, zy_acp, zy_oini, zy_cln, zy_thr, zy_bad, zy_lco, zy_if0, zy_ic0, zy_if1, zy_ic1, zy_if2, zy_ic2, zy_if3, zy_ic3, zy_if4, zy_ic4, zy_if5, zy_ic5, zK_go, zK_to, zK_end, zK_callH, zK_iteC, zK_none, zsLd, zsSt, zsInc, zsBI, zsBL, zsSL, zsUn, zsCmp, zsDup, zsDup2, zsPop, zsPop2, zsJn, zsTsw, zsLsw, zsGet, zsPut, zsAld, zsAst, zsLen, zsNewa, zsCal, zsRet, zsCst, zsAcp, zsOini, zsCln, zsLco, zsThr, zxBI, zxBL, zxSL, zxU, zset1, zset2, zclr, zcat, zmake_mk, zcomp, zH_i, zH_l, zH_r, zH_u, zH_n, List.set_cons_zero, List.set_cons_succ, List.getElem?_cons_zero, List.getElem?_cons_succ, List.length_cons, List.length_nil, List.take_succ_cons, List.take_zero, List.drop_succ_cons, List.drop_zero, List.reverse_cons, List.reverse_nil, List.nil_append, List.cons_append, List.map_cons, List.map_nil, List.sum_cons, List.sum_nil, Option.toList_some, Option.toList_none, Value.category, Nat.reduceAdd, Nat.reduceMul, Nat.reduceMod, Nat.reduceDiv, Nat.reduceSub, Nat.reduceLT, Nat.reduceLeDiff, Nat.reduceEqDiff, Nat.zero_le, Nat.le_refl, Int32.reduceToNatClampNeg, Int32.reduceLT, Int32.reduceLE, Int32.reduceAdd, Int32.reduceSub, Int32.reduceMul, ↓reduceIte, reduceCtorEq, Nat.add_zero, Nat.zero_add, true_or, or_true, false_or, or_false, true_and, and_true, false_and, and_false, not_true_eq_false, not_false_eq_true, if_true, if_false, true_implies, false_implies, implies_true, forall_const, false_imp_iff, true_imp_iff, va_rf, zlay, zent, List.replicate_zero, List.append_nil, List.replicate_succ, List.length_append, ne_eq, Option.some.injEq, Value.int.injEq, Value.long.injEq, Int32.reduceOfNat, Int32.reduceToInt, Int.reduceLT, Int.reduceLE, Int.reduceSub, Int.reduceToNat, Int.reduceAdd, Int.reduceNeg, Int32.reduceDiv, Int64.reduceAdd, Int64.reduceSub, lg_cmp_ge, lg_cmp_le, lg_cmp_gt, lg_cmp_lt, lg_cmp_eq, wlt_t, wlt_f, wle_t, wle_f, wmod, wI_lt, wI_le, wI_eq, wI_neg, wI_pos, wI_cl, wI_ge, wI_po, w64_lt, w64_le, w64_eq, w64_lt0, w64_le0, w64_eq0, w64_32, zc317, zc319, wI_add, wI_a1, wI_s1, wI_e0, wI_m8, wI_m128, wI_m64, wI_m190, not_true_eq_false, not_false_eq_true, sP_4908_10 hS, sP_4908_11 hS, sN_5168 hS, sN_5201 hS, sN_6417 hS]
    exact hQ
  · rw [zyn_f (fun h => h1' h.2.2)] at hQ
    simp (decide := true) (disch := omega) only [h1, x2, x3, y, h1', zi227, zt227, zo227_0, zo227_1, zo227_2, zy_ldI, zy_ldL, zy_ldA, zy_stI, zy_stL, zy_stA, zy_cI, zy_cL, zy_nul, zy_inc, zy_bI, zy_bL, zy_sL, zy_un, zy_cmp, zy_dup, zy_dup2, zy_pop, zy_pop2, zy_jn, zy_jnn, zy_go, zy_fal, zy_tsw, zy_lsw, zy_get, zy_put, zy_ald, zy_ast, zy_len, zy_newa, zy_new, zy_cal, zy_ret, zy_tak, zy_cst, zy_acp, zy_oini, zy_cln, zy_thr, zy_bad, zy_lco, zy_if0, zy_ic0, zy_if1, zy_ic1, zy_if2, zy_ic2, zy_if3, zy_ic3, zy_if4, zy_ic4, zy_if5, zy_ic5, zK_go, zK_to, zK_end, zK_callH, zK_iteC, zK_none, zsLd, zsSt, zsInc, zsBI, zsBL, zsSL, zsUn, zsCmp, zsDup, zsDup2, zsPop, zsPop2, zsJn, zsTsw, zsLsw, zsGet, zsPut, zsAld, zsAst, zsLen, zsNewa, zsCal, zsRet, zsCst, zsAcp, zsOini, zsCln, zsLco, zsThr, zxBI, zxBL, zxSL, zxU, zset1, zset2, zclr, zcat, zmake_mk, zcomp, zH_i, zH_l, zH_r, zH_u, zH_n, List.set_cons_zero, List.set_cons_succ, List.getElem?_cons_zero, List.getElem?_cons_succ, List.length_cons, List.length_nil, List.take_succ_cons, List.take_zero, List.drop_succ_cons, List.drop_zero, List.reverse_cons, List.reverse_nil, List.nil_append, List.cons_append, List.map_cons, List.map_nil, List.sum_cons, List.sum_nil, Option.toList_some, Option.toList_none, Value.category, Nat.reduceAdd, Nat.reduceMul, Nat.reduceMod, Nat.reduceDiv, Nat.reduceSub, Nat.reduceLT, Nat.reduceLeDiff, Nat.reduceEqDiff, Nat.zero_le, Nat.le_refl, Int32.reduceToNatClampNeg, Int32.reduceLT, Int32.reduceLE, Int32.reduceAdd, Int32.reduceSub, Int32.reduceMul, ↓reduceIte, reduceCtorEq, Nat.add_zero, Nat.zero_add, true_or, or_true, false_or, or_false, true_and, and_true, false_and, and_false, not_true_eq_false, not_false_eq_true, if_true, if_false, true_implies, false_implies, implies_true, forall_const, false_imp_iff, true_imp_iff, va_rf, zlay, zent, List.replicate_zero, List.append_nil, List.replicate_succ, List.length_append, ne_eq, Option.some.injEq, Value.int.injEq, Value.long.injEq, Int32.reduceOfNat, Int32.reduceToInt, Int.reduceLT, Int.reduceLE, Int.reduceSub, Int.reduceToNat, Int.reduceAdd, Int.reduceNeg, Int32.reduceDiv, Int64.reduceAdd, Int64.reduceSub, lg_cmp_ge, lg_cmp_le, lg_cmp_gt, lg_cmp_lt, lg_cmp_eq, wlt_t, wlt_f, wle_t, wle_f, wmod, wI_lt, wI_le, wI_eq, wI_neg, wI_pos, wI_cl, wI_ge, wI_po, w64_lt, w64_le, w64_eq, w64_lt0, w64_le0, w64_eq0, w64_32, zc317, zc319, wI_add, wI_a1, wI_s1, wI_e0, wI_m8, wI_m128, wI_m64, wI_m190, not_true_eq_false, not_false_eq_true, sP_4908_10 hS, sP_4908_11 hS, sN_5168 hS, sN_5201 hS, sN_6417 hS]
    exact hQ
end
