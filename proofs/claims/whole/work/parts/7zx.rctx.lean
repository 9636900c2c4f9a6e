-- needs: 01 02.names 03 04 05 18 19 20 22 23 24 25 30 31 32 33 35 36 37 40 42 43 44 45 46 47 60 61 62 63 64 65 66 67 68 69 79f 79g 79h 79i 79j 79k 79l 79m 79n 79o 79p 79q 79r 79s 79t 79u 79v 79w 79x 79y 79z. 79za 79zb 79zc 79zd 79ze 79zf 79zg 79zh 79zi 79zj 79zk 79zl 79zm 79zn 79zo 79zp 79zq 79zr 79zs 79zt 79zu 79zv 7a 7b 7c 7d 7e 7f 7g 7zl 7zm 7zn 7zo 7h 7i 7j 7k 7l 7m 7n 7o 7p 7q 7r 7zj 7zk 7zp 7zq 7zr 7zs 7zt 7zu 79zw 7s 7t 7u 7v 7w 7x 7y 7z. 7za 7zb 7zc 7zd 7ze 7zf 7zg 7zh 7zi 7zv 7zw
/-! The CONTEXT, given by the reference -/
section
variable {I I' I0 : zI} {J J' J0 : zJ} {P : zP} {N : Nat → Nat} {n z sz gv m K s e hx : Nat} {F C Z X H L ia ca : Nat → Nat} {g : Nat → Nat → Nat} {T : Nat → Int64} {Y : Nat → Nat → Int32} {Q : Option Value → zS → Prop}
theorem m2902 {fo ct : Int32} {x : Int64} (hS : zStat P N) (hg : gv < 200) (h66 : I 3118 66 = nI gv) (Q : Option Value → zS → Prop) : zC 290 [.ref 3118, .int 2, .int fo, .long x, .int ct] (I, J, P, N, n, z) Q = Q none (yGv I (200 * 2 + gv) gv fo ct, zu J 5905 (200 * 2 + gv) x, P, N, n, z) := m290 (t := 2) hS rfl (by omega) hg h66 Q
set_option maxRecDepth 20000 in
set_option maxHeartbeats 4000000 in
theorem l293a {w : Nat} {x1 x2 : Int32} {u5 : Option Value} (hS : zStat P N) (hw : w ≤ 64) (hb : gv + 4 * w ≤ 200) (h55 : I0 3118 55 = nI w)
    (hQ : ∀ I' J' u3 u4, yGg I0 J0 I' J' 2 gv (gv + 4 * w) → yEl (yEg I' J' 2 sz) gv (ySp (I0 4144) (J0 4177) (J0 4209) w) → zQ zt293 zo293_2 [some (.ref 3118), some (.int x1), some (.int x2), some (.int u3), u4, u5] [] (I', J', P, N, n, z) Q) :
    ∀ r i (I : zI) (J : zJ) u4, i + r = w → yGg I0 J0 I J 2 gv (gv + 4 * i) → (∀ k, k < i → yEt (yEg I J 2 sz) (gv + 4 * k) (yco1 (I0 4144) (J0 4177) (J0 4209) k)) → zQ zt293 zo293_1 [some (.ref 3118), some (.int x1), some (.int x2), some (.int (nI i)), u4, u5] [] (I, J, P, N, n, z) Q := by
  intro r
  induction r with
  | zero =>
    intro i I J u4 hi g he
    obtain rfl : i = w := by omega
    have q := hQ I J (nI i) u4 g (yEl_r i (fun k hk => ⟨rfl, he k hk⟩))
    have e3 : I 3118 55 = nI i := by rw [g.1.2.1 55 (by decide), h55]
    have t : (nI i ≤ nI i) = True := eq_true (Int32.le_refl _)
    rw [zo293_1]
    simp (decide := true) (disch := omega) only [e3, t, zi293, zt293, zo293_0, zo293_3, zo293_4, zy_ldI, zy_ldL, zy_ldA, zy_stI, zy_stL, zy_stA, zy_cI, zy_cL, zy_nul, zy_inc, zy_bI, zy_bL, zy_sL, zy_un, zy_cmp, zy_dup, zy_dup2, zy_pop, zy_pop2, zy_jn, zy_jnn, zy_go, zy_fal, zy_tsw, zy_lsw, zy_get, zy_put, zy_ald, zy_ast, zy_len, zy_newa, zy_new, zy_cal, zy_ret, zy_tak, zy_cst, zy_acp, zy_oini, zy_cln, zy_thr, zy_bad, zy_lco, zy_if0, zy_ic0, zy_if1, zy_ic1, zy_if2, zy_ic2, zy_if3, zy_ic3, zy_if4, zy_ic4, zy_if5, zy_ic5, zK_go, zK_to, zK_end, zK_callH, zK_iteC, zK_none, zsLd, zsSt, zsInc, zsBI, zsBL, zsSL, zsUn, zsCmp, zsDup, zsDup2, zsPop, zsPop2, zsJn, zsTsw, zsLsw, zsGet, zsPut, zsAld, zsAst, zsLen, zsNewa, zsCal, zsRet, zsCst, zsAcp, zsOini, zsCln, zsLco, zsThr, zxBI, zxBL, zxSL, zxU, zset1, zset2, zclr, zcat, zmake_mk, zcomp, zH_i, zH_l, zH_r, zH_u, zH_n, List.set_cons_zero, List.set_cons_succ, List.getElem?_cons_zero, List.getElem?_cons_succ, List.length_cons, List.length_nil, List.take_succ_cons, List.take_zero, List.drop_succ_cons, List.drop_zero, List.reverse_cons, List.reverse_nil, List.nil_append, List.cons_append, List.map_cons, List.map_nil, List.sum_cons, List.sum_nil, Option.toList_some, Option.toList_none, Value.category, Nat.reduceAdd, Nat.reduceMul, Nat.reduceMod, Nat.reduceDiv, Nat.reduceSub, Nat.reduceLT, Nat.reduceLeDiff, Nat.reduceEqDiff, Nat.zero_le, Nat.le_refl, Int32.reduceToNatClampNeg, Int32.reduceLT, Int32.reduceLE, Int32.reduceAdd, Int32.reduceSub, Int32.reduceMul, ↓reduceIte, reduceCtorEq, Nat.add_zero, Nat.zero_add, true_or, or_true, false_or, or_false, true_and, and_true, false_and, and_false, not_true_eq_false, not_false_eq_true, if_true, if_false, true_implies, false_implies, implies_true, forall_const, false_imp_iff, true_imp_iff, va_rf, zlay, zent, List.replicate_zero, List.append_nil, List.replicate_succ, List.length_append, ne_eq, Option.some.injEq, Value.int.injEq, Value.long.injEq, Int32.reduceOfNat, Int32.reduceToInt, Int.reduceLT, Int.reduceLE, Int.reduceSub, Int.reduceToNat, Int.reduceAdd, Int.reduceNeg, Int32.reduceDiv, Int64.reduceAdd, Int64.reduceSub, lg_cmp_ge, lg_cmp_le, lg_cmp_gt, lg_cmp_lt, lg_cmp_eq, wlt_t, wlt_f, wle_t, wle_f, wmod, wI_lt, wI_le, wI_eq, wI_neg, wI_pos, wI_cl, wI_ge, wI_po, w64_lt, w64_le, w64_eq, w64_lt0, w64_le0, w64_eq0, w64_32, zc317, zc319, wI_add, wI_a1, wI_s1, wI_e0, wI_m8, wI_m128, wI_m64, wI_m190, not_true_eq_false, not_false_eq_true, sP_3118_40 hS, sP_3118_41 hS, sP_3118_50 hS, sP_3118_56 hS, sP_3118_57 hS, sP_3118_58 hS, sP_3118_62 hS, sP_4908_38 hS, sN_3825 hS, sN_3856 hS, sN_4048 hS, sN_4144 hS, sN_4177 hS, sN_4209 hS, sN_5840 hS, sN_6417 hS]
    exact q
  | succ r ih =>
    intro i I J u4 hi g he
    have e3 : I 3118 55 = nI w := by rw [g.1.2.1 55 (by decide), h55]
    have r1 : I 4144 = I0 4144 := g.1.1 4144 (by decide) (by decide) (by decide) (by decide)
    have r2 : J 4177 = J0 4177 := g.1.2.2 4177 (by decide)
    have r3 : J 4209 = J0 4209 := g.1.2.2 4209 (by decide)
    have a4144 : ∀ (I : zI) i gv fo ct, yGv I i gv fo ct 4144 = I 4144 := fun I i gv fo ct => by unfold yGv; simp (disch := omega) only [zuR_ne]
    have q1 := fun (Q : Option Value → zS → Prop) => m2902 (I := I) (J := J) (n := n) (z := z) (gv := gv + 4 * i) (fo := 2) (ct := 3) (x := 0) hS (by omega) g.2.1.1 Q
    have g1 := yGv_g (I := I) (J := J) (t := 2) (gv := gv + 4 * i) (fo := 2) (ct := 3) (x := 0) (by omega)
    have o1 := yGv_at (I := I) (i := 200 * 2 + (gv + 4 * i)) (gv := gv + 4 * i) (fo := 2) (ct := 3)
    obtain ⟨I1, hI1⟩ : ∃ I1, I1 = yGv I (200 * 2 + (gv + 4 * i)) (gv + 4 * i) 2 3 := ⟨_, rfl⟩
    obtain ⟨J1, hJ1⟩ : ∃ J1, J1 = zu J 5905 (200 * 2 + (gv + 4 * i)) 0 := ⟨_, rfl⟩
    have oj : J1 5905 (200 * 2 + (gv + 4 * i)) = 0 := by rw [hJ1, zu_at]
    rw [← hI1] at o1
    rw [← hI1, ← hJ1] at q1 g1
    have i1 : I1 4144 = I0 4144 := by rw [hI1, a4144, r1]
    have q2 := fun (Q : Option Value → zS → Prop) => m2902 (I := I1) (J := J1) (n := n) (z := z) (gv := gv + 4 * i + 1) (fo := 3) (ct := 0) (x := (I0 4144 i).toInt64) hS (by omega) g1.2.1.1 Q
    have g2 := yGv_g (I := I1) (J := J1) (t := 2) (gv := gv + 4 * i + 1) (fo := 3) (ct := 0) (x := (I0 4144 i).toInt64) (by omega)
    have k2 := yGv_i (I := I1) (J := J1) (t := 2) (sz := sz) (gv := gv + 4 * i + 1) (x := (I0 4144 i).toInt64)
    obtain ⟨I2, hI2⟩ : ∃ I2, I2 = yGv I1 (200 * 2 + (gv + 4 * i + 1)) (gv + 4 * i + 1) 3 0 := ⟨_, rfl⟩
    obtain ⟨J2, hJ2⟩ : ∃ J2, J2 = zu J1 5905 (200 * 2 + (gv + 4 * i + 1)) (I0 4144 i).toInt64 := ⟨_, rfl⟩
    rw [← hI2, ← hJ2] at q2 g2 k2
    have j2 : J2 4177 = J0 4177 := by rw [g2.1.2.2 4177 (by decide), g1.1.2.2 4177 (by decide), r2]
    have q3 := fun (Q : Option Value → zS → Prop) => m2902 (I := I2) (J := J2) (n := n) (z := z) (gv := gv + 4 * i + 1 + 1) (fo := 3) (ct := 0) (x := J0 4177 i) hS (by omega) g2.2.1.1 Q
    have g3 := yGv_g (I := I2) (J := J2) (t := 2) (gv := gv + 4 * i + 1 + 1) (fo := 3) (ct := 0) (x := J0 4177 i) (by omega)
    have k3 := yGv_i (I := I2) (J := J2) (t := 2) (sz := sz) (gv := gv + 4 * i + 1 + 1) (x := J0 4177 i)
    obtain ⟨I3, hI3⟩ : ∃ I3, I3 = yGv I2 (200 * 2 + (gv + 4 * i + 1 + 1)) (gv + 4 * i + 1 + 1) 3 0 := ⟨_, rfl⟩
    obtain ⟨J3, hJ3⟩ : ∃ J3, J3 = zu J2 5905 (200 * 2 + (gv + 4 * i + 1 + 1)) (J0 4177 i) := ⟨_, rfl⟩
    rw [← hI3, ← hJ3] at q3 g3 k3
    have j3 : J3 4209 = J0 4209 := by rw [g3.1.2.2 4209 (by decide), g2.1.2.2 4209 (by decide), g1.1.2.2 4209 (by decide), r3]
    have q4 := fun (Q : Option Value → zS → Prop) => m2902 (I := I3) (J := J3) (n := n) (z := z) (gv := gv + 4 * i + 1 + 1 + 1) (fo := 3) (ct := 0) (x := J0 4209 i) hS (by omega) g3.2.1.1 Q
    have g4 := yGv_g (I := I3) (J := J3) (t := 2) (gv := gv + 4 * i + 1 + 1 + 1) (fo := 3) (ct := 0) (x := J0 4209 i) (by omega)
    have k4 := yGv_i (I := I3) (J := J3) (t := 2) (sz := sz) (gv := gv + 4 * i + 1 + 1 + 1) (x := J0 4209 i)
    obtain ⟨I4, hI4⟩ : ∃ I4, I4 = yGv I3 (200 * 2 + (gv + 4 * i + 1 + 1 + 1)) (gv + 4 * i + 1 + 1 + 1) 3 0 := ⟨_, rfl⟩
    obtain ⟨J4, hJ4⟩ : ∃ J4, J4 = zu J3 5905 (200 * 2 + (gv + 4 * i + 1 + 1 + 1)) (J0 4209 i) := ⟨_, rfl⟩
    rw [← hI4, ← hJ4] at q4 g4 k4
    have row : yEl (yEg I4 J4 2 sz) (gv + 4 * i + 1) [yint (I0 4144 i).toInt64, yint (J0 4177 i), yint (J0 4209 i)] := ⟨yEtg (yGg_t g3 g4) (Nat.le_refl _) k2, yEtg g4 (Nat.le_refl _) k3, k4, trivial⟩
    have oh := (yGg_t g2 (yGg_t g3 g4)).2.2 (200 * 2 + (gv + 4 * i)) (by omega)
    have coin : yEt (yEg I4 J4 2 sz) (gv + 4 * i) (yco1 (I0 4144) (J0 4177) (J0 4209) i) := yls_at (fun y => ⟨by rw [oh.1, o1.1]; rfl, by rw [oh.2.1, oj], by rw [oh.2.2.1, o1.2.1]; rfl, fun h => by cases h⟩) row
    have gn : yGg I J I4 J4 2 (gv + 4 * i) (gv + 4 * (i + 1)) := by
      have := yGg_t g1 (yGg_t g2 (yGg_t g3 g4))
      rw [show gv + 4 * i + 1 + 1 + 1 + 1 = gv + 4 * (i + 1) by omega] at this
      exact this
    have q := ih (i + 1) I4 J4 u4 (by omega) (yGg_t g gn) (fun k hk => by
      by_cases hki : k = i
      · subst hki; exact coin
      · exact yEtg gn (show gv + 4 * k + 4 ≤ _ by omega) (he k (by omega)))
    rw [zo293_1]
    simp (decide := true) (disch := omega) only [e3, q1, i1, q2, j2, q3, j3, q4, zi293, zt293, zo293_0, zo293_3, zo293_4, zy_ldI, zy_ldL, zy_ldA, zy_stI, zy_stL, zy_stA, zy_cI, zy_cL, zy_nul, zy_inc, zy_bI, zy_bL, zy_sL, zy_un, zy_cmp, zy_dup, zy_dup2, zy_pop, zy_pop2, zy_jn, zy_jnn, zy_go, zy_fal, zy_tsw, zy_lsw, zy_get, zy_put, zy_ald, zy_ast, zy_len, zy_newa, zy_new, zy_cal, zy_ret, zy_tak, zy_cst, zy_acp, zy_oini, zy_cln, zy_thr, zy_bad, zy_lco, zy_if0, zy_ic0, zy_if1, zy_ic1, zy_if2, zy_ic2, zy_if3, zy_ic3, zy_if4, zy_ic4, zy_if5, zy_ic5, zK_go, zK_to, zK_end, zK_callH, zK_iteC, zK_none, zsLd, zsSt, zsInc, zsBI, zsBL, zsSL, zsUn, zsCmp, zsDup, zsDup2, zsPop, zsPop2, zsJn, zsTsw, zsLsw, zsGet, zsPut, zsAld, zsAst, zsLen, zsNewa, zsCal, zsRet, zsCst, zsAcp, zsOini, zsCln, zsLco, zsThr, zxBI, zxBL, zxSL, zxU, zset1, zset2, zclr, zcat, zmake_mk, zcomp, zH_i, zH_l, zH_r, zH_u, zH_n, List.set_cons_zero, List.set_cons_succ, List.getElem?_cons_zero, List.getElem?_cons_succ, List.length_cons, List.length_nil, List.take_succ_cons, List.take_zero, List.drop_succ_cons, List.drop_zero, List.reverse_cons, List.reverse_nil, List.nil_append, List.cons_append, List.map_cons, List.map_nil, List.sum_cons, List.sum_nil, Option.toList_some, Option.toList_none, Value.category, Nat.reduceAdd, Nat.reduceMul, Nat.reduceMod, Nat.reduceDiv, Nat.reduceSub, Nat.reduceLT, Nat.reduceLeDiff, Nat.reduceEqDiff, Nat.zero_le, Nat.le_refl, Int32.reduceToNatClampNeg, Int32.reduceLT, Int32.reduceLE, Int32.reduceAdd, Int32.reduceSub, Int32.reduceMul, ↓reduceIte, reduceCtorEq, Nat.add_zero, Nat.zero_add, true_or, or_true, false_or, or_false, true_and, and_true, false_and, and_false, not_true_eq_false, not_false_eq_true, if_true, if_false, true_implies, false_implies, implies_true, forall_const, false_imp_iff, true_imp_iff, va_rf, zlay, zent, List.replicate_zero, List.append_nil, List.replicate_succ, List.length_append, ne_eq, Option.some.injEq, Value.int.injEq, Value.long.injEq, Int32.reduceOfNat, Int32.reduceToInt, Int.reduceLT, Int.reduceLE, Int.reduceSub, Int.reduceToNat, Int.reduceAdd, Int.reduceNeg, Int32.reduceDiv, Int64.reduceAdd, Int64.reduceSub, lg_cmp_ge, lg_cmp_le, lg_cmp_gt, lg_cmp_lt, lg_cmp_eq, wlt_t, wlt_f, wle_t, wle_f, wmod, wI_lt, wI_le, wI_eq, wI_neg, wI_pos, wI_cl, wI_ge, wI_po, w64_lt, w64_le, w64_eq, w64_lt0, w64_le0, w64_eq0, w64_32, zc317, zc319, wI_add, wI_a1, wI_s1, wI_e0, wI_m8, wI_m128, wI_m64, wI_m190, not_true_eq_false, not_false_eq_true, sP_3118_40 hS, sP_3118_41 hS, sP_3118_50 hS, sP_3118_56 hS, sP_3118_57 hS, sP_3118_58 hS, sP_3118_62 hS, sP_4908_38 hS, sN_3825 hS, sN_3856 hS, sN_4048 hS, sN_4144 hS, sN_4177 hS, sN_4209 hS, sN_5840 hS, sN_6417 hS]
    exact q
/-- the reference's frame -/
theorem zHam_g {t gv gv' : Nat} (gg : yGg I J I' J' t gv gv') (h : zHam I J F T C Z H X L K s) : zHam I' J' F T C Z H X L K s := by
  obtain ⟨D, hv, hf, t⟩ := h
  have fr := gg.1.1
  refine ⟨D, zMv_c (fr 3792 (by decide) (by decide) (by decide) (by decide)) (gg.1.2.2 3825 (by decide)) (fr 3856 (by decide) (by decide) (by decide) (by decide)) (fr 3888 (by decide) (by decide) (by decide) (by decide)) (fr 3920 (by decide) (by decide) (by decide) (by decide)) (fr 3952 (by decide) (by decide) (by decide) (by decide)) hv, fun i hi => ?_, t⟩
  rw [fr 4048 (by decide) (by decide) (by decide) (by decide)]
  exact hf i hi
set_option maxRecDepth 20000 in
set_option maxHeartbeats 4000000 in
theorem l293b {x1 x2 : Int32} (hS : zStat P N) (h : zHam I0 J0 F T C Z H X L K s) (hb : gv + 4 * C (zWi Z 0 2) ≤ 200) (hX : ∀ j, j < K → F j = 2 → X j + C j ≤ sz ∧ ∀ i, i < C j → I0 3151 (X j + i) = Y j i)
    (hQ : ∀ I' J' u4 u5, yGg I0 J0 I' J' 2 gv (gv + 4 * C (zWi Z 0 2)) → yEl (yEg I' J' 2 sz) gv (yPds (K, F, C, T, Z, L, Y) Z (fun i => T (zoc Z i + 4)) (C (zWi Z 0 2))) → zQ zt293 zo293_4 [some (.ref 3118), some (.int x1), some (.int x2), some (.int (nI (C (zWi Z 0 2)))), some (.int u4), u5] [] (I', J', P, N, n, z) Q) :
    ∀ r i (I : zI) (J : zJ) u5, i + r = C (zWi Z 0 2) → yGg I0 J0 I J 2 gv (gv + 4 * i) → (∀ k, k < i → yEt (yEg I J 2 sz) (gv + 4 * k) (ypd (K, F, C, T, Z, L, Y) Z (fun i => T (zoc Z i + 4)) k)) → zQ zt293 zo293_3 [some (.ref 3118), some (.int x1), some (.int x2), some (.int (nI (C (zWi Z 0 2)))), some (.int (nI i)), u5] [] (I, J, P, N, n, z) Q := by
  have cc := zTx_c h.2.2.2
  have zz := (zTx_z h.1 h.2.2.2).2.2.2.2
  have hD := h.1.1
  intro r
  induction r with
  | zero =>
    intro i I J u5 hi g hk
    obtain rfl : i = C (zWi Z 0 2) := by omega
    have q := hQ I J (nI (C (zWi Z 0 2))) u5 g (yEl_r _ (fun k h => ⟨ypd_1 (zz k h).1, hk k h⟩))
    have t : (nI (C (zWi Z 0 2)) ≤ nI (C (zWi Z 0 2))) = True := eq_true (Int32.le_refl _)
    rw [zo293_3]
    simp (decide := true) (disch := omega) only [t, zi293, zt293, zo293_0, zo293_1, zo293_2, zy_ldI, zy_ldL, zy_ldA, zy_stI, zy_stL, zy_stA, zy_cI, zy_cL, zy_nul, zy_inc, zy_bI, zy_bL, zy_sL, zy_un, zy_cmp, zy_dup, zy_dup2, zy_pop, zy_pop2, zy_jn, zy_jnn, zy_go, zy_fal, zy_tsw, zy_lsw, zy_get, zy_put, zy_ald, zy_ast, zy_len, zy_newa, zy_new, zy_cal, zy_ret, zy_tak, zy_cst, zy_acp, zy_oini, zy_cln, zy_thr, zy_bad, zy_lco, zy_if0, zy_ic0, zy_if1, zy_ic1, zy_if2, zy_ic2, zy_if3, zy_ic3, zy_if4, zy_ic4, zy_if5, zy_ic5, zK_go, zK_to, zK_end, zK_callH, zK_iteC, zK_none, zsLd, zsSt, zsInc, zsBI, zsBL, zsSL, zsUn, zsCmp, zsDup, zsDup2, zsPop, zsPop2, zsJn, zsTsw, zsLsw, zsGet, zsPut, zsAld, zsAst, zsLen, zsNewa, zsCal, zsRet, zsCst, zsAcp, zsOini, zsCln, zsLco, zsThr, zxBI, zxBL, zxSL, zxU, zset1, zset2, zclr, zcat, zmake_mk, zcomp, zH_i, zH_l, zH_r, zH_u, zH_n, List.set_cons_zero, List.set_cons_succ, List.getElem?_cons_zero, List.getElem?_cons_succ, List.length_cons, List.length_nil, List.take_succ_cons, List.take_zero, List.drop_succ_cons, List.drop_zero, List.reverse_cons, List.reverse_nil, List.nil_append, List.cons_append, List.map_cons, List.map_nil, List.sum_cons, List.sum_nil, Option.toList_some, Option.toList_none, Value.category, Nat.reduceAdd, Nat.reduceMul, Nat.reduceMod, Nat.reduceDiv, Nat.reduceSub, Nat.reduceLT, Nat.reduceLeDiff, Nat.reduceEqDiff, Nat.zero_le, Nat.le_refl, Int32.reduceToNatClampNeg, Int32.reduceLT, Int32.reduceLE, Int32.reduceAdd, Int32.reduceSub, Int32.reduceMul, ↓reduceIte, reduceCtorEq, Nat.add_zero, Nat.zero_add, true_or, or_true, false_or, or_false, true_and, and_true, false_and, and_false, not_true_eq_false, not_false_eq_true, if_true, if_false, true_implies, false_implies, implies_true, forall_const, false_imp_iff, true_imp_iff, va_rf, zlay, zent, List.replicate_zero, List.append_nil, List.replicate_succ, List.length_append, ne_eq, Option.some.injEq, Value.int.injEq, Value.long.injEq, Int32.reduceOfNat, Int32.reduceToInt, Int.reduceLT, Int.reduceLE, Int.reduceSub, Int.reduceToNat, Int.reduceAdd, Int.reduceNeg, Int32.reduceDiv, Int64.reduceAdd, Int64.reduceSub, lg_cmp_ge, lg_cmp_le, lg_cmp_gt, lg_cmp_lt, lg_cmp_eq, wlt_t, wlt_f, wle_t, wle_f, wmod, wI_lt, wI_le, wI_eq, wI_neg, wI_pos, wI_cl, wI_ge, wI_po, w64_lt, w64_le, w64_eq, w64_lt0, w64_le0, w64_eq0, w64_32, zc317, zc319, wI_add, wI_a1, wI_s1, wI_e0, wI_m8, wI_m128, wI_m64, wI_m190, not_true_eq_false, not_false_eq_true, sP_3118_40 hS, sP_3118_41 hS, sP_3118_50 hS, sP_3118_56 hS, sP_3118_57 hS, sP_3118_58 hS, sP_3118_62 hS, sP_4908_38 hS, sN_3825 hS, sN_3856 hS, sN_4048 hS, sN_4144 hS, sN_4177 hS, sN_4209 hS, sN_5840 hS, sN_6417 hS]
    exact q
  | succ r ih =>
    intro i I J u5 hi g hk
    have hi2 : i < C (zWi Z 0 2) := by omega
    obtain ⟨zk, kk⟩ := zz i hi2
    have h1 := zHam_g g h
    obtain ⟨D, hv, hf, tx⟩ := id h1
    have k2 := zTx_f D tx 2 (by omega)
    have f4 := tx.2.2.2.1.1.1
    have f2 := hf 2 (by omega)
    have k1 := zDt_ch D k2 (by omega) (i := i) (by omega)
    obtain ⟨o1, -, o3, -⟩ := tx.2.2.2.1.2 i (by omega)
    have kc : zoc Z i < K := zDt_ch D k1 (by have := o1.1; omega) (i := 1) (by have := o1.2.2; omega)
    have kd : zoc Z i + 4 < K := by
      have h0 : 0 < C (zoc Z i) := o3.2.1
      have h4 : F (zoc Z i) = 4 := o3.1
      have hk0 := zDt_ch D kc (by omega) (i := 0) h0
      have := (zCoin_z D hk0 ((tx.2.2.2.1.2 i (by omega)).2.2.2.1 0 h0)).2
      have e : zWi Z (zoc Z i) 0 = zoc Z i + 1 := rfl
      rw [e] at this
      omega
    have p1 := fun (Q : Option Value → zS → Prop) => n266 (n := n) (z := z) hS D hv k2 (by omega) (c := i) (by omega) (by rfl) Q
    have q1 := fun (Q : Option Value → zS → Prop) => m2902 (I := I) (J := J) (n := n) (z := z) (gv := gv + 4 * i) (fo := 0) (ct := 2) (x := 0) hS (by omega) g.2.1.1 Q
    have g1 := yGv_g (I := I) (J := J) (t := 2) (gv := gv + 4 * i) (fo := 0) (ct := 2) (x := 0) (by omega)
    have oo := yGv_at (I := I) (i := 200 * 2 + (gv + 4 * i)) (gv := gv + 4 * i) (fo := 0) (ct := 2)
    obtain ⟨I1, hI1⟩ : ∃ I1, I1 = yGv I (200 * 2 + (gv + 4 * i)) (gv + 4 * i) 0 2 := ⟨_, rfl⟩
    obtain ⟨J1, hJ1⟩ : ∃ J1, J1 = zu J 5905 (200 * 2 + (gv + 4 * i)) 0 := ⟨_, rfl⟩
    have oj : J1 5905 (200 * 2 + (gv + 4 * i)) = 0 := by rw [hJ1, zu_at]
    rw [← hI1] at oo
    rw [← hI1, ← hJ1] at q1 g1
    have h2 := zHam_g g1 h1
    have a1 : nI (zWi Z (zWi Z 0 2) i) + 1 = nI (zWi Z (zWi Z 0 2) i + 1) := wI_a1
    have gg1 := yGg_t g g1
    rw [zo293_3]
    simp (decide := true) (disch := omega) only [f2, p1, q1, a1, zi293, zt293, zo293_0, zo293_1, zo293_2, zy_ldI, zy_ldL, zy_ldA, zy_stI, zy_stL, zy_stA, zy_cI, zy_cL, zy_nul, zy_inc, zy_bI, zy_bL, zy_sL, zy_un, zy_cmp, zy_dup, zy_dup2, zy_pop, zy_pop2, zy_jn, zy_jnn, zy_go, zy_fal, zy_tsw, zy_lsw, zy_get, zy_put, zy_ald, zy_ast, zy_len, zy_newa, zy_new, zy_cal, zy_ret, zy_tak, zy_cst, zy_acp, zy_oini, zy_cln, zy_thr, zy_bad, zy_lco, zy_if0, zy_ic0, zy_if1, zy_ic1, zy_if2, zy_ic2, zy_if3, zy_ic3, zy_if4, zy_ic4, zy_if5, zy_ic5, zK_go, zK_to, zK_end, zK_callH, zK_iteC, zK_none, zsLd, zsSt, zsInc, zsBI, zsBL, zsSL, zsUn, zsCmp, zsDup, zsDup2, zsPop, zsPop2, zsJn, zsTsw, zsLsw, zsGet, zsPut, zsAld, zsAst, zsLen, zsNewa, zsCal, zsRet, zsCst, zsAcp, zsOini, zsCln, zsLco, zsThr, zxBI, zxBL, zxSL, zxU, zset1, zset2, zclr, zcat, zmake_mk, zcomp, zH_i, zH_l, zH_r, zH_u, zH_n, List.set_cons_zero, List.set_cons_succ, List.getElem?_cons_zero, List.getElem?_cons_succ, List.length_cons, List.length_nil, List.take_succ_cons, List.take_zero, List.drop_succ_cons, List.drop_zero, List.reverse_cons, List.reverse_nil, List.nil_append, List.cons_append, List.map_cons, List.map_nil, List.sum_cons, List.sum_nil, Option.toList_some, Option.toList_none, Value.category, Nat.reduceAdd, Nat.reduceMul, Nat.reduceMod, Nat.reduceDiv, Nat.reduceSub, Nat.reduceLT, Nat.reduceLeDiff, Nat.reduceEqDiff, Nat.zero_le, Nat.le_refl, Int32.reduceToNatClampNeg, Int32.reduceLT, Int32.reduceLE, Int32.reduceAdd, Int32.reduceSub, Int32.reduceMul, ↓reduceIte, reduceCtorEq, Nat.add_zero, Nat.zero_add, true_or, or_true, false_or, or_false, true_and, and_true, false_and, and_false, not_true_eq_false, not_false_eq_true, if_true, if_false, true_implies, false_implies, implies_true, forall_const, false_imp_iff, true_imp_iff, va_rf, zlay, zent, List.replicate_zero, List.append_nil, List.replicate_succ, List.length_append, ne_eq, Option.some.injEq, Value.int.injEq, Value.long.injEq, Int32.reduceOfNat, Int32.reduceToInt, Int.reduceLT, Int.reduceLE, Int.reduceSub, Int.reduceToNat, Int.reduceAdd, Int.reduceNeg, Int32.reduceDiv, Int64.reduceAdd, Int64.reduceSub, lg_cmp_ge, lg_cmp_le, lg_cmp_gt, lg_cmp_lt, lg_cmp_eq, wlt_t, wlt_f, wle_t, wle_f, wmod, wI_lt, wI_le, wI_eq, wI_neg, wI_pos, wI_cl, wI_ge, wI_po, w64_lt, w64_le, w64_eq, w64_lt0, w64_le0, w64_eq0, w64_32, zc317, zc319, wI_add, wI_a1, wI_s1, wI_e0, wI_m8, wI_m128, wI_m64, wI_m190, not_true_eq_false, not_false_eq_true, sP_3118_40 hS, sP_3118_41 hS, sP_3118_50 hS, sP_3118_56 hS, sP_3118_57 hS, sP_3118_58 hS, sP_3118_62 hS, sP_4908_38 hS, sN_3825 hS, sN_3856 hS, sN_4048 hS, sN_4144 hS, sN_4177 hS, sN_4209 hS, sN_5840 hS, sN_6417 hS]
    refine e291 (t := 2) (k := zWi Z (zWi Z 0 2) i + 1) (gv := gv + 4 * i + 1) (sz := sz) (L := L) (Y := Y) hS rfl (by omega) h2.2.1 (by omega) (by omega) (by omega) (by omega) g1.2.1.1 (fun j hj hj2 => ⟨(hX j hj hj2).1, fun i' hi' => by rw [gg1.1.1 3151 (by decide) (by decide) (by decide) (by decide)]; exact (hX j hj hj2).2 i' hi'⟩) (fun I2 J2 g2 e2 => ?_)
    have el : yll [ysub (zWi Z (zWi Z 0 2) i + 1) (K, F, C, T, Z, L, Y)] = 2 := by
      show Z (zWi Z (zWi Z 0 2) i + 1) + 0 = 2
      omega
    rw [el] at g2
    have h3 := zHam_g g2 h2
    obtain ⟨D3, hv3, hf3, tx3⟩ := id h3
    have p2 : ∀ (Q : Option Value → zS → Prop), zC 266 [.ref 3118, .int (nI (zWi Z (zWi Z 0 2) i)), .int 1] (I2, J2, P, N, n, z) Q = Q (some (.int (nI (zoc Z i)))) (I2, J2, P, N, n, z) := fun (Q : Option Value → zS → Prop) => n266 (n := n) (z := z) hS D3 hv3 k1 (by have := o1.1; omega) (c := 1) (x := 1) (by have := o1.2.2; omega) (by rfl) Q
    have p3 : ∀ (Q : Option Value → zS → Prop), zC 266 [.ref 3118, .int (nI (zoc Z i)), .int 0] (I2, J2, P, N, n, z) Q = Q (some (.int (nI (zoc Z i + 1)))) (I2, J2, P, N, n, z) := fun (Q : Option Value → zS → Prop) => n266 (n := n) (z := z) hS D3 hv3 kc (by have : F (zoc Z i) = 4 := o3.1; omega) (c := 0) (x := 0) (by omega) (by rfl) Q
    have t3 : J2 3825 (zoc Z i + 4) = T (zoc Z i + 4) := (hv3 _ (by omega)).2.1
    have a3 : nI (zoc Z i + 1) + 3 = nI (zoc Z i + 4) := wI_add (j := 3)
    have q4 := fun (Q : Option Value → zS → Prop) => m2902 (I := I2) (J := J2) (n := n) (z := z) (gv := gv + 4 * i + 1 + 2) (fo := 3) (ct := 0) (x := T (zoc Z i + 4)) hS (by omega) g2.2.1.1 Q
    have g4 := yGv_g (I := I2) (J := J2) (t := 2) (gv := gv + 4 * i + 1 + 2) (fo := 3) (ct := 0) (x := T (zoc Z i + 4)) (by omega)
    have k4 := yGv_i (I := I2) (J := J2) (t := 2) (sz := sz) (gv := gv + 4 * i + 1 + 2) (x := T (zoc Z i + 4))
    obtain ⟨I4, hI4⟩ : ∃ I4, I4 = yGv I2 (200 * 2 + (gv + 4 * i + 1 + 2)) (gv + 4 * i + 1 + 2) 3 0 := ⟨_, rfl⟩
    obtain ⟨J4, hJ4⟩ : ∃ J4, J4 = zu J2 5905 (200 * 2 + (gv + 4 * i + 1 + 2)) (T (zoc Z i + 4)) := ⟨_, rfl⟩
    rw [← hI4, ← hJ4] at q4 g4 k4
    have row : yEl (yEg I4 J4 2 sz) (gv + 4 * i + 1) [ysub (zWi Z (zWi Z 0 2) i + 1) (K, F, C, T, Z, L, Y), yint (T (zoc Z i + 4))] := by
      refine ⟨yEtg g4 (show gv + 4 * i + 1 + Z (zWi Z (zWi Z 0 2) i + 1) ≤ _ by omega) e2.1, ?_, trivial⟩
      show yEt _ (gv + 4 * i + 1 + Z (zWi Z (zWi Z 0 2) i + 1)) _
      rw [zk]
      exact k4
    have oh := (yGg_t g2 g4).2.2 (200 * 2 + (gv + 4 * i)) (by omega)
    have coin : yEt (yEg I4 J4 2 sz) (gv + 4 * i) (ypd (K, F, C, T, Z, L, Y) Z (fun i => T (zoc Z i + 4)) i) := yas_at (fun y => ⟨by rw [oh.1, oo.1]; rfl, by rw [oh.2.1, oj], by rw [oh.2.2.1, oo.2.1]; rfl, fun h => by cases h⟩) row
    have gn : yGg I J I4 J4 2 (gv + 4 * i) (gv + 4 * (i + 1)) := by
      have := yGg_t g1 (yGg_t g2 g4)
      rw [show gv + 4 * i + 1 + 2 + 1 = gv + 4 * (i + 1) by omega] at this
      exact this
    have q := ih (i + 1) I4 J4 (some (.int (nI (zWi Z (zWi Z 0 2) i)))) (by omega) (yGg_t g gn) (fun k hk' => by
      by_cases hki : k = i
      · subst hki; exact coin
      · refine yEtg gn ?_ (hk k (by omega))
        rw [ypd_1 (zz k (by omega)).1]
        omega)
    simp (decide := true) (disch := omega) only [p2, p3, a3, t3, q4, zi293, zt293, zo293_0, zo293_1, zo293_2, zy_ldI, zy_ldL, zy_ldA, zy_stI, zy_stL, zy_stA, zy_cI, zy_cL, zy_nul, zy_inc, zy_bI, zy_bL, zy_sL, zy_un, zy_cmp, zy_dup, zy_dup2, zy_pop, zy_pop2, zy_jn, zy_jnn, zy_go, zy_fal, zy_tsw, zy_lsw, zy_get, zy_put, zy_ald, zy_ast, zy_len, zy_newa, zy_new, zy_cal, zy_ret, zy_tak, zy_cst, zy_acp, zy_oini, zy_cln, zy_thr, zy_bad, zy_lco, zy_if0, zy_ic0, zy_if1, zy_ic1, zy_if2, zy_ic2, zy_if3, zy_ic3, zy_if4, zy_ic4, zy_if5, zy_ic5, zK_go, zK_to, zK_end, zK_callH, zK_iteC, zK_none, zsLd, zsSt, zsInc, zsBI, zsBL, zsSL, zsUn, zsCmp, zsDup, zsDup2, zsPop, zsPop2, zsJn, zsTsw, zsLsw, zsGet, zsPut, zsAld, zsAst, zsLen, zsNewa, zsCal, zsRet, zsCst, zsAcp, zsOini, zsCln, zsLco, zsThr, zxBI, zxBL, zxSL, zxU, zset1, zset2, zclr, zcat, zmake_mk, zcomp, zH_i, zH_l, zH_r, zH_u, zH_n, List.set_cons_zero, List.set_cons_succ, List.getElem?_cons_zero, List.getElem?_cons_succ, List.length_cons, List.length_nil, List.take_succ_cons, List.take_zero, List.drop_succ_cons, List.drop_zero, List.reverse_cons, List.reverse_nil, List.nil_append, List.cons_append, List.map_cons, List.map_nil, List.sum_cons, List.sum_nil, Option.toList_some, Option.toList_none, Value.category, Nat.reduceAdd, Nat.reduceMul, Nat.reduceMod, Nat.reduceDiv, Nat.reduceSub, Nat.reduceLT, Nat.reduceLeDiff, Nat.reduceEqDiff, Nat.zero_le, Nat.le_refl, Int32.reduceToNatClampNeg, Int32.reduceLT, Int32.reduceLE, Int32.reduceAdd, Int32.reduceSub, Int32.reduceMul, ↓reduceIte, reduceCtorEq, Nat.add_zero, Nat.zero_add, true_or, or_true, false_or, or_false, true_and, and_true, false_and, and_false, not_true_eq_false, not_false_eq_true, if_true, if_false, true_implies, false_implies, implies_true, forall_const, false_imp_iff, true_imp_iff, va_rf, zlay, zent, List.replicate_zero, List.append_nil, List.replicate_succ, List.length_append, ne_eq, Option.some.injEq, Value.int.injEq, Value.long.injEq, Int32.reduceOfNat, Int32.reduceToInt, Int.reduceLT, Int.reduceLE, Int.reduceSub, Int.reduceToNat, Int.reduceAdd, Int.reduceNeg, Int32.reduceDiv, Int64.reduceAdd, Int64.reduceSub, lg_cmp_ge, lg_cmp_le, lg_cmp_gt, lg_cmp_lt, lg_cmp_eq, wlt_t, wlt_f, wle_t, wle_f, wmod, wI_lt, wI_le, wI_eq, wI_neg, wI_pos, wI_cl, wI_ge, wI_po, w64_lt, w64_le, w64_eq, w64_lt0, w64_le0, w64_eq0, w64_32, zc317, zc319, wI_add, wI_a1, wI_s1, wI_e0, wI_m8, wI_m128, wI_m64, wI_m190, not_true_eq_false, not_false_eq_true, sP_3118_40 hS, sP_3118_41 hS, sP_3118_50 hS, sP_3118_56 hS, sP_3118_57 hS, sP_3118_58 hS, sP_3118_62 hS, sP_4908_38 hS, sN_3825 hS, sN_3856 hS, sN_4048 hS, sN_4144 hS, sN_4177 hS, sN_4209 hS, sN_5840 hS, sN_6417 hS]
    exact q
end
