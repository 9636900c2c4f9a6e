-- needs: 01 02.names 03 04 05 18 19 20 22 23 24 25 30 31 32 33 35 36 37 40 42 43 44 45 46 47 60 61 62 63 64 65 66 67 68 69 79f 79g 79h 79i 79j 79k 79l 79m 79n 79o 79p 79q 79r 79s 79t 79u 79v 79w 79x 79y 79z. 79za 79zb 79zc 79zd 79ze 79zf 79zg 79zh 79zi 79zj 79zk 79zl 79zm 79zn 79zo 79zp 79zq 79zr 79zs 79zt 79zu 79zv 7a 7b 7c 7d 7e 7f 7g 7zl 7zm 7zn 7zo
/-! The DATUM of an output, read by the class -/
def yDb (row : Nat → Int32) (k t : Nat) : Nat → Nat := ztB (fun j => zby' (row (128 * k + j))) t
noncomputable def yDm (row : Nat → Int32) (k t : Nat) : yD := ((zdr (yDb row k t) t 201 0).2.2, fun j => znQ (yDb row k t) (zat (yDb row k t) j), fun j => znC (yDb row k t) (zat (yDb row k t) j), fun j => znT (yDb row k t) (zat (yDb row k t) j), zSz (yDb row k t), fun j => zlvl (yDb row k t) j, fun j i => row (128 * k + (zhX (yDb row k t) (zat (yDb row k t) j) + i)))
section
variable {row : Nat → Int32} {k t : Nat}
theorem yDb_lt (a : Nat) : yDb row k t a < 256 := by
  unfold yDb ztB
  split
  · show zby' _ < 256
    unfold zby'
    omega
  · omega
theorem yDm_r (h : zDk row k t) : zdr (yDb row k t) t 201 0 = (0, 0, (yDm row k t).1) := by
  obtain ⟨⟨K, hK⟩, -⟩ := h
  show zdr (yDb row k t) t 201 0 = (0, 0, (zdr (yDb row k t) t 201 0).2.2)
  have hK : zdr (yDb row k t) t 201 0 = (0, 0, K) := hK
  rw [hK]
theorem yDm_s (h : zDk row k t) : ∀ j, j < (yDm row k t).1 → zsF (yDb row k t) t j = 0 := fun j hj => (zdr_f 201 0 (yDm_r h) (by omega) (by omega)).1 j (Nat.zero_le _) hj
/-- bytes lie within -/
theorem yDm_b (h : zDk row k t) {j : Nat} (hj : j < (yDm row k t).1) (h2 : (yDm row k t).2.1 j = 2) : zhX (yDb row k t) (zat (yDb row k t) j) + (yDm row k t).2.2.1 j ≤ t := by
  obtain ⟨-, -, a3, -, -, a6, -⟩ := zn_v (B := yDb row k t) (B' := yDb row k t) (a0 := 0) (e := t) (fun i _ => by rw [Nat.zero_add]) (yDm_s h j hj)
  have := a6 h2
  show zhX (yDb row k t) (zat (yDb row k t) j) + znC (yDb row k t) (zat (yDb row k t) j) ≤ t
  omega
theorem yDm_w (h : zDk row k t) (hI : ∀ j, j < (yDm row k t).1 → ∃ m, zIsp (yDb row k t) j m ∧ j + m ≤ (yDm row k t).1) : ywf (yDm row k t) := by
  refine ⟨(zDt_of yDb_lt (yDm_r h) hI).1, fun j hj h2 i hi => ?_⟩
  have := yDm_b h hj h2
  have hi : i < (yDm row k t).2.2.1 j := hi
  exact h.2 _ (by omega)
end
/-- what the reading of a DATUM leaves as it was -/
def yDf (I : zI) (J : zJ) (I' : zI) (J' : zJ) (nt : Nat) : Prop := (∀ c, c ≠ 290 → c ≠ 336 → c ≠ 368 → c ≠ 400 → c ≠ 79 → c ≠ 112 → c ≠ 144 → c ≠ 176 → c ≠ 37 → c ≠ 239 → I' c = I c) ∧ (∀ j, j ≠ 7 → I' 37 j = I 37 j) ∧ (∀ j, j < nt → I' 79 j = I 79 j ∧ I' 112 j = I 112 j ∧ I' 144 j = I 144 j ∧ I' 176 j = I 176 j ∧ J' 209 j = J 209 j) ∧ (∀ c, c ≠ 290 → c ≠ 209 → J' c = J c) ∧ ∀ j, j < 4096 → I' 239 j = I 239 j
section
variable {I I' : zI} {J J' : zJ} {P : zP} {N : Nat → Nat} {n z nt m a : Nat} {g : Nat → Nat → Nat} {Q : Option Value → zS → Prop}
set_option maxRecDepth 20000 in
set_option maxHeartbeats 2000000 in
theorem e176 (hS : zStat P N) (v1 : I 2115 2 = nI m) (hm : m ≤ 1024) (ha : a < m) (O : zO1 I J P N I J g n a) (hk : zDk (I 3567) a (g 7 a)) (h7 : I 37 7 = nI nt) (hn : nt ≤ 400)
    (hQ : ∀ I' J', yDf I J I' J' nt → (yDm (I 3567) a (g 7 a)).1 ≤ 200 → ywf (yDm (I 3567) a (g 7 a)) → yEt (yEc I' J' 4224) nt (yDm (I 3567) a (g 7 a)) → I' 37 7 = nI (nt + (yDm (I 3567) a (g 7 a)).1) → Q (some (.int (nI nt))) (I', J', P, N, n, z)) : zC 176 [.ref 11, .long (nI a).toInt64] (I, J, P, N, n, z) Q := by
  obtain ⟨⟨p1, p2, p3, -⟩, -, -, ⟨n1, -⟩, ⟨-, g7⟩, -, hd, hg⟩ := O
  have g0 := hg 0 (by decide)
  have g5 := hg 5 (by decide)
  have p43 := fun (Q : Option Value → zS → Prop) => m43t (I := I) (J := J) (n := n) (z := z) (g := g) hS v1 hm ha p1 Q
  obtain ⟨I1, hI1⟩ : ∃ I1, I1 = zcp I (32 * g 5 a + 15) 0 239 4096 (g 7 a) := ⟨_, rfl⟩
  have f1 : ∀ c, c ≠ 239 → I1 c = I c := fun c hc => by rw [hI1, yzcp_ne hc]
  have f2 : ∀ j, j < 4096 → I1 239 j = I 239 j := fun j hj => by rw [hI1, yzcp_o (by omega)]
  have f3 : ∀ j, j < g 7 a → I1 239 (4096 + j) = I 3567 (128 * a + j) := fun j hj => by
    rw [hI1, yzcp_i (by omega) (by omega), show 0 + (4096 + j - 4096) = j by omega]
    exact hd j hj
  have hB : ∀ i, i < g 7 a → yDb (I 3567) a (g 7 a) i = (fun j => zby' (I1 239 (4096 + j))) i := fun i hi => by
    unfold yDb ztB
    rw [if_pos hi]
    show zby' _ = zby' _
    rw [f3 i hi]
  have hr := yDm_r hk
  have ec := zdr_c (B := fun j => zby' (I1 239 (4096 + j))) hB 201 0 (fun j hj => by omega)
  rw [hr] at ec
  have q := e30 (I := I1) (J := J) (n := n) (z := z) (t := g 7 a) (fr := 4096) (b0 := nt) (Q := zH (zcal 30 3 1 2) [] zt176 [zpop, zfal 1] [some (.ref 11), some (.long (nI a).toInt64), none, some (.int (nI nt)), some (.ref (32 * g 0 a + 6))] Q) hS (by omega) (by omega) rfl (by rw [f1 37 (by decide)]; exact h7) (fun I' J' hF _ _ => by
    rw [ec] at hF
    exact absurd rfl hF) (fun I' J' K hK F E _ => by
    rw [ec] at hK
    have eK : (yDm (I 3567) a (g 7 a)).1 = K := congrArg (fun x => x.2.2) hK
    rw [← eK] at E
    have E := zEd_c hB hr E
    have cv := zCv_of E
    have hw := yDm_w hk (fun j hj => by
      obtain ⟨m, m1, m2, -⟩ := E.2.2 j hj
      exact ⟨m, m1, m2⟩)
    obtain ⟨F1, F2, F3, F4⟩ := F
    have q := hQ I' J' ⟨fun c x1 x2 x3 x4 x5 x6 x7 x8 x9 x10 => by rw [F1 c x1 x2 x3 x4 x5 x6 x7 x8 x9, f1 c x10], fun j hj => by rw [F2 j hj, f1 37 (by decide)], fun j hj => by
      have := F3 j hj
      rw [f1 79 (by decide), f1 112 (by decide), f1 144 (by decide), f1 176 (by decide)] at this
      exact this, F4, fun j hj => by rw [F1 239 (by decide) (by decide) (by decide) (by decide) (by decide) (by decide) (by decide) (by decide) (by decide), f2 j hj]⟩ E.1.2.2.2.2.2 hw (fun j hj => by
      obtain ⟨c1, c2, c3, c4, c5⟩ := cv j hj
      refine ⟨c1, c2, c3, c4, fun h2 => ⟨_, c5 h2, ?_, fun i hi => ?_⟩⟩
      · have b := yDm_b hk (j := j) hj h2
        have b : zhX (yDb (I 3567) a (g 7 a)) (zat (yDb (I 3567) a (g 7 a)) j) + znC (yDb (I 3567) a (g 7 a)) (zat (yDb (I 3567) a (g 7 a)) j) ≤ g 7 a := b
        show 4096 + zhX (yDb (I 3567) a (g 7 a)) (zat (yDb (I 3567) a (g 7 a)) j) + znC (yDb (I 3567) a (g 7 a)) (zat (yDb (I 3567) a (g 7 a)) j) ≤ 4224
        omega
      · have b := yDm_b hk (j := j) hj h2
        have b : zhX (yDb (I 3567) a (g 7 a)) (zat (yDb (I 3567) a (g 7 a)) j) + znC (yDb (I 3567) a (g 7 a)) (zat (yDb (I 3567) a (g 7 a)) j) ≤ g 7 a := b
        have hi : i < znC (yDb (I 3567) a (g 7 a)) (zat (yDb (I 3567) a (g 7 a)) j) := hi
        show I' 239 (4096 + zhX (yDb (I 3567) a (g 7 a)) (zat (yDb (I 3567) a (g 7 a)) j) + i) = I 3567 (128 * a + (zhX (yDb (I 3567) a (g 7 a)) (zat (yDb (I 3567) a (g 7 a)) j) + i))
        rw [F1 239 (by decide) (by decide) (by decide) (by decide) (by decide) (by decide) (by decide) (by decide) (by decide), Nat.add_assoc, f3 _ (by omega)]) E.1.1
    rw [zH_i]
    simp (decide := true) (disch := omega) only [zi176, zt176, zo176_0, zo176_1, zy_ldI, zy_ldL, zy_ldA, zy_stI, zy_stL, zy_stA, zy_cI, zy_cL, zy_nul, zy_inc, zy_bI, zy_bL, zy_sL, zy_un, zy_cmp, zy_dup, zy_dup2, zy_pop, zy_pop2, zy_jn, zy_jnn, zy_go, zy_fal, zy_tsw, zy_lsw, zy_get, zy_put, zy_ald, zy_ast, zy_len, zy_newa, zy_new, zy_cal, zy_ret, zy_tak, zy_cst, zy_acp, zy_oini, zy_cln, zy_thr, zy_bad, zy_lco, zy_if0, zy_ic0, zy_if1, zy_ic1, zy_if2, zy_ic2, zy_if3, zy_ic3, zy_if4, zy_ic4, zy_if5, zy_ic5, zK_go, zK_to, zK_end, zK_callH, zK_iteC, zK_none, zsLd, zsSt, zsInc, zsBI, zsBL, zsSL, zsUn, zsCmp, zsDup, zsDup2, zsPop, zsPop2, zsJn, zsTsw, zsLsw, zsGet, zsPut, zsAld, zsAst, zsLen, zsNewa, zsCal, zsRet, zsCst, zsAcp, zsOini, zsCln, zsLco, zsThr, zxBI, zxBL, zxSL, zxU, zset1, zset2, zclr, zcat, zmake_mk, zcomp, zH_i, zH_l, zH_r, zH_u, zH_n, List.set_cons_zero, List.set_cons_succ, List.getElem?_cons_zero, List.getElem?_cons_succ, List.length_cons, List.length_nil, List.take_succ_cons, List.take_zero, List.drop_succ_cons, List.drop_zero, List.reverse_cons, List.reverse_nil, List.nil_append, List.cons_append, List.map_cons, List.map_nil, List.sum_cons, List.sum_nil, Option.toList_some, Option.toList_none, Value.category, Nat.reduceAdd, Nat.reduceMul, Nat.reduceMod, Nat.reduceDiv, Nat.reduceSub, Nat.reduceLT, Nat.reduceLeDiff, Nat.reduceEqDiff, Nat.zero_le, Nat.le_refl, Int32.reduceToNatClampNeg, Int32.reduceLT, Int32.reduceLE, Int32.reduceAdd, Int32.reduceSub, Int32.reduceMul, ↓reduceIte, reduceCtorEq, Nat.add_zero, Nat.zero_add, true_or, or_true, false_or, or_false, true_and, and_true, false_and, and_false, not_true_eq_false, not_false_eq_true, if_true, if_false, true_implies, false_implies, implies_true, forall_const, false_imp_iff, true_imp_iff, va_rf, zlay, zent, List.replicate_zero, List.append_nil, List.replicate_succ, List.length_append, ne_eq, Option.some.injEq, Value.int.injEq, Value.long.injEq, Int32.reduceOfNat, Int32.reduceToInt, Int.reduceLT, Int.reduceLE, Int.reduceSub, Int.reduceToNat, Int.reduceAdd, Int.reduceNeg, Int32.reduceDiv, Int64.reduceAdd, Int64.reduceSub, lg_cmp_ge, lg_cmp_le, lg_cmp_gt, lg_cmp_lt, lg_cmp_eq, wlt_t, wlt_f, wle_t, wle_f, wmod, wI_lt, wI_le, wI_eq, wI_neg, wI_pos, wI_cl, wI_ge, wI_po, w64_lt, w64_le, w64_eq, w64_lt0, w64_le0, w64_eq0, w64_32, zc317, zc319, wI_add, wI_a1, wI_s1, wI_e0, wI_m8, wI_m128, wI_m64, wI_m190, not_true_eq_false, not_false_eq_true, sP_11_0 hS, sP_11_1 hS, sP_11_4 hS, sP_37_5 hS, sN_239 hS, sN_6417 hS]
    exact q)
  have r1 : (32 * g 0 a + 6) % 32 = 6 := by omega
  have r2 : (32 * g 5 a + 15) % 32 = 15 := by omega
  have e1 : (4096 : Int32) + nI (g 7 a) = nI (4096 + g 7 a) := wI_add (i := 4096)
  have i1 : I1 37 = I 37 := f1 37 (by decide)
  rw [hI1] at q
  simp (decide := true) (disch := omega) only [h7, p43, r1, r2, p3, n1, e1, zi176, zt176, zo176_0, zo176_1, zy_ldI, zy_ldL, zy_ldA, zy_stI, zy_stL, zy_stA, zy_cI, zy_cL, zy_nul, zy_inc, zy_bI, zy_bL, zy_sL, zy_un, zy_cmp, zy_dup, zy_dup2, zy_pop, zy_pop2, zy_jn, zy_jnn, zy_go, zy_fal, zy_tsw, zy_lsw, zy_get, zy_put, zy_ald, zy_ast, zy_len, zy_newa, zy_new, zy_cal, zy_ret, zy_tak, zy_cst, zy_acp, zy_oini, zy_cln, zy_thr, zy_bad, zy_lco, zy_if0, zy_ic0, zy_if1, zy_ic1, zy_if2, zy_ic2, zy_if3, zy_ic3, zy_if4, zy_ic4, zy_if5, zy_ic5, zK_go, zK_to, zK_end, zK_callH, zK_iteC, zK_none, zsLd, zsSt, zsInc, zsBI, zsBL, zsSL, zsUn, zsCmp, zsDup, zsDup2, zsPop, zsPop2, zsJn, zsTsw, zsLsw, zsGet, zsPut, zsAld, zsAst, zsLen, zsNewa, zsCal, zsRet, zsCst, zsAcp, zsOini, zsCln, zsLco, zsThr, zxBI, zxBL, zxSL, zxU, zset1, zset2, zclr, zcat, zmake_mk, zcomp, zH_i, zH_l, zH_r, zH_u, zH_n, List.set_cons_zero, List.set_cons_succ, List.getElem?_cons_zero, List.getElem?_cons_succ, List.length_cons, List.length_nil, List.take_succ_cons, List.take_zero, List.drop_succ_cons, List.drop_zero, List.reverse_cons, List.reverse_nil, List.nil_append, List.cons_append, List.map_cons, List.map_nil, List.sum_cons, List.sum_nil, Option.toList_some, Option.toList_none, Value.category, Nat.reduceAdd, Nat.reduceMul, Nat.reduceMod, Nat.reduceDiv, Nat.reduceSub, Nat.reduceLT, Nat.reduceLeDiff, Nat.reduceEqDiff, Nat.zero_le, Nat.le_refl, Int32.reduceToNatClampNeg, Int32.reduceLT, Int32.reduceLE, Int32.reduceAdd, Int32.reduceSub, Int32.reduceMul, ↓reduceIte, reduceCtorEq, Nat.add_zero, Nat.zero_add, true_or, or_true, false_or, or_false, true_and, and_true, false_and, and_false, not_true_eq_false, not_false_eq_true, if_true, if_false, true_implies, false_implies, implies_true, forall_const, false_imp_iff, true_imp_iff, va_rf, zlay, zent, List.replicate_zero, List.append_nil, List.replicate_succ, List.length_append, ne_eq, Option.some.injEq, Value.int.injEq, Value.long.injEq, Int32.reduceOfNat, Int32.reduceToInt, Int.reduceLT, Int.reduceLE, Int.reduceSub, Int.reduceToNat, Int.reduceAdd, Int.reduceNeg, Int32.reduceDiv, Int64.reduceAdd, Int64.reduceSub, lg_cmp_ge, lg_cmp_le, lg_cmp_gt, lg_cmp_lt, lg_cmp_eq, wlt_t, wlt_f, wle_t, wle_f, wmod, wI_lt, wI_le, wI_eq, wI_neg, wI_pos, wI_cl, wI_ge, wI_po, w64_lt, w64_le, w64_eq, w64_lt0, w64_le0, w64_eq0, w64_32, zc317, zc319, wI_add, wI_a1, wI_s1, wI_e0, wI_m8, wI_m128, wI_m64, wI_m190, not_true_eq_false, not_false_eq_true, sP_11_0 hS, sP_11_1 hS, sP_11_4 hS, sP_37_5 hS, sN_239 hS, sN_6417 hS]
  exact q
end
