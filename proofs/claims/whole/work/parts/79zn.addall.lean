-- needs: 01 02.names 03 04 05 18 19 20 22 23 24 25 30 31 32 33 35 36 37 40 42 43 44 45 46 47 60 61 62 63 64 65 66 67 68 69 79f 79g 79h 79i 79j 79k 79l 79m 79n 79o 79p 79q 79r 79s 79t 79u 79v 79w 79x 79y 79z. 79za 79zb 79zc 79zd 79ze 79zf 79zg 79zh 79zi 79zj 79zl 79zm
/-! tables of the class: all of a row; are they balanced? -/
/-- what the first coins of a row hold of a kind -/
def zKs (cp : Nat → Int32) (cx ca : Nat → Int64) (q : Int32) (y : Int64) : Nat → Int
  | 0 => 0
  | j + 1 => zKs cp cx ca q y j + if cp j = q ∧ cx j = y then (ca j).toInt else 0
theorem zKs_amt {A : zI} {B : zJ} {k : Nat} {q : Int32} {y : Int64} : ∀ j, zKs (fun j => A 3472 (8 * k + j)) (fun j => B 3505 (8 * k + j)) (fun j => B 3537 (8 * k + j)) q y j = zAmt A B k q y j := by
  intro j
  induction j with
  | zero => rfl
  | succ j ih => unfold zKs zAmt; rw [ih]
section
variable {cp cp' : Nat → Int32} {cx ca cx' ca' : Nat → Int64} {q : Int32} {y : Int64} {w : Nat}
theorem zKs_c (h : ∀ j, j < w → cp' j = cp j ∧ cx' j = cx j ∧ ca' j = ca j) : ∀ j, j ≤ w → zKs cp' cx' ca' q y j = zKs cp cx ca q y j := by
  intro j
  induction j with
  | zero => intro _; rfl
  | succ j ih =>
    intro hj
    obtain ⟨h1, h2, h3⟩ := h j (by omega)
    unfold zKs
    rw [ih (by omega), h1, h2, h3]
theorem zKs_pos (h : ∀ j, j < w → 0 ≤ (ca j).toInt) : ∀ d i, i + d = w → 0 ≤ zKs cp cx ca q y i ∧ zKs cp cx ca q y i ≤ zKs cp cx ca q y w := by
  have pos : ∀ i, i ≤ w → 0 ≤ zKs cp cx ca q y i := by
    intro i
    induction i with
    | zero => intro _; exact Int.le_refl _
    | succ i ih =>
      intro hi
      have h1 := ih (by omega)
      have h2 := h i (by omega)
      unfold zKs
      split <;> omega
  intro d
  induction d with
  | zero =>
    intro i hi
    obtain rfl : i = w := by omega
    exact ⟨pos i (by omega), Int.le_refl _⟩
  | succ d ih =>
    intro i hi
    have h1 := (ih (i + 1) (by omega)).2
    have h2 := h i (by omega)
    refine ⟨pos i (by omega), ?_⟩
    have e : zKs cp cx ca q y (i + 1) = zKs cp cx ca q y i + if cp i = q ∧ cx i = y then (ca i).toInt else 0 := rfl
    rw [e] at h1
    split at h1 <;> omega
theorem zKs_none : ∀ c, (∀ j, j < c → ¬ (cp j = q ∧ cx j = y)) → zKs cp cx ca q y c = 0 := by
  intro c
  induction c with
  | zero => intro _; rfl
  | succ c ih =>
    intro h
    unfold zKs
    rw [ih (fun j hj => h j (by omega)), if_neg (h c (by omega))]
    rfl
/-- a table in order: what it holds of a kind is what is found -/
theorem zKs_am : ∀ w, zSrt cp cx w → (zAm cp cx ca w q y).toInt = zKs cp cx ca q y w := by
  have gen : ∀ w, zSrt cp cx w → (∀ i, i < w → cp i = q → cx i = y → zKs cp cx ca q y w = (ca i).toInt) := by
    intro w
    induction w with
    | zero => intro _ i hi; exact absurd hi (Nat.not_lt_zero _)
    | succ w ih =>
      intro hs i hi h1 h2
      unfold zKs
      by_cases hiw : i = w
      · rw [← hiw, if_pos ⟨h1, h2⟩, zKs_none i (fun j hj x => by
          have := hs j i hj (by omega)
          rw [x.1, x.2, h1, h2] at this
          exact zAhd_irr this)]
        omega
      · rw [ih (fun a b ha hb => hs a b ha (by omega)) i (by omega) h1 h2, if_neg (fun x => by
          have := hs i w (by omega) (by omega)
          rw [x.1, x.2, h1, h2] at this
          exact zAhd_irr this)]
        omega
  intro w hs
  by_cases h : zHsk cp cx w q y
  · obtain ⟨i, i1, i2, i3⟩ := h
    rw [zAm_h hs i1 i2 i3, gen w hs i i1 i2 i3]
  · rw [zAm_n hs h, zKs_none w (fun j hj x => h ⟨j, hj, x.1, x.2⟩)]
    rfl
end
section
variable {I : zI} {J : zJ} {P : zP} {N : Nat → Nat} {n z : Nat} {c rp rn ra w d sp sn sa v : Nat} {V : Int32 → Int64 → Int} {cp : Nat → Int32} {cx ca : Nat → Int64} {Q : Option Value → zS → Prop}
theorem zCxf_tr {I I' I'' : zI} {J J' J'' : zJ} (h : zCxf I J I' J' c rp rn ra) (h' : zCxf I' J' I'' J'' c rp rn ra) : zCxf I J I'' J'' c rp rn ra :=
  ⟨fun q a b => (h'.1 q a b).trans (h.1 q a b), fun j hj => (h'.2.1 j hj).trans (h.2.1 j hj), fun q a b => (h'.2.2 q a b).trans (h.2.2 q a b)⟩
/-- the table V with the first j coins of a row -/
def zVr (V : Int32 → Int64 → Int) (cp : Nat → Int32) (cx ca : Nat → Int64) (j : Nat) : Int32 → Int64 → Int := fun q y => V q y + zKs cp cx ca q y j
theorem zVr_s {j : Nat} : zUpV (zVr V cp cx ca j) (cp j) (cx j) (ca j).toInt = zVr V cp cx ca (j + 1) := by
  funext q y
  unfold zUpV zVr
  have e : zKs cp cx ca q y (j + 1) = zKs cp cx ca q y j + if cp j = q ∧ cx j = y then (ca j).toInt else 0 := rfl
  rw [e]
  omega
set_option maxRecDepth 20000 in
set_option maxHeartbeats 4000000 in
theorem e25 (hT : zTb I J P N c rp rn ra w V) (hw1 : w + v ≤ N rp) (hw2 : w + v ≤ N rn) (hw3 : w + v ≤ N ra) (hb : w + v ≤ 65 ∧ N ra < 2 ^ 31) (hd : c ≠ rp) (hd2 : rn ≠ ra)
    (hC : zCo I P N d sp sn sa v) (x1 : d ≠ c ∧ d ≠ rp) (x2 : sp ≠ c ∧ sp ≠ rp) (x3 : sn ≠ rn ∧ sn ≠ ra) (x4 : sa ≠ rn ∧ sa ≠ ra) (hr : ∀ j, j < v → I sp j = cp j ∧ J sn j = cx j ∧ J sa j = ca j) (ha : ∀ j, j < v → 1 ≤ (ca j).toInt ∧ (ca j).toInt ≤ 4611686018427387904)
    (hQ0 : (¬ ∀ q y, zVr V cp cx ca v q y ≤ 4611686018427387904) → ∀ I' J', zCxf I J I' J' c rp rn ra → Q (some (.int 0)) (I', J', P, N, n, z))
    (hQ1 : (∀ q y, zVr V cp cx ca v q y ≤ 4611686018427387904) → ∀ I' J' w', zCxf I J I' J' c rp rn ra → w' ≤ w + v → zTb I' J' P N c rp rn ra w' (zVr V cp cx ca v) → Q (some (.int 1)) (I', J', P, N, n, z)) : zC 25 [.ref c, .ref d] (I, J, P, N, n, z) Q := by
  have mono : ∀ i, i ≤ v → ∀ q y, zVr V cp cx ca i q y ≤ zVr V cp cx ca v q y := fun i hi q y => by
    have := (zKs_pos (cp := cp) (cx := cx) (ca := ca) (q := q) (y := y) (w := v) (fun j hj => by have := (ha j hj).1; omega) (v - i) i (by omega)).2
    unfold zVr
    omega
  have li : ∀ r i I' J' w', i + r = v → zCxf I J I' J' c rp rn ra → w' ≤ w + i → zTb I' J' P N c rp rn ra w' (zVr V cp cx ca i) → zQ zt25 zo25_1 [some (.ref c), some (.ref d), some (.int (nI i))] [] (I', J', P, N, n, z) Q := by
    intro r
    induction r with
    | zero =>
      intro i I' J' w' hi hf hw hT'
      obtain rfl : i = v := by omega
      have q := hQ1 (fun q y => (hT'.2.2 q y).1.2.2) I' J' w' hf hw hT'
      obtain ⟨p1, p2, p3, i1, n1, n2, n3, r1, r2, r3, r4, hw65⟩ := hC
      rw [← hf.1 d x1.1 x1.2] at i1
      rw [zo25_1]
      simp (decide := true) (disch := omega) only [r1, i1, zi25, zt25, zo25_0, zo25_2, zo25_3, zy_ldI, zy_ldL, zy_ldA, zy_stI, zy_stL, zy_stA, zy_cI, zy_cL, zy_nul, zy_inc, zy_bI, zy_bL, zy_sL, zy_un, zy_cmp, zy_dup, zy_dup2, zy_pop, zy_pop2, zy_jn, zy_jnn, zy_go, zy_fal, zy_tsw, zy_lsw, zy_get, zy_put, zy_ald, zy_ast, zy_len, zy_newa, zy_new, zy_cal, zy_ret, zy_tak, zy_cst, zy_acp, zy_oini, zy_cln, zy_thr, zy_bad, zy_lco, zy_if0, zy_ic0, zy_if1, zy_ic1, zy_if2, zy_ic2, zy_if3, zy_ic3, zy_if4, zy_ic4, zy_if5, zy_ic5, zK_go, zK_to, zK_end, zK_callH, zK_iteC, zK_none, zsLd, zsSt, zsInc, zsBI, zsBL, zsSL, zsUn, zsCmp, zsDup, zsDup2, zsPop, zsPop2, zsJn, zsTsw, zsLsw, zsGet, zsPut, zsAld, zsAst, zsLen, zsNewa, zsCal, zsRet, zsCst, zsAcp, zsOini, zsCln, zsLco, zsThr, zxBI, zxBL, zxSL, zxU, zset1, zset2, zclr, zcat, zmake_mk, zcomp, zH_i, zH_l, zH_r, zH_u, zH_n, List.set_cons_zero, List.set_cons_succ, List.getElem?_cons_zero, List.getElem?_cons_succ, List.length_cons, List.length_nil, List.take_succ_cons, List.take_zero, List.drop_succ_cons, List.drop_zero, List.reverse_cons, List.reverse_nil, List.nil_append, List.cons_append, List.map_cons, List.map_nil, List.sum_cons, List.sum_nil, Option.toList_some, Option.toList_none, Value.category, Nat.reduceAdd, Nat.reduceMul, Nat.reduceMod, Nat.reduceDiv, Nat.reduceSub, Nat.reduceLT, Nat.reduceLeDiff, Nat.reduceEqDiff, Nat.zero_le, Nat.le_refl, Int32.reduceToNatClampNeg, Int32.reduceLT, Int32.reduceLE, Int32.reduceAdd, Int32.reduceSub, Int32.reduceMul, ↓reduceIte, reduceCtorEq, Nat.add_zero, Nat.zero_add, true_or, or_true, false_or, or_false, true_and, and_true, false_and, and_false, not_true_eq_false, not_false_eq_true, if_true, if_false, true_implies, false_implies, implies_true, forall_const, false_imp_iff, true_imp_iff, va_rf, zlay, zent, List.replicate_zero, List.append_nil, List.replicate_succ, List.length_append, ne_eq, Option.some.injEq, Value.int.injEq, Value.long.injEq, Int32.reduceOfNat, Int32.reduceToInt, Int.reduceLT, Int.reduceLE, Int.reduceSub, Int.reduceToNat, Int.reduceAdd, Int.reduceNeg, Int32.reduceDiv, Int64.reduceAdd, Int64.reduceSub, lg_cmp_ge, lg_cmp_le, lg_cmp_gt, lg_cmp_lt, lg_cmp_eq, wlt_t, wlt_f, wle_t, wle_f, wmod, wI_lt, wI_le, wI_eq, wI_neg, wI_pos, wI_cl, wI_ge, wI_po, w64_lt, w64_le, w64_eq, w64_lt0, w64_le0, w64_eq0, w64_32, zc317, zc319, wI_add, wI_a1, wI_s1, wI_e0, wI_m8, wI_m128, wI_m64, wI_m190, not_true_eq_false, not_false_eq_true]
      exact q
    | succ r ih =>
      intro i I' J' w' hi hf hw hT'
      obtain ⟨p1, p2, p3, i1, n1, n2, n3, r1, r2, r3, r4, hw65⟩ := hC
      rw [← hf.1 d x1.1 x1.2] at i1
      obtain ⟨c1, c2, c3⟩ := hr i (by omega)
      rw [← hf.1 sp x2.1 x2.2] at c1
      rw [← hf.2.2 sn x3.1 x3.2] at c2
      rw [← hf.2.2 sa x4.1 x4.2] at c3
      obtain ⟨a1, a2⟩ := ha i (by omega)
      rw [zo25_1]
      have rc : c % 32 = 1 := hT.1.2.2.2.2.2.2.2.1
      simp (decide := true) (disch := omega) only [r1, r2, r3, r4, i1, p1, p2, p3, c1, c2, c3, rc, zi25, zt25, zo25_0, zo25_2, zo25_3, zy_ldI, zy_ldL, zy_ldA, zy_stI, zy_stL, zy_stA, zy_cI, zy_cL, zy_nul, zy_inc, zy_bI, zy_bL, zy_sL, zy_un, zy_cmp, zy_dup, zy_dup2, zy_pop, zy_pop2, zy_jn, zy_jnn, zy_go, zy_fal, zy_tsw, zy_lsw, zy_get, zy_put, zy_ald, zy_ast, zy_len, zy_newa, zy_new, zy_cal, zy_ret, zy_tak, zy_cst, zy_acp, zy_oini, zy_cln, zy_thr, zy_bad, zy_lco, zy_if0, zy_ic0, zy_if1, zy_ic1, zy_if2, zy_ic2, zy_if3, zy_ic3, zy_if4, zy_ic4, zy_if5, zy_ic5, zK_go, zK_to, zK_end, zK_callH, zK_iteC, zK_none, zsLd, zsSt, zsInc, zsBI, zsBL, zsSL, zsUn, zsCmp, zsDup, zsDup2, zsPop, zsPop2, zsJn, zsTsw, zsLsw, zsGet, zsPut, zsAld, zsAst, zsLen, zsNewa, zsCal, zsRet, zsCst, zsAcp, zsOini, zsCln, zsLco, zsThr, zxBI, zxBL, zxSL, zxU, zset1, zset2, zclr, zcat, zmake_mk, zcomp, zH_i, zH_l, zH_r, zH_u, zH_n, List.set_cons_zero, List.set_cons_succ, List.getElem?_cons_zero, List.getElem?_cons_succ, List.length_cons, List.length_nil, List.take_succ_cons, List.take_zero, List.drop_succ_cons, List.drop_zero, List.reverse_cons, List.reverse_nil, List.nil_append, List.cons_append, List.map_cons, List.map_nil, List.sum_cons, List.sum_nil, Option.toList_some, Option.toList_none, Value.category, Nat.reduceAdd, Nat.reduceMul, Nat.reduceMod, Nat.reduceDiv, Nat.reduceSub, Nat.reduceLT, Nat.reduceLeDiff, Nat.reduceEqDiff, Nat.zero_le, Nat.le_refl, Int32.reduceToNatClampNeg, Int32.reduceLT, Int32.reduceLE, Int32.reduceAdd, Int32.reduceSub, Int32.reduceMul, ↓reduceIte, reduceCtorEq, Nat.add_zero, Nat.zero_add, true_or, or_true, false_or, or_false, true_and, and_true, false_and, and_false, not_true_eq_false, not_false_eq_true, if_true, if_false, true_implies, false_implies, implies_true, forall_const, false_imp_iff, true_imp_iff, va_rf, zlay, zent, List.replicate_zero, List.append_nil, List.replicate_succ, List.length_append, ne_eq, Option.some.injEq, Value.int.injEq, Value.long.injEq, Int32.reduceOfNat, Int32.reduceToInt, Int.reduceLT, Int.reduceLE, Int.reduceSub, Int.reduceToNat, Int.reduceAdd, Int.reduceNeg, Int32.reduceDiv, Int64.reduceAdd, Int64.reduceSub, lg_cmp_ge, lg_cmp_le, lg_cmp_gt, lg_cmp_lt, lg_cmp_eq, wlt_t, wlt_f, wle_t, wle_f, wmod, wI_lt, wI_le, wI_eq, wI_neg, wI_pos, wI_cl, wI_ge, wI_po, w64_lt, w64_le, w64_eq, w64_lt0, w64_le0, w64_eq0, w64_32, zc317, zc319, wI_add, wI_a1, wI_s1, wI_e0, wI_m8, wI_m128, wI_m64, wI_m190, not_true_eq_false, not_false_eq_true]
      refine e24 hT' (by omega) (by omega) (by omega) ⟨by omega, hb.2⟩ hd hd2 a1 a2 (fun h => ?_) (fun h I2 J2 w2 hf2 hw2' hT2 => ?_)
      · have q := hQ0 (fun h' => by
          have h1 := h' (cp i) (cx i)
          have h2 := mono (i + 1) (by omega) (cp i) (cx i)
          rw [← zVr_s] at h2
          unfold zUpV at h2
          rw [if_pos ⟨rfl, rfl⟩] at h2
          omega) I' J' hf
        simp (decide := true) (disch := omega) only [zi25, zt25, zo25_0, zo25_2, zo25_3, zy_ldI, zy_ldL, zy_ldA, zy_stI, zy_stL, zy_stA, zy_cI, zy_cL, zy_nul, zy_inc, zy_bI, zy_bL, zy_sL, zy_un, zy_cmp, zy_dup, zy_dup2, zy_pop, zy_pop2, zy_jn, zy_jnn, zy_go, zy_fal, zy_tsw, zy_lsw, zy_get, zy_put, zy_ald, zy_ast, zy_len, zy_newa, zy_new, zy_cal, zy_ret, zy_tak, zy_cst, zy_acp, zy_oini, zy_cln, zy_thr, zy_bad, zy_lco, zy_if0, zy_ic0, zy_if1, zy_ic1, zy_if2, zy_ic2, zy_if3, zy_ic3, zy_if4, zy_ic4, zy_if5, zy_ic5, zK_go, zK_to, zK_end, zK_callH, zK_iteC, zK_none, zsLd, zsSt, zsInc, zsBI, zsBL, zsSL, zsUn, zsCmp, zsDup, zsDup2, zsPop, zsPop2, zsJn, zsTsw, zsLsw, zsGet, zsPut, zsAld, zsAst, zsLen, zsNewa, zsCal, zsRet, zsCst, zsAcp, zsOini, zsCln, zsLco, zsThr, zxBI, zxBL, zxSL, zxU, zset1, zset2, zclr, zcat, zmake_mk, zcomp, zH_i, zH_l, zH_r, zH_u, zH_n, List.set_cons_zero, List.set_cons_succ, List.getElem?_cons_zero, List.getElem?_cons_succ, List.length_cons, List.length_nil, List.take_succ_cons, List.take_zero, List.drop_succ_cons, List.drop_zero, List.reverse_cons, List.reverse_nil, List.nil_append, List.cons_append, List.map_cons, List.map_nil, List.sum_cons, List.sum_nil, Option.toList_some, Option.toList_none, Value.category, Nat.reduceAdd, Nat.reduceMul, Nat.reduceMod, Nat.reduceDiv, Nat.reduceSub, Nat.reduceLT, Nat.reduceLeDiff, Nat.reduceEqDiff, Nat.zero_le, Nat.le_refl, Int32.reduceToNatClampNeg, Int32.reduceLT, Int32.reduceLE, Int32.reduceAdd, Int32.reduceSub, Int32.reduceMul, ↓reduceIte, reduceCtorEq, Nat.add_zero, Nat.zero_add, true_or, or_true, false_or, or_false, true_and, and_true, false_and, and_false, not_true_eq_false, not_false_eq_true, if_true, if_false, true_implies, false_implies, implies_true, forall_const, false_imp_iff, true_imp_iff, va_rf, zlay, zent, List.replicate_zero, List.append_nil, List.replicate_succ, List.length_append, ne_eq, Option.some.injEq, Value.int.injEq, Value.long.injEq, Int32.reduceOfNat, Int32.reduceToInt, Int.reduceLT, Int.reduceLE, Int.reduceSub, Int.reduceToNat, Int.reduceAdd, Int.reduceNeg, Int32.reduceDiv, Int64.reduceAdd, Int64.reduceSub, lg_cmp_ge, lg_cmp_le, lg_cmp_gt, lg_cmp_lt, lg_cmp_eq, wlt_t, wlt_f, wle_t, wle_f, wmod, wI_lt, wI_le, wI_eq, wI_neg, wI_pos, wI_cl, wI_ge, wI_po, w64_lt, w64_le, w64_eq, w64_lt0, w64_le0, w64_eq0, w64_32, zc317, zc319, wI_add, wI_a1, wI_s1, wI_e0, wI_m8, wI_m128, wI_m64, wI_m190, not_true_eq_false, not_false_eq_true]
        exact q
      · rw [zVr_s] at hT2
        have q := ih (i + 1) I2 J2 w2 (by omega) (zCxf_tr hf hf2) (by omega) hT2
        have e10 : ¬ (1 : Int32) = 0 := by decide
        simp (decide := true) (disch := omega) only [e10, zi25, zt25, zo25_0, zo25_2, zo25_3, zy_ldI, zy_ldL, zy_ldA, zy_stI, zy_stL, zy_stA, zy_cI, zy_cL, zy_nul, zy_inc, zy_bI, zy_bL, zy_sL, zy_un, zy_cmp, zy_dup, zy_dup2, zy_pop, zy_pop2, zy_jn, zy_jnn, zy_go, zy_fal, zy_tsw, zy_lsw, zy_get, zy_put, zy_ald, zy_ast, zy_len, zy_newa, zy_new, zy_cal, zy_ret, zy_tak, zy_cst, zy_acp, zy_oini, zy_cln, zy_thr, zy_bad, zy_lco, zy_if0, zy_ic0, zy_if1, zy_ic1, zy_if2, zy_ic2, zy_if3, zy_ic3, zy_if4, zy_ic4, zy_if5, zy_ic5, zK_go, zK_to, zK_end, zK_callH, zK_iteC, zK_none, zsLd, zsSt, zsInc, zsBI, zsBL, zsSL, zsUn, zsCmp, zsDup, zsDup2, zsPop, zsPop2, zsJn, zsTsw, zsLsw, zsGet, zsPut, zsAld, zsAst, zsLen, zsNewa, zsCal, zsRet, zsCst, zsAcp, zsOini, zsCln, zsLco, zsThr, zxBI, zxBL, zxSL, zxU, zset1, zset2, zclr, zcat, zmake_mk, zcomp, zH_i, zH_l, zH_r, zH_u, zH_n, List.set_cons_zero, List.set_cons_succ, List.getElem?_cons_zero, List.getElem?_cons_succ, List.length_cons, List.length_nil, List.take_succ_cons, List.take_zero, List.drop_succ_cons, List.drop_zero, List.reverse_cons, List.reverse_nil, List.nil_append, List.cons_append, List.map_cons, List.map_nil, List.sum_cons, List.sum_nil, Option.toList_some, Option.toList_none, Value.category, Nat.reduceAdd, Nat.reduceMul, Nat.reduceMod, Nat.reduceDiv, Nat.reduceSub, Nat.reduceLT, Nat.reduceLeDiff, Nat.reduceEqDiff, Nat.zero_le, Nat.le_refl, Int32.reduceToNatClampNeg, Int32.reduceLT, Int32.reduceLE, Int32.reduceAdd, Int32.reduceSub, Int32.reduceMul, ↓reduceIte, reduceCtorEq, Nat.add_zero, Nat.zero_add, true_or, or_true, false_or, or_false, true_and, and_true, false_and, and_false, not_true_eq_false, not_false_eq_true, if_true, if_false, true_implies, false_implies, implies_true, forall_const, false_imp_iff, true_imp_iff, va_rf, zlay, zent, List.replicate_zero, List.append_nil, List.replicate_succ, List.length_append, ne_eq, Option.some.injEq, Value.int.injEq, Value.long.injEq, Int32.reduceOfNat, Int32.reduceToInt, Int.reduceLT, Int.reduceLE, Int.reduceSub, Int.reduceToNat, Int.reduceAdd, Int.reduceNeg, Int32.reduceDiv, Int64.reduceAdd, Int64.reduceSub, lg_cmp_ge, lg_cmp_le, lg_cmp_gt, lg_cmp_lt, lg_cmp_eq, wlt_t, wlt_f, wle_t, wle_f, wmod, wI_lt, wI_le, wI_eq, wI_neg, wI_pos, wI_cl, wI_ge, wI_po, w64_lt, w64_le, w64_eq, w64_lt0, w64_le0, w64_eq0, w64_32, zc317, zc319, wI_add, wI_a1, wI_s1, wI_e0, wI_m8, wI_m128, wI_m64, wI_m190, not_true_eq_false, not_false_eq_true]
        exact q
  have e0 : nI 0 = 0 := rfl
  have ev : zVr V cp cx ca 0 = V := by
    funext q y
    show V q y + 0 = V q y
    omega
  have q := li v 0 I J w (by omega) ⟨fun _ _ _ => rfl, fun _ _ => rfl, fun _ _ _ => rfl⟩ (by omega) (by rw [ev]; exact hT)
  rw [e0] at q
  simp (decide := true) (disch := omega) only [zi25, zt25, zo25_0, zo25_2, zo25_3, zy_ldI, zy_ldL, zy_ldA, zy_stI, zy_stL, zy_stA, zy_cI, zy_cL, zy_nul, zy_inc, zy_bI, zy_bL, zy_sL, zy_un, zy_cmp, zy_dup, zy_dup2, zy_pop, zy_pop2, zy_jn, zy_jnn, zy_go, zy_fal, zy_tsw, zy_lsw, zy_get, zy_put, zy_ald, zy_ast, zy_len, zy_newa, zy_new, zy_cal, zy_ret, zy_tak, zy_cst, zy_acp, zy_oini, zy_cln, zy_thr, zy_bad, zy_lco, zy_if0, zy_ic0, zy_if1, zy_ic1, zy_if2, zy_ic2, zy_if3, zy_ic3, zy_if4, zy_ic4, zy_if5, zy_ic5, zK_go, zK_to, zK_end, zK_callH, zK_iteC, zK_none, zsLd, zsSt, zsInc, zsBI, zsBL, zsSL, zsUn, zsCmp, zsDup, zsDup2, zsPop, zsPop2, zsJn, zsTsw, zsLsw, zsGet, zsPut, zsAld, zsAst, zsLen, zsNewa, zsCal, zsRet, zsCst, zsAcp, zsOini, zsCln, zsLco, zsThr, zxBI, zxBL, zxSL, zxU, zset1, zset2, zclr, zcat, zmake_mk, zcomp, zH_i, zH_l, zH_r, zH_u, zH_n, List.set_cons_zero, List.set_cons_succ, List.getElem?_cons_zero, List.getElem?_cons_succ, List.length_cons, List.length_nil, List.take_succ_cons, List.take_zero, List.drop_succ_cons, List.drop_zero, List.reverse_cons, List.reverse_nil, List.nil_append, List.cons_append, List.map_cons, List.map_nil, List.sum_cons, List.sum_nil, Option.toList_some, Option.toList_none, Value.category, Nat.reduceAdd, Nat.reduceMul, Nat.reduceMod, Nat.reduceDiv, Nat.reduceSub, Nat.reduceLT, Nat.reduceLeDiff, Nat.reduceEqDiff, Nat.zero_le, Nat.le_refl, Int32.reduceToNatClampNeg, Int32.reduceLT, Int32.reduceLE, Int32.reduceAdd, Int32.reduceSub, Int32.reduceMul, ↓reduceIte, reduceCtorEq, Nat.add_zero, Nat.zero_add, true_or, or_true, false_or, or_false, true_and, and_true, false_and, and_false, not_true_eq_false, not_false_eq_true, if_true, if_false, true_implies, false_implies, implies_true, forall_const, false_imp_iff, true_imp_iff, va_rf, zlay, zent, List.replicate_zero, List.append_nil, List.replicate_succ, List.length_append, ne_eq, Option.some.injEq, Value.int.injEq, Value.long.injEq, Int32.reduceOfNat, Int32.reduceToInt, Int.reduceLT, Int.reduceLE, Int.reduceSub, Int.reduceToNat, Int.reduceAdd, Int.reduceNeg, Int32.reduceDiv, Int64.reduceAdd, Int64.reduceSub, lg_cmp_ge, lg_cmp_le, lg_cmp_gt, lg_cmp_lt, lg_cmp_eq, wlt_t, wlt_f, wle_t, wle_f, wmod, wI_lt, wI_le, wI_eq, wI_neg, wI_pos, wI_cl, wI_ge, wI_po, w64_lt, w64_le, w64_eq, w64_lt0, w64_le0, w64_eq0, w64_32, zc317, zc319, wI_add, wI_a1, wI_s1, wI_e0, wI_m8, wI_m128, wI_m64, wI_m190, not_true_eq_false, not_false_eq_true]
  exact q
set_option maxRecDepth 20000 in
set_option maxHeartbeats 4000000 in
theorem m55 {ws wp : Nat} (hS : zStat P N) (hC : zCo I P N c rp rn ra w) (hM : zCo I P N d sp sn sa v) (hs : zCo I P N 2273 2320 2353 2385 ws) (hp : zCo I P N 2401 2448 2481 2513 wp) (Q : Option Value → zS → Prop) : zC 55 [.ref 2115, .ref c, .ref d] (I, J, P, N, n, z) Q = Q (some (.int (zyn (∀ i, i < w → zAm (I 2320) (J 2353) (J 2385) ws (I rp i) (J rn i) + zAm (I sp) (J sn) (J sa) v (I rp i) (J rn i) = zAm (I 2448) (J 2481) (J 2513) wp (I rp i) (J rn i))))) (I, J, P, N, n, z) := by
  refine zC_eq (fun Q hQ => ?_) Q
  have k1 := fun (p : Int32) (x : Int64) => m23 (J := J) (n := n) (z := z) (p := p) (x := x) hM
  have k2 := fun (p : Int32) (x : Int64) => m23 (J := J) (n := n) (z := z) (p := p) (x := x) hs
  have k3 := fun (p : Int32) (x : Int64) => m23 (J := J) (n := n) (z := z) (p := p) (x := x) hp
  have rd : d % 32 = 1 := hM.2.2.2.2.2.2.2.1
  obtain ⟨p1, p2, p3, i1, n1, n2, n3, r1, r2, r3, r4, hw65⟩ := hC
  have li : ∀ r i u4 u5 u6, i + r = w → (∀ k, k < i → zAm (I 2320) (J 2353) (J 2385) ws (I rp k) (J rn k) + zAm (I sp) (J sn) (J sa) v (I rp k) (J rn k) = zAm (I 2448) (J 2481) (J 2513) wp (I rp k) (J rn k)) → zQ zt55 zo55_1 [some (.ref 2115), some (.ref c), some (.ref d), some (.int (nI i)), u4, u5, u6] [] (I, J, P, N, n, z) Q := by
    intro r
    induction r with
    | zero =>
      intro i u4 u5 u6 hi hk
      obtain rfl : i = w := by omega
      rw [zyn_t hk] at hQ
      rw [zo55_1]
      simp (decide := true) (disch := omega) only [r1, i1, zi55, zt55, zo55_0, zo55_2, zo55_3, zy_ldI, zy_ldL, zy_ldA, zy_stI, zy_stL, zy_stA, zy_cI, zy_cL, zy_nul, zy_inc, zy_bI, zy_bL, zy_sL, zy_un, zy_cmp, zy_dup, zy_dup2, zy_pop, zy_pop2, zy_jn, zy_jnn, zy_go, zy_fal, zy_tsw, zy_lsw, zy_get, zy_put, zy_ald, zy_ast, zy_len, zy_newa, zy_new, zy_cal, zy_ret, zy_tak, zy_cst, zy_acp, zy_oini, zy_cln, zy_thr, zy_bad, zy_lco, zy_if0, zy_ic0, zy_if1, zy_ic1, zy_if2, zy_ic2, zy_if3, zy_ic3, zy_if4, zy_ic4, zy_if5, zy_ic5, zK_go, zK_to, zK_end, zK_callH, zK_iteC, zK_none, zsLd, zsSt, zsInc, zsBI, zsBL, zsSL, zsUn, zsCmp, zsDup, zsDup2, zsPop, zsPop2, zsJn, zsTsw, zsLsw, zsGet, zsPut, zsAld, zsAst, zsLen, zsNewa, zsCal, zsRet, zsCst, zsAcp, zsOini, zsCln, zsLco, zsThr, zxBI, zxBL, zxSL, zxU, zset1, zset2, zclr, zcat, zmake_mk, zcomp, zH_i, zH_l, zH_r, zH_u, zH_n, List.set_cons_zero, List.set_cons_succ, List.getElem?_cons_zero, List.getElem?_cons_succ, List.length_cons, List.length_nil, List.take_succ_cons, List.take_zero, List.drop_succ_cons, List.drop_zero, List.reverse_cons, List.reverse_nil, List.nil_append, List.cons_append, List.map_cons, List.map_nil, List.sum_cons, List.sum_nil, Option.toList_some, Option.toList_none, Value.category, Nat.reduceAdd, Nat.reduceMul, Nat.reduceMod, Nat.reduceDiv, Nat.reduceSub, Nat.reduceLT, Nat.reduceLeDiff, Nat.reduceEqDiff, Nat.zero_le, Nat.le_refl, Int32.reduceToNatClampNeg, Int32.reduceLT, Int32.reduceLE, Int32.reduceAdd, Int32.reduceSub, Int32.reduceMul, ↓reduceIte, reduceCtorEq, Nat.add_zero, Nat.zero_add, true_or, or_true, false_or, or_false, true_and, and_true, false_and, and_false, not_true_eq_false, not_false_eq_true, if_true, if_false, true_implies, false_implies, implies_true, forall_const, false_imp_iff, true_imp_iff, va_rf, zlay, zent, List.replicate_zero, List.append_nil, List.replicate_succ, List.length_append, ne_eq, Option.some.injEq, Value.int.injEq, Value.long.injEq, Int32.reduceOfNat, Int32.reduceToInt, Int.reduceLT, Int.reduceLE, Int.reduceSub, Int.reduceToNat, Int.reduceAdd, Int.reduceNeg, Int32.reduceDiv, Int64.reduceAdd, Int64.reduceSub, lg_cmp_ge, lg_cmp_le, lg_cmp_gt, lg_cmp_lt, lg_cmp_eq, wlt_t, wlt_f, wle_t, wle_f, wmod, wI_lt, wI_le, wI_eq, wI_neg, wI_pos, wI_cl, wI_ge, wI_po, w64_lt, w64_le, w64_eq, w64_lt0, w64_le0, w64_eq0, w64_32, zc317, zc319, wI_add, wI_a1, wI_s1, wI_e0, wI_m8, wI_m128, wI_m64, wI_m190, not_true_eq_false, not_false_eq_true, sP_897_0 hS, sP_897_1 hS, sP_1089_0 hS, sP_1089_1 hS, sP_1217_0 hS, sP_1217_1 hS, sP_1345_0 hS, sP_1345_1 hS, sP_1473_0 hS, sP_1473_1 hS, sP_1601_0 hS, sP_1601_1 hS, sP_1729_0 hS, sP_1729_1 hS, sP_1857_0 hS, sP_1857_1 hS, sP_1985_0 hS, sP_1985_1 hS, sP_2115_12 hS, sP_2115_13 hS, sP_2273_0 hS, sP_2273_1 hS, sP_2401_0 hS, sP_2401_1 hS, sN_944 hS, sN_977 hS, sN_1136 hS, sN_1169 hS, sN_1264 hS, sN_1297 hS, sN_1392 hS, sN_1425 hS, sN_1520 hS, sN_1553 hS, sN_1648 hS, sN_1681 hS, sN_1776 hS, sN_1809 hS, sN_1904 hS, sN_1937 hS, sN_2032 hS, sN_2065 hS, sN_2320 hS, sN_2353 hS, sN_2448 hS, sN_2481 hS, sN_6417 hS]
      exact hQ
    | succ r ih =>
      intro i u4 u5 u6 hi hk
      by_cases he : zAm (I 2320) (J 2353) (J 2385) ws (I rp i) (J rn i) + zAm (I sp) (J sn) (J sa) v (I rp i) (J rn i) = zAm (I 2448) (J 2481) (J 2513) wp (I rp i) (J rn i)
      · have q := ih (i + 1) (some (.int (I rp i))) (some (.long (J rn i))) none (by omega) (fun k hk' => by
          by_cases hki : k = i
          · rw [hki]; exact he
          · exact hk k (by omega))
        have t := eq_true he
        rw [zo55_1]
        simp (decide := true) (disch := omega) only [r1, r2, r3, i1, p1, p2, k1, k2, k3, t, rd, zi55, zt55, zo55_0, zo55_2, zo55_3, zy_ldI, zy_ldL, zy_ldA, zy_stI, zy_stL, zy_stA, zy_cI, zy_cL, zy_nul, zy_inc, zy_bI, zy_bL, zy_sL, zy_un, zy_cmp, zy_dup, zy_dup2, zy_pop, zy_pop2, zy_jn, zy_jnn, zy_go, zy_fal, zy_tsw, zy_lsw, zy_get, zy_put, zy_ald, zy_ast, zy_len, zy_newa, zy_new, zy_cal, zy_ret, zy_tak, zy_cst, zy_acp, zy_oini, zy_cln, zy_thr, zy_bad, zy_lco, zy_if0, zy_ic0, zy_if1, zy_ic1, zy_if2, zy_ic2, zy_if3, zy_ic3, zy_if4, zy_ic4, zy_if5, zy_ic5, zK_go, zK_to, zK_end, zK_callH, zK_iteC, zK_none, zsLd, zsSt, zsInc, zsBI, zsBL, zsSL, zsUn, zsCmp, zsDup, zsDup2, zsPop, zsPop2, zsJn, zsTsw, zsLsw, zsGet, zsPut, zsAld, zsAst, zsLen, zsNewa, zsCal, zsRet, zsCst, zsAcp, zsOini, zsCln, zsLco, zsThr, zxBI, zxBL, zxSL, zxU, zset1, zset2, zclr, zcat, zmake_mk, zcomp, zH_i, zH_l, zH_r, zH_u, zH_n, List.set_cons_zero, List.set_cons_succ, List.getElem?_cons_zero, List.getElem?_cons_succ, List.length_cons, List.length_nil, List.take_succ_cons, List.take_zero, List.drop_succ_cons, List.drop_zero, List.reverse_cons, List.reverse_nil, List.nil_append, List.cons_append, List.map_cons, List.map_nil, List.sum_cons, List.sum_nil, Option.toList_some, Option.toList_none, Value.category, Nat.reduceAdd, Nat.reduceMul, Nat.reduceMod, Nat.reduceDiv, Nat.reduceSub, Nat.reduceLT, Nat.reduceLeDiff, Nat.reduceEqDiff, Nat.zero_le, Nat.le_refl, Int32.reduceToNatClampNeg, Int32.reduceLT, Int32.reduceLE, Int32.reduceAdd, Int32.reduceSub, Int32.reduceMul, ↓reduceIte, reduceCtorEq, Nat.add_zero, Nat.zero_add, true_or, or_true, false_or, or_false, true_and, and_true, false_and, and_false, not_true_eq_false, not_false_eq_true, if_true, if_false, true_implies, false_implies, implies_true, forall_const, false_imp_iff, true_imp_iff, va_rf, zlay, zent, List.replicate_zero, List.append_nil, List.replicate_succ, List.length_append, ne_eq, Option.some.injEq, Value.int.injEq, Value.long.injEq, Int32.reduceOfNat, Int32.reduceToInt, Int.reduceLT, Int.reduceLE, Int.reduceSub, Int.reduceToNat, Int.reduceAdd, Int.reduceNeg, Int32.reduceDiv, Int64.reduceAdd, Int64.reduceSub, lg_cmp_ge, lg_cmp_le, lg_cmp_gt, lg_cmp_lt, lg_cmp_eq, wlt_t, wlt_f, wle_t, wle_f, wmod, wI_lt, wI_le, wI_eq, wI_neg, wI_pos, wI_cl, wI_ge, wI_po, w64_lt, w64_le, w64_eq, w64_lt0, w64_le0, w64_eq0, w64_32, zc317, zc319, wI_add, wI_a1, wI_s1, wI_e0, wI_m8, wI_m128, wI_m64, wI_m190, not_true_eq_false, not_false_eq_true, sP_897_0 hS, sP_897_1 hS, sP_1089_0 hS, sP_1089_1 hS, sP_1217_0 hS, sP_1217_1 hS, sP_1345_0 hS, sP_1345_1 hS, sP_1473_0 hS, sP_1473_1 hS, sP_1601_0 hS, sP_1601_1 hS, sP_1729_0 hS, sP_1729_1 hS, sP_1857_0 hS, sP_1857_1 hS, sP_1985_0 hS, sP_1985_1 hS, sP_2115_12 hS, sP_2115_13 hS, sP_2273_0 hS, sP_2273_1 hS, sP_2401_0 hS, sP_2401_1 hS, sN_944 hS, sN_977 hS, sN_1136 hS, sN_1169 hS, sN_1264 hS, sN_1297 hS, sN_1392 hS, sN_1425 hS, sN_1520 hS, sN_1553 hS, sN_1648 hS, sN_1681 hS, sN_1776 hS, sN_1809 hS, sN_1904 hS, sN_1937 hS, sN_2032 hS, sN_2065 hS, sN_2320 hS, sN_2353 hS, sN_2448 hS, sN_2481 hS, sN_6417 hS]
        cases u5 with
        | none => exact q
        | some u5 => cases u5 <;> exact q
      · rw [zyn_f (fun x => he (x i (by omega)))] at hQ
        rw [zo55_1]
        simp (decide := true) (disch := omega) only [r1, r2, r3, i1, p1, p2, k1, k2, k3, he, rd, zi55, zt55, zo55_0, zo55_2, zo55_3, zy_ldI, zy_ldL, zy_ldA, zy_stI, zy_stL, zy_stA, zy_cI, zy_cL, zy_nul, zy_inc, zy_bI, zy_bL, zy_sL, zy_un, zy_cmp, zy_dup, zy_dup2, zy_pop, zy_pop2, zy_jn, zy_jnn, zy_go, zy_fal, zy_tsw, zy_lsw, zy_get, zy_put, zy_ald, zy_ast, zy_len, zy_newa, zy_new, zy_cal, zy_ret, zy_tak, zy_cst, zy_acp, zy_oini, zy_cln, zy_thr, zy_bad, zy_lco, zy_if0, zy_ic0, zy_if1, zy_ic1, zy_if2, zy_ic2, zy_if3, zy_ic3, zy_if4, zy_ic4, zy_if5, zy_ic5, zK_go, zK_to, zK_end, zK_callH, zK_iteC, zK_none, zsLd, zsSt, zsInc, zsBI, zsBL, zsSL, zsUn, zsCmp, zsDup, zsDup2, zsPop, zsPop2, zsJn, zsTsw, zsLsw, zsGet, zsPut, zsAld, zsAst, zsLen, zsNewa, zsCal, zsRet, zsCst, zsAcp, zsOini, zsCln, zsLco, zsThr, zxBI, zxBL, zxSL, zxU, zset1, zset2, zclr, zcat, zmake_mk, zcomp, zH_i, zH_l, zH_r, zH_u, zH_n, List.set_cons_zero, List.set_cons_succ, List.getElem?_cons_zero, List.getElem?_cons_succ, List.length_cons, List.length_nil, List.take_succ_cons, List.take_zero, List.drop_succ_cons, List.drop_zero, List.reverse_cons, List.reverse_nil, List.nil_append, List.cons_append, List.map_cons, List.map_nil, List.sum_cons, List.sum_nil, Option.toList_some, Option.toList_none, Value.category, Nat.reduceAdd, Nat.reduceMul, Nat.reduceMod, Nat.reduceDiv, Nat.reduceSub, Nat.reduceLT, Nat.reduceLeDiff, Nat.reduceEqDiff, Nat.zero_le, Nat.le_refl, Int32.reduceToNatClampNeg, Int32.reduceLT, Int32.reduceLE, Int32.reduceAdd, Int32.reduceSub, Int32.reduceMul, ↓reduceIte, reduceCtorEq, Nat.add_zero, Nat.zero_add, true_or, or_true, false_or, or_false, true_and, and_true, false_and, and_false, not_true_eq_false, not_false_eq_true, if_true, if_false, true_implies, false_implies, implies_true, forall_const, false_imp_iff, true_imp_iff, va_rf, zlay, zent, List.replicate_zero, List.append_nil, List.replicate_succ, List.length_append, ne_eq, Option.some.injEq, Value.int.injEq, Value.long.injEq, Int32.reduceOfNat, Int32.reduceToInt, Int.reduceLT, Int.reduceLE, Int.reduceSub, Int.reduceToNat, Int.reduceAdd, Int.reduceNeg, Int32.reduceDiv, Int64.reduceAdd, Int64.reduceSub, lg_cmp_ge, lg_cmp_le, lg_cmp_gt, lg_cmp_lt, lg_cmp_eq, wlt_t, wlt_f, wle_t, wle_f, wmod, wI_lt, wI_le, wI_eq, wI_neg, wI_pos, wI_cl, wI_ge, wI_po, w64_lt, w64_le, w64_eq, w64_lt0, w64_le0, w64_eq0, w64_32, zc317, zc319, wI_add, wI_a1, wI_s1, wI_e0, wI_m8, wI_m128, wI_m64, wI_m190, not_true_eq_false, not_false_eq_true, sP_897_0 hS, sP_897_1 hS, sP_1089_0 hS, sP_1089_1 hS, sP_1217_0 hS, sP_1217_1 hS, sP_1345_0 hS, sP_1345_1 hS, sP_1473_0 hS, sP_1473_1 hS, sP_1601_0 hS, sP_1601_1 hS, sP_1729_0 hS, sP_1729_1 hS, sP_1857_0 hS, sP_1857_1 hS, sP_1985_0 hS, sP_1985_1 hS, sP_2115_12 hS, sP_2115_13 hS, sP_2273_0 hS, sP_2273_1 hS, sP_2401_0 hS, sP_2401_1 hS, sN_944 hS, sN_977 hS, sN_1136 hS, sN_1169 hS, sN_1264 hS, sN_1297 hS, sN_1392 hS, sN_1425 hS, sN_1520 hS, sN_1553 hS, sN_1648 hS, sN_1681 hS, sN_1776 hS, sN_1809 hS, sN_1904 hS, sN_1937 hS, sN_2032 hS, sN_2065 hS, sN_2320 hS, sN_2353 hS, sN_2448 hS, sN_2481 hS, sN_6417 hS]
        exact hQ
  have q := li w 0 none none none (by omega) (fun k hk => absurd hk (Nat.not_lt_zero _))
  have e0 : nI 0 = 0 := rfl
  rw [e0] at q
  simp (decide := true) (disch := omega) only [zi55, zt55, zo55_0, zo55_2, zo55_3, zy_ldI, zy_ldL, zy_ldA, zy_stI, zy_stL, zy_stA, zy_cI, zy_cL, zy_nul, zy_inc, zy_bI, zy_bL, zy_sL, zy_un, zy_cmp, zy_dup, zy_dup2, zy_pop, zy_pop2, zy_jn, zy_jnn, zy_go, zy_fal, zy_tsw, zy_lsw, zy_get, zy_put, zy_ald, zy_ast, zy_len, zy_newa, zy_new, zy_cal, zy_ret, zy_tak, zy_cst, zy_acp, zy_oini, zy_cln, zy_thr, zy_bad, zy_lco, zy_if0, zy_ic0, zy_if1, zy_ic1, zy_if2, zy_ic2, zy_if3, zy_ic3, zy_if4, zy_ic4, zy_if5, zy_ic5, zK_go, zK_to, zK_end, zK_callH, zK_iteC, zK_none, zsLd, zsSt, zsInc, zsBI, zsBL, zsSL, zsUn, zsCmp, zsDup, zsDup2, zsPop, zsPop2, zsJn, zsTsw, zsLsw, zsGet, zsPut, zsAld, zsAst, zsLen, zsNewa, zsCal, zsRet, zsCst, zsAcp, zsOini, zsCln, zsLco, zsThr, zxBI, zxBL, zxSL, zxU, zset1, zset2, zclr, zcat, zmake_mk, zcomp, zH_i, zH_l, zH_r, zH_u, zH_n, List.set_cons_zero, List.set_cons_succ, List.getElem?_cons_zero, List.getElem?_cons_succ, List.length_cons, List.length_nil, List.take_succ_cons, List.take_zero, List.drop_succ_cons, List.drop_zero, List.reverse_cons, List.reverse_nil, List.nil_append, List.cons_append, List.map_cons, List.map_nil, List.sum_cons, List.sum_nil, Option.toList_some, Option.toList_none, Value.category, Nat.reduceAdd, Nat.reduceMul, Nat.reduceMod, Nat.reduceDiv, Nat.reduceSub, Nat.reduceLT, Nat.reduceLeDiff, Nat.reduceEqDiff, Nat.zero_le, Nat.le_refl, Int32.reduceToNatClampNeg, Int32.reduceLT, Int32.reduceLE, Int32.reduceAdd, Int32.reduceSub, Int32.reduceMul, ↓reduceIte, reduceCtorEq, Nat.add_zero, Nat.zero_add, true_or, or_true, false_or, or_false, true_and, and_true, false_and, and_false, not_true_eq_false, not_false_eq_true, if_true, if_false, true_implies, false_implies, implies_true, forall_const, false_imp_iff, true_imp_iff, va_rf, zlay, zent, List.replicate_zero, List.append_nil, List.replicate_succ, List.length_append, ne_eq, Option.some.injEq, Value.int.injEq, Value.long.injEq, Int32.reduceOfNat, Int32.reduceToInt, Int.reduceLT, Int.reduceLE, Int.reduceSub, Int.reduceToNat, Int.reduceAdd, Int.reduceNeg, Int32.reduceDiv, Int64.reduceAdd, Int64.reduceSub, lg_cmp_ge, lg_cmp_le, lg_cmp_gt, lg_cmp_lt, lg_cmp_eq, wlt_t, wlt_f, wle_t, wle_f, wmod, wI_lt, wI_le, wI_eq, wI_neg, wI_pos, wI_cl, wI_ge, wI_po, w64_lt, w64_le, w64_eq, w64_lt0, w64_le0, w64_eq0, w64_32, zc317, zc319, wI_add, wI_a1, wI_s1, wI_e0, wI_m8, wI_m128, wI_m64, wI_m190, not_true_eq_false, not_false_eq_true, sP_897_0 hS, sP_897_1 hS, sP_1089_0 hS, sP_1089_1 hS, sP_1217_0 hS, sP_1217_1 hS, sP_1345_0 hS, sP_1345_1 hS, sP_1473_0 hS, sP_1473_1 hS, sP_1601_0 hS, sP_1601_1 hS, sP_1729_0 hS, sP_1729_1 hS, sP_1857_0 hS, sP_1857_1 hS, sP_1985_0 hS, sP_1985_1 hS, sP_2115_12 hS, sP_2115_13 hS, sP_2273_0 hS, sP_2273_1 hS, sP_2401_0 hS, sP_2401_1 hS, sN_944 hS, sN_977 hS, sN_1136 hS, sN_1169 hS, sN_1264 hS, sN_1297 hS, sN_1392 hS, sN_1425 hS, sN_1520 hS, sN_1553 hS, sN_1648 hS, sN_1681 hS, sN_1776 hS, sN_1809 hS, sN_1904 hS, sN_1937 hS, sN_2032 hS, sN_2065 hS, sN_2320 hS, sN_2353 hS, sN_2448 hS, sN_2481 hS, sN_6417 hS]
  exact q
end
