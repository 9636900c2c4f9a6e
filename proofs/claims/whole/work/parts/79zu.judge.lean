-- needs: 01 02.names 03 04 05 18 19 20 22 23 24 25 30 31 32 33 35 36 37 40 42 43 44 45 46 47 60 61 62 63 64 65 66 67 68 69 79f 79g 79h 79i 79j 79k 79l 79m 79n 79o 79p 79q 79r 79s 79t 79u 79v 79w 79x 79y 79z. 79za 79zb 79zc 79zd 79ze 79zf 79zg 79zh 79zi 79zj 79zk 79zl 79zm 79zn 79zo 79zp 79zq 79zr 79zs 79zt
/-! phase one: the verdict -/
noncomputable def zPk (c : Prop) (a b : Int32) : Int32 := @ite Int32 c (Classical.propDecidable _) a b
theorem zPk_t {c : Prop} {a b : Int32} (h : c) : zPk c a b = a := if_pos h
theorem zPk_f {c : Prop} {a b : Int32} (h : ¬ c) : zPk c a b = b := if_neg h
/-- output i has enough base -/
def zLg (T : Nat → Int64) (Z : Nat → Nat) (i : Nat) : Prop := T (zoc Z i + 2) = 0 ∧ ¬ T (zoc Z i + 4) < 2
/-- valid at this height -/
def zVld (T : Nat → Int64) (Z : Nat → Nat) (hx : Nat) : Prop := ¬ (nI hx).toInt64 < T (zWi Z 0 4 + 1) ∧ ¬ T (zWi Z 0 4 + 2) < (nI hx).toInt64
/-- w kinds are there -/
def zNkd (V : Int32 → Int64 → Int) (w : Nat) : Prop := ∃ po nm, zSrt po nm w ∧ ∀ q y, zHsk po nm w q y ↔ 0 < V q y
theorem zNkd_u {V : Int32 → Int64 → Int} {w w' : Nat} (h : zNkd V w) (h' : zNkd V w') : w = w' := by
  obtain ⟨po, nm, h1, h2⟩ := h
  obtain ⟨po', nm', h3, h4⟩ := h'
  exact (zSrt_u h1 h3 (fun p x => (h2 p x).trans (h4 p x).symm)).1
/-- the nodes of the context -/
def zCtn (C Z : Nat → Nat) (w : Nat) : Nat := 11 + C (zWi Z 0 7) + 4 * (C (zWi Z 0 5) + w + C (zWi Z 0 2))
def zBig (V : Int32 → Int64 → Int) (C Z : Nat → Nat) : Prop := ∃ w, zNkd V w ∧ 200 < zCtn C Z w
theorem zBig_i {V : Int32 → Int64 → Int} {C Z : Nat → Nat} {w : Nat} (h : zNkd V w) : zBig V C Z ↔ 200 < zCtn C Z w := ⟨fun ⟨w', h1, h2⟩ => by rw [zNkd_u h h1]; exact h2, fun h2 => ⟨w, h, h2⟩⟩
def zCov (po : Nat → Int32) (nm am : Nat → Int64) (g6 ad ca : Nat → Nat) (nc : Nat) (fee : Int64) : Prop := zCoA po g6 ad ca nc ∧ 0 < nc ∧ ¬ zsJ (fun i => zHd po nm am g6 0 0 (ca i)) nc - fee < fee
/-- all that there is of a kind -/
noncomputable def zLVt (I : zI) (J : zJ) (g : Nat → Nat → Nat) (e hx m : Nat) (q : Int32) (y : Int64) : Int := zTot I J g e ((hx : Int) + 1) q y m + if q = 0 ∧ y = 0 then zPts J (hx + 1) else 0
/-- the numbers of inputs, and of collateral -/
def zia (T : Nat → Int64) (Z : Nat → Nat) : Nat → Nat := fun i => (ziv T Z i).toInt.toNat
def zca (T : Nat → Int64) (Z : Nat → Nat) : Nat → Nat := fun i => (zcv T Z i).toInt.toNat
noncomputable def zJud (I : zI) (J : zJ) (T : Nat → Int64) (C Z ad : Nat → Nat) (g : Nat → Nat → Nat) (t m e hx : Nat) : Int32 :=
  zPk (¬ (zIl (I 3664) m (ziv T Z) (C (zWi Z 0 0)) ∧ zCl (I 3664) m (ziv T Z) (zcv T Z) (C (zWi Z 0 0)) (C (zWi Z 0 1)))) 8 (
  zPk (¬ zVld T Z hx) 9 (
  zPk (T (zWi Z 0 3) < (10 + nI t / 8).toInt64) 10 (
  zPk (¬ zBm I J T C Z g (zia T Z) (zLVt I J g e hx m)) 11 (
  zPk (¬ (zSga T C Z ad (zia T Z) (C (zWi Z 0 0)) ∧ zSga T C Z ad (zca T Z) (C (zWi Z 0 1)))) 12 (
  zPk (zRuns C Z ad (zia T Z) ∧ ¬ zCov (I 3472) (J 3505) (J 3537) (g 6) ad (zca T Z) (C (zWi Z 0 1)) (T (zWi Z 0 3))) 13 (
  zPk (¬ ∀ i, i < C (zWi Z 0 2) → zLg T Z i) 14 (
  zPk (1024 < m + C (zWi Z 0 2)) 15 (
  zPk (zRuns C Z ad (zia T Z) ∧ zBig (zIn I J g (zia T Z) (C (zWi Z 0 0))) C Z) 16 0))))))))
theorem nI_d8 {t : Nat} (ht : t < 2 ^ 31) : ((10 : Int32) + nI t / 8).toInt64.toInt = 10 + t / 8 := by
  have e8 : (8 : Int32).toInt = 8 := rfl
  have e10 : (10 : Int32).toInt = 10 := rfl
  rw [Int32.toInt_toInt64, Int32.toInt_add, Int32.toInt_div_of_ne_right _ _ (by decide), nI_toInt ht, e8, e10]
  have : (t : Int).tdiv 8 = (t : Int) / 8 := Int.tdiv_eq_ediv_of_nonneg (by omega)
  rw [this]
  apply Int.bmod_eq_of_le <;> omega
section
variable {I I' : zI} {J J' : zJ} {P : zP} {N : Nat → Nat} {n z m K s e hx t : Nat} {F C Z X H L ad ia ca : Nat → Nat} {g : Nat → Nat → Nat} {T : Nat → Int64} {Q : Option Value → zS → Prop}
theorem zPts_pos (h : zCon I J g m e hx) : ∀ k, k ≤ hx + 1 → 0 ≤ zPts J k := by
  intro k
  induction k with
  | zero => intro _; exact Int.le_refl _
  | succ k ih =>
    intro hk
    have h1 := ih (by omega)
    have h2 := h.1 k (by omega)
    show 0 ≤ zPts J k + (J 3697 k).toInt
    omega
theorem zLVt_b (hC : zCon I J g m e hx) (hW : zWfO I J g m e hx s) (q : Int32) (y : Int64) : 0 ≤ zTot I J g e ((hx : Int) + 1) q y m ∧ zTot I J g e ((hx : Int) + 1) q y m ≤ zLVt I J g e hx m q y ∧ zLVt I J g e hx m q y ≤ 4611686018427387904 := by
  have h1 := hC.2 (hx + 1) (Nat.le_refl _) q y
  have e1 : (((hx + 1 : Nat) : Int)) = (hx : Int) + 1 := by omega
  rw [e1] at h1
  have h2 := zPts_pos hC (hx + 1) (Nat.le_refl _)
  have h3 := (zTot_le (p := q) (x := y) (t := (hx : Int) + 1) hW 0 m (Nat.le_refl m)).1
  unfold zLVt
  refine ⟨h3, ?_, h1⟩
  split <;> omega
/-- the class's answer and the reference's -/
theorem zBm_i (hs32 : s ≤ 32) (t : zTx F T C Z H s) (hC : zCon I J g m e hx) (hW : zWfO I J g m e hx s) (hI : ∀ q y, zIn I J g ia (C (zWi Z 0 0)) q y ≤ zTot I J g e ((hx : Int) + 1) q y m) : zBm I J T C Z g ia (zLVt I J g e hx m) ↔ zBa I J T C Z g ia ∧ zFit I J T C Z g e hx m := by
  have b := zLVt_b hC hW
  constructor
  · intro h
    refine ⟨⟨fun q y => ?_, fun q y => (h q y).2⟩, fun q y => ?_⟩
    · have h1 := h q y
      have h2 := b q y
      have h3 := hI q y
      omega
    · have h1 := h q y
      have h2 := b q y
      omega
  · rintro ⟨⟨h1, h2⟩, h3⟩ q y
    refine ⟨?_, h2 q y⟩
    by_cases h0 : q = 0 ∧ y = 0
    · have cn := t.2.2.2.2.2.2.1.2
      have e0 : zMin T C Z q y = 0 := by
        unfold zMin zKt
        refine zKs_none _ (fun j hj x => ?_)
        obtain ⟨-, ⟨a1, -⟩, -, -⟩ := cn j hj
        have x1 : (T (zWi Z 0 5 + 1 + 4 * j + 1)).toInt32 = 0 := x.1.trans h0.1
        obtain ⟨-, ⟨-, a2, -⟩, -, -⟩ := cn j hj
        have i1 : 1 ≤ (T (zWi Z 0 5 + 1 + 4 * j + 1)).toInt := Int64.le_iff_toInt_le.1 a1
        have i2 := Int64.le_iff_toInt_le.1 a2
        rw [w64_toInt (by omega)] at i2
        have e := congrArg Int32.toInt x1
        rw [Int64.toInt_toInt32, Int.bmod_eq_of_le (by omega) (by omega)] at e
        have e0 : (0 : Int32).toInt = 0 := rfl
        omega
      have := (b q y).2.2
      omega
    · have h4 := h3 q y
      unfold zLVt
      rw [if_neg h0]
      omega
/-- enough base, as the class finds it -/
theorem zLg_i (hs32 : s ≤ 32) {c : Nat} (h : zCns F T C s False c) (h1 : 1 ≤ C c) : (zAm (zpo T c) (zkx T c) (zka T c) (C c) 0 0 < 2) ↔ ¬ (T (c + 2) = 0 ∧ ¬ T (c + 4) < 2) := by
  have hs := zCns_s hs32 h
  obtain ⟨-, ⟨a1, a2, a3⟩, -, -⟩ := h 0 h1
  have a3 : T (c + 2) = 0 → T (c + 3) = 0 := a3
  have i1 : 0 ≤ (T (c + 2)).toInt := Int64.le_iff_toInt_le.1 a1
  have i2 : (T (c + 2)).toInt ≤ (nI s).toInt64.toInt := Int64.le_iff_toInt_le.1 a2
  rw [w64_toInt (by omega)] at i2
  by_cases h0 : T (c + 2) = 0
  · have e := zAm_h (am := zka T c) hs (i := 0) h1 (p := 0) (x := 0) (by show (T (c + 2)).toInt32 = 0; rw [h0]; rfl) (a3 h0)
    rw [e]
    have e2 : zka T c 0 = T (c + 4) := rfl
    rw [e2]
    exact ⟨fun h2 h3 => h3.2 h2, fun h2 => Classical.byContradiction fun h3 => h2 ⟨h0, h3⟩⟩
  · have hn : ¬ zHsk (zpo T c) (zkx T c) (C c) 0 0 := by
      rintro ⟨i, i3, i4, i5⟩
      have p0 : ¬ zpo T c 0 = 0 := fun h2 => h0 (by
        have h2 : (T (c + 2)).toInt32 = 0 := h2
        have e := congrArg Int32.toInt h2
        rw [Int64.toInt_toInt32, Int.bmod_eq_of_le (by omega) (by omega)] at e
        exact Int64.toInt_inj.1 e)
      have pl : (0 : Int32) < zpo T c 0 := by
        rw [Int32.lt_iff_toInt_lt]
        have e : (zpo T c 0).toInt = (T (c + 2)).toInt := by
          show (T (c + 2)).toInt32.toInt = _
          rw [Int64.toInt_toInt32, Int.bmod_eq_of_le (by omega) (by omega)]
        rw [e]
        have : ¬ (T (c + 2)).toInt = 0 := fun h2 => h0 (Int64.toInt_inj.1 h2)
        have e0 : (0 : Int32).toInt = 0 := rfl
        omega
      by_cases hi : i = 0
      · rw [hi] at i4; exact p0 i4
      · have := hs 0 i (by omega) i3
        rw [i4, i5] at this
        rcases this with h2 | h2
        · exact Int32.lt_irrefl (Int32.lt_trans pl h2)
        · exact p0 h2.1
    rw [zAm_n hs hn]
    exact ⟨fun _ x => h0 x.1, fun _ => by decide⟩
set_option maxRecDepth 20000 in
theorem m130 (hS : zStat P N) (h : zHas I J F T C Z H X L K s) (hh : hx < 2 ^ 31) (Q : Option Value → zS → Prop) : zC 130 [.ref 649, .int (nI hx)] (I, J, P, N, n, z) Q = Q (some (.int (zyn (zVld T Z hx)))) (I, J, P, N, n, z) := by
  refine zC_eq (fun Q hQ => ?_) Q
  have hf := zHas_f h
  obtain ⟨D, hv, hs, t⟩ := h
  have hK := D.1
  have f4 := hs.1.1 4 (by omega)
  have k4 := hf.1 4 (by omega)
  have c4 : C (zWi Z 0 4) = 2 := by have := t.2.2.2.2.2.1.1; have := this.2; omega
  have k42 : zWi Z 0 4 + 2 < K := by
    have hk := zDt_ch D k4 (by have := t.2.2.2.2.2.1.1.1; omega) (i := 1) (by omega)
    rw [zInA_w D k4 (by have := t.2.2.2.2.2.1.1.1; omega) t.2.2.2.2.2.1.2 1 (by omega)] at hk
    exact hk
  have v1 : J 209 (zWi Z 0 4 + 1) = T (zWi Z 0 4 + 1) := by have := (hv (zWi Z 0 4 + 1) (by omega)).2.2.2.1; rw [Nat.zero_add] at this; exact this
  have v2 : J 209 (zWi Z 0 4 + 2) = T (zWi Z 0 4 + 2) := by have := (hv (zWi Z 0 4 + 2) k42).2.2.2.1; rw [Nat.zero_add] at this; exact this
  have a1 : nI (zWi Z 0 4) + 1 = nI (zWi Z 0 4 + 1) := wI_a1
  have a2 : nI (zWi Z 0 4) + 2 = nI (zWi Z 0 4 + 2) := wI_add (j := 2)
  by_cases h1 : (nI hx).toInt64 < T (zWi Z 0 4 + 1)
  · rw [zyn_f (fun x => x.1 h1)] at hQ
    simp (decide := true) (disch := omega) only [f4, a1, a2, v1, v2, h1, zi130, zt130, zo130_0, zo130_1, zo130_2, zy_ldI, zy_ldL, zy_ldA, zy_stI, zy_stL, zy_stA, zy_cI, zy_cL, zy_nul, zy_inc, zy_bI, zy_bL, zy_sL, zy_un, zy_cmp, zy_dup, zy_dup2, zy_pop, zy_pop2, zy_jn, zy_jnn, zy_go, zy_fal, zy_tsw, zy_lsw, zy_get, zy_put, zy_ald, zy_ast, zy_len, zy_newa, zy_new, zy_cal, zy_ret, zy_tak, zy_cst, zy_acp, zy_oini, zy_cln, zy_thr, zy_bad, zy_lco, zy_if0, zy_ic0, zy_if1, zy_ic1, zy_if2, zy_ic2, zy_if3, zy_ic3, zy_if4, zy_ic4, zy_if5, zy_ic5, zK_go, zK_to, zK_end, zK_callH, zK_iteC, zK_none, zsLd, zsSt, zsInc, zsBI, zsBL, zsSL, zsUn, zsCmp, zsDup, zsDup2, zsPop, zsPop2, zsJn, zsTsw, zsLsw, zsGet, zsPut, zsAld, zsAst, zsLen, zsNewa, zsCal, zsRet, zsCst, zsAcp, zsOini, zsCln, zsLco, zsThr, zxBI, zxBL, zxSL, zxU, zset1, zset2, zclr, zcat, zmake_mk, zcomp, zH_i, zH_l, zH_r, zH_u, zH_n, List.set_cons_zero, List.set_cons_succ, List.getElem?_cons_zero, List.getElem?_cons_succ, List.length_cons, List.length_nil, List.take_succ_cons, List.take_zero, List.drop_succ_cons, List.drop_zero, List.reverse_cons, List.reverse_nil, List.nil_append, List.cons_append, List.map_cons, List.map_nil, List.sum_cons, List.sum_nil, Option.toList_some, Option.toList_none, Value.category, Nat.reduceAdd, Nat.reduceMul, Nat.reduceMod, Nat.reduceDiv, Nat.reduceSub, Nat.reduceLT, Nat.reduceLeDiff, Nat.reduceEqDiff, Nat.zero_le, Nat.le_refl, Int32.reduceToNatClampNeg, Int32.reduceLT, Int32.reduceLE, Int32.reduceAdd, Int32.reduceSub, Int32.reduceMul, ↓reduceIte, reduceCtorEq, Nat.add_zero, Nat.zero_add, true_or, or_true, false_or, or_false, true_and, and_true, false_and, and_false, not_true_eq_false, not_false_eq_true, if_true, if_false, true_implies, false_implies, implies_true, forall_const, false_imp_iff, true_imp_iff, va_rf, zlay, zent, List.replicate_zero, List.append_nil, List.replicate_succ, List.length_append, ne_eq, Option.some.injEq, Value.int.injEq, Value.long.injEq, Int32.reduceOfNat, Int32.reduceToInt, Int.reduceLT, Int.reduceLE, Int.reduceSub, Int.reduceToNat, Int.reduceAdd, Int.reduceNeg, Int32.reduceDiv, Int64.reduceAdd, Int64.reduceSub, lg_cmp_ge, lg_cmp_le, lg_cmp_gt, lg_cmp_lt, lg_cmp_eq, wlt_t, wlt_f, wle_t, wle_f, wmod, wI_lt, wI_le, wI_eq, wI_neg, wI_pos, wI_cl, wI_ge, wI_po, w64_lt, w64_le, w64_eq, w64_lt0, w64_le0, w64_eq0, w64_32, zc317, zc319, wI_add, wI_a1, wI_s1, wI_e0, wI_m8, wI_m128, wI_m64, wI_m190, not_true_eq_false, not_false_eq_true, sP_37_4 hS, sP_649_0 hS, sP_649_2 hS, sN_209 hS, sN_688 hS, sN_6417 hS]
    exact hQ
  · by_cases h2 : T (zWi Z 0 4 + 2) < (nI hx).toInt64
    · rw [zyn_f (fun x => x.2 h2)] at hQ
      simp (decide := true) (disch := omega) only [f4, a1, a2, v1, v2, h1, h2, zi130, zt130, zo130_0, zo130_1, zo130_2, zy_ldI, zy_ldL, zy_ldA, zy_stI, zy_stL, zy_stA, zy_cI, zy_cL, zy_nul, zy_inc, zy_bI, zy_bL, zy_sL, zy_un, zy_cmp, zy_dup, zy_dup2, zy_pop, zy_pop2, zy_jn, zy_jnn, zy_go, zy_fal, zy_tsw, zy_lsw, zy_get, zy_put, zy_ald, zy_ast, zy_len, zy_newa, zy_new, zy_cal, zy_ret, zy_tak, zy_cst, zy_acp, zy_oini, zy_cln, zy_thr, zy_bad, zy_lco, zy_if0, zy_ic0, zy_if1, zy_ic1, zy_if2, zy_ic2, zy_if3, zy_ic3, zy_if4, zy_ic4, zy_if5, zy_ic5, zK_go, zK_to, zK_end, zK_callH, zK_iteC, zK_none, zsLd, zsSt, zsInc, zsBI, zsBL, zsSL, zsUn, zsCmp, zsDup, zsDup2, zsPop, zsPop2, zsJn, zsTsw, zsLsw, zsGet, zsPut, zsAld, zsAst, zsLen, zsNewa, zsCal, zsRet, zsCst, zsAcp, zsOini, zsCln, zsLco, zsThr, zxBI, zxBL, zxSL, zxU, zset1, zset2, zclr, zcat, zmake_mk, zcomp, zH_i, zH_l, zH_r, zH_u, zH_n, List.set_cons_zero, List.set_cons_succ, List.getElem?_cons_zero, List.getElem?_cons_succ, List.length_cons, List.length_nil, List.take_succ_cons, List.take_zero, List.drop_succ_cons, List.drop_zero, List.reverse_cons, List.reverse_nil, List.nil_append, List.cons_append, List.map_cons, List.map_nil, List.sum_cons, List.sum_nil, Option.toList_some, Option.toList_none, Value.category, Nat.reduceAdd, Nat.reduceMul, Nat.reduceMod, Nat.reduceDiv, Nat.reduceSub, Nat.reduceLT, Nat.reduceLeDiff, Nat.reduceEqDiff, Nat.zero_le, Nat.le_refl, Int32.reduceToNatClampNeg, Int32.reduceLT, Int32.reduceLE, Int32.reduceAdd, Int32.reduceSub, Int32.reduceMul, ↓reduceIte, reduceCtorEq, Nat.add_zero, Nat.zero_add, true_or, or_true, false_or, or_false, true_and, and_true, false_and, and_false, not_true_eq_false, not_false_eq_true, if_true, if_false, true_implies, false_implies, implies_true, forall_const, false_imp_iff, true_imp_iff, va_rf, zlay, zent, List.replicate_zero, List.append_nil, List.replicate_succ, List.length_append, ne_eq, Option.some.injEq, Value.int.injEq, Value.long.injEq, Int32.reduceOfNat, Int32.reduceToInt, Int.reduceLT, Int.reduceLE, Int.reduceSub, Int.reduceToNat, Int.reduceAdd, Int.reduceNeg, Int32.reduceDiv, Int64.reduceAdd, Int64.reduceSub, lg_cmp_ge, lg_cmp_le, lg_cmp_gt, lg_cmp_lt, lg_cmp_eq, wlt_t, wlt_f, wle_t, wle_f, wmod, wI_lt, wI_le, wI_eq, wI_neg, wI_pos, wI_cl, wI_ge, wI_po, w64_lt, w64_le, w64_eq, w64_lt0, w64_le0, w64_eq0, w64_32, zc317, zc319, wI_add, wI_a1, wI_s1, wI_e0, wI_m8, wI_m128, wI_m64, wI_m190, not_true_eq_false, not_false_eq_true, sP_37_4 hS, sP_649_0 hS, sP_649_2 hS, sN_209 hS, sN_688 hS, sN_6417 hS]
      exact hQ
    · rw [zyn_t ⟨h1, h2⟩] at hQ
      simp (decide := true) (disch := omega) only [f4, a1, a2, v1, v2, h1, h2, zi130, zt130, zo130_0, zo130_1, zo130_2, zy_ldI, zy_ldL, zy_ldA, zy_stI, zy_stL, zy_stA, zy_cI, zy_cL, zy_nul, zy_inc, zy_bI, zy_bL, zy_sL, zy_un, zy_cmp, zy_dup, zy_dup2, zy_pop, zy_pop2, zy_jn, zy_jnn, zy_go, zy_fal, zy_tsw, zy_lsw, zy_get, zy_put, zy_ald, zy_ast, zy_len, zy_newa, zy_new, zy_cal, zy_ret, zy_tak, zy_cst, zy_acp, zy_oini, zy_cln, zy_thr, zy_bad, zy_lco, zy_if0, zy_ic0, zy_if1, zy_ic1, zy_if2, zy_ic2, zy_if3, zy_ic3, zy_if4, zy_ic4, zy_if5, zy_ic5, zK_go, zK_to, zK_end, zK_callH, zK_iteC, zK_none, zsLd, zsSt, zsInc, zsBI, zsBL, zsSL, zsUn, zsCmp, zsDup, zsDup2, zsPop, zsPop2, zsJn, zsTsw, zsLsw, zsGet, zsPut, zsAld, zsAst, zsLen, zsNewa, zsCal, zsRet, zsCst, zsAcp, zsOini, zsCln, zsLco, zsThr, zxBI, zxBL, zxSL, zxU, zset1, zset2, zclr, zcat, zmake_mk, zcomp, zH_i, zH_l, zH_r, zH_u, zH_n, List.set_cons_zero, List.set_cons_succ, List.getElem?_cons_zero, List.getElem?_cons_succ, List.length_cons, List.length_nil, List.take_succ_cons, List.take_zero, List.drop_succ_cons, List.drop_zero, List.reverse_cons, List.reverse_nil, List.nil_append, List.cons_append, List.map_cons, List.map_nil, List.sum_cons, List.sum_nil, Option.toList_some, Option.toList_none, Value.category, Nat.reduceAdd, Nat.reduceMul, Nat.reduceMod, Nat.reduceDiv, Nat.reduceSub, Nat.reduceLT, Nat.reduceLeDiff, Nat.reduceEqDiff, Nat.zero_le, Nat.le_refl, Int32.reduceToNatClampNeg, Int32.reduceLT, Int32.reduceLE, Int32.reduceAdd, Int32.reduceSub, Int32.reduceMul, ↓reduceIte, reduceCtorEq, Nat.add_zero, Nat.zero_add, true_or, or_true, false_or, or_false, true_and, and_true, false_and, and_false, not_true_eq_false, not_false_eq_true, if_true, if_false, true_implies, false_implies, implies_true, forall_const, false_imp_iff, true_imp_iff, va_rf, zlay, zent, List.replicate_zero, List.append_nil, List.replicate_succ, List.length_append, ne_eq, Option.some.injEq, Value.int.injEq, Value.long.injEq, Int32.reduceOfNat, Int32.reduceToInt, Int.reduceLT, Int.reduceLE, Int.reduceSub, Int.reduceToNat, Int.reduceAdd, Int.reduceNeg, Int32.reduceDiv, Int64.reduceAdd, Int64.reduceSub, lg_cmp_ge, lg_cmp_le, lg_cmp_gt, lg_cmp_lt, lg_cmp_eq, wlt_t, wlt_f, wle_t, wle_f, wmod, wI_lt, wI_le, wI_eq, wI_neg, wI_pos, wI_cl, wI_ge, wI_po, w64_lt, w64_le, w64_eq, w64_lt0, w64_le0, w64_eq0, w64_32, zc317, zc319, wI_add, wI_a1, wI_s1, wI_e0, wI_m8, wI_m128, wI_m64, wI_m190, not_true_eq_false, not_false_eq_true, sP_37_4 hS, sP_649_0 hS, sP_649_2 hS, sN_209 hS, sN_688 hS, sN_6417 hS]
      exact hQ
set_option maxRecDepth 20000 in
theorem m143 {w : Nat} (hS : zStat P N) (h : zHas I J F T C Z H X L K s) (h3 : I 2273 3 = nI w) (hw : w ≤ 64) (Q : Option Value → zS → Prop) : zC 143 [.ref 649, .ref 2273] (I, J, P, N, n, z) Q = Q (some (.int (nI (zCtn C Z w)))) (I, J, P, N, n, z) := by
  refine zC_eq (fun Q hQ => ?_) Q
  have hf := zHas_f h
  have p127 := fun (Q : Option Value → zS → Prop) => m127 (n := n) (z := z) hS h Q
  obtain ⟨D, hv, hs, t⟩ := h
  have hK := D.1
  have cc := zTx_c t
  have f7 := hs.1.1 7 (by omega)
  have k7 := hf.1 7 (by omega)
  have v7 : I 112 (zWi Z 0 7) = nI (C (zWi Z 0 7)) := by have := (hv _ k7).2.1; rw [Nat.zero_add] at this; exact this
  have v5 := hs.2.2.1.1
  have a1 : (11 : Int32) + nI (C (zWi Z 0 7)) = nI (11 + C (zWi Z 0 7)) := wI_add (i := 11)
  have a2 : (4 : Int32) * nI (C (zWi Z 0 5) + w + C (zWi Z 0 2)) = nI (4 * (C (zWi Z 0 5) + w + C (zWi Z 0 2))) := wI_mul (i := 4)
  unfold zCtn at hQ
  simp (decide := true) (disch := omega) only [f7, v7, v5, h3, p127, a1, a2, zi143, zt143, zo143_0, zy_ldI, zy_ldL, zy_ldA, zy_stI, zy_stL, zy_stA, zy_cI, zy_cL, zy_nul, zy_inc, zy_bI, zy_bL, zy_sL, zy_un, zy_cmp, zy_dup, zy_dup2, zy_pop, zy_pop2, zy_jn, zy_jnn, zy_go, zy_fal, zy_tsw, zy_lsw, zy_get, zy_put, zy_ald, zy_ast, zy_len, zy_newa, zy_new, zy_cal, zy_ret, zy_tak, zy_cst, zy_acp, zy_oini, zy_cln, zy_thr, zy_bad, zy_lco, zy_if0, zy_ic0, zy_if1, zy_ic1, zy_if2, zy_ic2, zy_if3, zy_ic3, zy_if4, zy_ic4, zy_if5, zy_ic5, zK_go, zK_to, zK_end, zK_callH, zK_iteC, zK_none, zsLd, zsSt, zsInc, zsBI, zsBL, zsSL, zsUn, zsCmp, zsDup, zsDup2, zsPop, zsPop2, zsJn, zsTsw, zsLsw, zsGet, zsPut, zsAld, zsAst, zsLen, zsNewa, zsCal, zsRet, zsCst, zsAcp, zsOini, zsCln, zsLco, zsThr, zxBI, zxBL, zxSL, zxU, zset1, zset2, zclr, zcat, zmake_mk, zcomp, zH_i, zH_l, zH_r, zH_u, zH_n, List.set_cons_zero, List.set_cons_succ, List.getElem?_cons_zero, List.getElem?_cons_succ, List.length_cons, List.length_nil, List.take_succ_cons, List.take_zero, List.drop_succ_cons, List.drop_zero, List.reverse_cons, List.reverse_nil, List.nil_append, List.cons_append, List.map_cons, List.map_nil, List.sum_cons, List.sum_nil, Option.toList_some, Option.toList_none, Value.category, Nat.reduceAdd, Nat.reduceMul, Nat.reduceMod, Nat.reduceDiv, Nat.reduceSub, Nat.reduceLT, Nat.reduceLeDiff, Nat.reduceEqDiff, Nat.zero_le, Nat.le_refl, Int32.reduceToNatClampNeg, Int32.reduceLT, Int32.reduceLE, Int32.reduceAdd, Int32.reduceSub, Int32.reduceMul, ↓reduceIte, reduceCtorEq, Nat.add_zero, Nat.zero_add, true_or, or_true, false_or, or_false, true_and, and_true, false_and, and_false, not_true_eq_false, not_false_eq_true, if_true, if_false, true_implies, false_implies, implies_true, forall_const, false_imp_iff, true_imp_iff, va_rf, zlay, zent, List.replicate_zero, List.append_nil, List.replicate_succ, List.length_append, ne_eq, Option.some.injEq, Value.int.injEq, Value.long.injEq, Int32.reduceOfNat, Int32.reduceToInt, Int.reduceLT, Int.reduceLE, Int.reduceSub, Int.reduceToNat, Int.reduceAdd, Int.reduceNeg, Int32.reduceDiv, Int64.reduceAdd, Int64.reduceSub, lg_cmp_ge, lg_cmp_le, lg_cmp_gt, lg_cmp_lt, lg_cmp_eq, wlt_t, wlt_f, wle_t, wle_f, wmod, wI_lt, wI_le, wI_eq, wI_neg, wI_pos, wI_cl, wI_ge, wI_po, w64_lt, w64_le, w64_eq, w64_lt0, w64_le0, w64_eq0, w64_32, zc317, zc319, wI_add, wI_a1, wI_s1, wI_e0, wI_m8, wI_m128, wI_m64, wI_m190, not_true_eq_false, not_false_eq_true, sP_37_1 hS, sP_649_0 hS, sP_649_2 hS, sP_649_9 hS, sN_112 hS, sN_688 hS, sN_6417 hS]
  exact hQ
end
