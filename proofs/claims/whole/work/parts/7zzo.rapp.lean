-- needs: 01 02.names 03 04 05 18 19 20 22 23 24 25 30 31 32 33 35 36 37 40 42 43 44 45 46 47 60 61 62 63 64 65 66 67 68 69 79f 79g 79h 79i 79j 79k 79l 79m 79n 79o 79p 79q 79r 79s 79t 79u 79v 79w 79x 79y 79z. 79za 79zb 79zc 79zd 79ze 79zf 79zg 79zh 79zi 79zj 79zk 79zl 79zm 79zn 79zo 79zp 79zq 79zr 79zs 79zt 79zu 79zv 7a 7b 7c 7d 7e 7f 7g 7zl 7zm 7zn 7zo 7h 7i 7j 7k 7l 7m 7n 7o 7p 7q 7r 7zj 7zk 7zp 7zq 7zr 7zs 7zt 7zu 79zw 7s 7t 7u 7v 7w 7x 7y 7z. 7za 7zb 7zc 7zd 7ze 7zf 7zg 7zh 7zi 7zv 7zw 7zx 7zy 7zz. 7zza 7zzb 7zzc 7zzd 7zze 7zzf 7zzg 7zzh 7zzi 7zzj 7zzk 7zzl 7zzm 7zzn
/-! Transactions are applied, and collateral is taken, by the reference -/
/-- node k as output a -/
def yNo (I : zI) (J : zJ) (T : Nat → Int64) (C Z H : Nat → Nat) (tp : Nat → Int32) (hx a k : Nat) : Prop :=
  (I 3408 a = zAdn T (k + 1) ∧ I 3440 a = nI (C (zWi Z k 1)) ∧ I 3600 a = nI (H (zWi Z k 3) - H (zWi Z k 2)) ∧ I 3632 a = nI hx ∧ I 3664 a = -1) ∧ (∀ j, j < C (zWi Z k 1) → I 3472 (8 * a + j) = zpo T (zWi Z k 1) j ∧ J 3505 (8 * a + j) = zkx T (zWi Z k 1) j ∧ J 3537 (8 * a + j) = zka T (zWi Z k 1) j) ∧ ∀ j, j < H (zWi Z k 3) - H (zWi Z k 2) → I 3567 (128 * a + j) = tp (H (zWi Z k 2) + j)
/-- i outputs were made -/
def yAo (I : zI) (J : zJ) (I' : zI) (J' : zJ) (T : Nat → Int64) (C Z H : Nat → Nat) (m hx i : Nat) : Prop :=
  ((∀ x, x ≠ 3118 → x ≠ 3408 → x ≠ 3440 → x ≠ 3472 → x ≠ 3567 → x ≠ 3600 → x ≠ 3632 → x ≠ 3664 → I' x = I x) ∧ (∀ x, x ≠ 3505 → x ≠ 3537 → J' x = J x)) ∧ ((∀ j, j ≠ 11 → I' 3118 j = I 3118 j) ∧ I' 3118 11 = nI (m + i)) ∧
  (∀ k, k < m → I' 3408 k = I 3408 k ∧ I' 3440 k = I 3440 k ∧ I' 3600 k = I 3600 k ∧ I' 3632 k = I 3632 k ∧ I' 3664 k = I 3664 k) ∧ (∀ k, k < 8 * m → I' 3472 k = I 3472 k ∧ J' 3505 k = J 3505 k ∧ J' 3537 k = J 3537 k) ∧ (∀ k, k < 128 * m → I' 3567 k = I 3567 k) ∧ ∀ o, o < i → yNo I' J' T C Z H (I 3151) hx (m + o) (zWi Z (zWi Z 0 2) o)
/-- those of a row below n were spent at height hx -/
def ySpd (f : Nat → Int32) (ia : Nat → Nat) (hx : Nat) : Nat → Nat → Int32
  | 0 => f
  | i + 1 => fun k => if k = ia i then nI hx else ySpd f ia hx i k
section
variable {I I' : zI} {J J' : zJ} {P : zP} {N : Nat → Nat} {n z K s m hx sz : Nat} {F C Z X H L ia ca : Nat → Nat} {T : Nat → Int64} {Q : Option Value → zS → Prop}
theorem yAo_s {i : Nat} {I2 : zI} {J2 : zJ} (hc : C (zWi Z (zWi Z (zWi Z 0 2) i) 1) ≤ 8) (hd : H (zWi Z (zWi Z (zWi Z 0 2) i) 3) - H (zWi Z (zWi Z (zWi Z 0 2) i) 2) ≤ 128) (hcc : ∀ o, o < i → C (zWi Z (zWi Z (zWi Z 0 2) o) 1) ≤ 8 ∧ H (zWi Z (zWi Z (zWi Z 0 2) o) 3) - H (zWi Z (zWi Z (zWi Z 0 2) o) 2) ≤ 128) (h : yAo I J I' J' T C Z H m hx i) (o : yOm I' J' I2 J2 (m + i) hx (zAdn T (zWi Z (zWi Z 0 2) i + 1)) (C (zWi Z (zWi Z (zWi Z 0 2) i) 1)) (zpo T (zWi Z (zWi Z (zWi Z 0 2) i) 1)) (zkx T (zWi Z (zWi Z (zWi Z 0 2) i) 1)) (zka T (zWi Z (zWi Z (zWi Z 0 2) i) 1)) (H (zWi Z (zWi Z (zWi Z 0 2) i) 3) - H (zWi Z (zWi Z (zWi Z 0 2) i) 2)) (fun j => I' 3151 (H (zWi Z (zWi Z (zWi Z 0 2) i) 2) + j))) : yAo I J I2 J2 T C Z H m hx (i + 1) := by
  obtain ⟨⟨a1, a2⟩, ⟨a3, a4⟩, a5, a6, a7, a8⟩ := h
  obtain ⟨⟨b1, b2⟩, ⟨b3, b4⟩, b5, b6, b7, b8, b9, b10⟩ := o
  have tp : I' 3151 = I 3151 := a1 3151 (by decide) (by decide) (by decide) (by decide) (by decide) (by decide) (by decide) (by decide)
  refine ⟨⟨fun x x1 x2 x3 x4 x5 x6 x7 x8 => (b1 x x1 x2 x3 x4 x5 x6 x7 x8).trans (a1 x x1 x2 x3 x4 x5 x6 x7 x8), fun x x1 x2 => (b2 x x1 x2).trans (a2 x x1 x2)⟩, ⟨fun j hj => (b3 j hj).trans (a3 j hj), b4⟩, fun k hk => ?_, fun k hk => ?_, fun k hk => (b7 k (by omega)).trans (a7 k hk), fun o ho => ?_⟩
  · obtain ⟨c1, c2, c3, c4, c5⟩ := b5 k (by omega)
    obtain ⟨d1, d2, d3, d4, d5⟩ := a5 k hk
    exact ⟨c1.trans d1, c2.trans d2, c3.trans d3, c4.trans d4, c5.trans d5⟩
  · obtain ⟨c1, c2, c3⟩ := b6 k (by omega)
    obtain ⟨d1, d2, d3⟩ := a6 k hk
    exact ⟨c1.trans d1, c2.trans d2, c3.trans d3⟩
  · by_cases e : o = i
    · subst e
      refine ⟨b8, b9, fun j hj => ?_⟩
      rw [← tp]
      exact b10 j hj
    · obtain ⟨x1, x2, x3⟩ := a8 o (by omega)
      obtain ⟨y1, y2⟩ := hcc o (by omega)
      obtain ⟨c1, c2, c3, c4, c5⟩ := b5 (m + o) (by omega)
      refine ⟨⟨c1.trans x1.1, c2.trans x1.2.1, c3.trans x1.2.2.1, c4.trans x1.2.2.2.1, c5.trans x1.2.2.2.2⟩, fun j hj => ?_, fun j hj => ?_⟩
      · obtain ⟨d1, d2, d3⟩ := b6 (8 * (m + o) + j) (by omega)
        obtain ⟨z1, z2, z3⟩ := x2 j hj
        exact ⟨d1.trans z1, d2.trans z2, d3.trans z3⟩
      · rw [b7 _ (by omega)]
        exact x3 j hj
set_option maxRecDepth 20000 in
set_option maxHeartbeats 8000000 in
theorem e300 (hS : zStat P N) (h : zHam I J F T C Z H X L K s) (h38 : I 3118 38 = nI K) (hn : zInm I C Z ia ca) (hia : ∀ i, i < C (zWi Z 0 0) → ia i < m) (hH : ∀ i j, i ≤ j → j < K → H i ≤ H j ∧ H j ≤ sz) (hsz : sz ≤ 4096) (h11 : I 3118 11 = nI m) (hm : m + C (zWi Z 0 2) ≤ 1024) (h23 : I 3118 23 = nI hx) (hh : hx < 4200) (hb : ∀ j, j < sz → (I 3151 j).toInt8.toInt32 = I 3151 j)
    (hQ : ∀ I1 I' J' : Nat → Nat → _, (∀ c, c ≠ 3664 → (I1 : zI) c = I c) → I1 3664 = ySpd (I 3664) ia hx (C (zWi Z 0 0)) → yAo I1 J I' J' T C Z H m hx (C (zWi Z 0 2)) → Q none (zu I' 3728 hx (I 3728 hx + 1), zu J' 3697 hx (J 3697 hx + T (zWi Z 0 3)), P, N, n, z)) : zC 300 [.ref 3118] (I, J, P, N, n, z) Q := by
  obtain ⟨D, hv, hf, tx⟩ := h
  have hK := D.1
  have cc := zTx_c tx
  have fk := zTx_f D tx
  have k2 := fk 2 (by omega)
  have k3 := fk 3 (by omega)
  have f4 : 4 ≤ F (zWi Z 0 2) := by have := tx.2.2.2.1.1.1; omega
  have e0 : nI 0 = 0 := rfl
  have out : ∀ i, i < C (zWi Z 0 2) → zOut F T C Z H s (zWi Z (zWi Z 0 2) i) ∧ zWi Z (zWi Z 0 2) i < K ∧ zWi Z (zWi Z 0 2) i + Z (zWi Z (zWi Z 0 2) i) < K := fun i hi => by
    refine ⟨tx.2.2.2.1.2 i hi, zDt_ch D k2 f4 hi, ?_⟩
    have hm' := zWi_mono (Z := Z) (j := zWi Z 0 2) (i := i + 1) (C (zWi Z 0 2) - (i + 1))
    rw [show i + 1 + (C (zWi Z 0 2) - (i + 1)) = C (zWi Z 0 2) by omega, zDt_end D k2 f4] at hm'
    have e1 : zWi Z (zWi Z 0 2) (i + 1) = zWi Z (zWi Z 0 2) i + Z (zWi Z (zWi Z 0 2) i) := rfl
    have e2 : zWi Z 0 3 = zWi Z 0 2 + Z (zWi Z 0 2) := rfl
    omega
  have hH' : ∀ i j, i ≤ j → j < K → H i ≤ H j ∧ H j ≤ 4096 := fun i j x1 x2 => ⟨(hH i j x1 x2).1, by have := (hH i j x1 x2).2; omega⟩
  have key : ∀ I1 : zI, (∀ c, c ≠ 3664 → I1 c = I c) → I1 3664 = ySpd (I 3664) ia hx (C (zWi Z 0 0)) → ∀ r i (I2 : zI) (J2 : zJ), i + r = C (zWi Z 0 2) → yAo I1 J I2 J2 T C Z H m hx i → zQ zt300 zo300_3 [some (.ref 3118), some (.int (nI i))] [] (I2, J2, P, N, n, z) Q := by
    intro I1 f1 s1 r
    have mv : ∀ {i I2 J2}, yAo I1 J I2 J2 T C Z H m hx i → zMv I2 J2 F T C Z H X K ∧ (∀ i, i < 8 → I2 4048 i = nI (zWi Z 0 i)) ∧ (∀ c, c = 3151 ∨ c = 3728 → I2 c = I c) ∧ J2 3697 = J 3697 ∧ (∀ j, j ≠ 11 → I2 3118 j = I 3118 j) := fun {i I2 J2} f => by
      have q : ∀ c, 3700 < c ∨ c = 3151 → I2 c = I c := fun c hc => by
        by_cases hm' : c = 3664
        · omega
        · rw [f.1.1 c (by omega) (by omega) (by omega) (by omega) (by omega) (by omega) (by omega) (by omega), f1 c hm']
      refine ⟨zMv_c (q 3792 (by omega)) (f.1.2 3825 (by decide) (by decide)) (q 3856 (by omega)) (q 3888 (by omega)) (q 3920 (by omega)) (q 3952 (by omega)) hv, fun i hi => by rw [q 4048 (by omega)]; exact hf i hi, fun c hc => q c (by omega), f.1.2 3697 (by decide) (by decide), fun j hj => by rw [f.2.1.1 j hj, f1 3118 (by decide)]⟩
    induction r with
    | zero =>
      intro i I2 J2 hi Ho
      obtain rfl : i = C (zWi Z 0 2) := by omega
      obtain ⟨m1, m2, m3, m4, m5⟩ := mv Ho
      have v2 := m2 2 (by omega)
      have v3 := m2 3 (by omega)
      have vc : I2 3856 (zWi Z 0 2) = nI (C (zWi Z 0 2)) := by
        have := (m1 _ k2).2.2.1
        unfold zCq at this
        rw [if_neg (by have := tx.2.2.2.1.1.1; omega)] at this
        exact this
      have t1 : (nI (C (zWi Z 0 2)) ≤ nI (C (zWi Z 0 2))) = True := eq_true (Int32.le_refl _)
      have w23 : I2 3118 23 = nI hx := by rw [m5 23 (by decide)]; exact h23
      have wT : J2 3825 (zWi Z 0 3) = T (zWi Z 0 3) := (m1 _ k3).2.1
      have w28 : I2 3728 hx = I 3728 hx := by rw [m3 3728 (by omega)]
      have w97 : J2 3697 hx = J 3697 hx := by rw [m4]
      have q := hQ I1 I2 J2 f1 s1 Ho
      rw [zo300_3]
      simp (decide := true) (disch := omega) only [v2, vc, t1, w23, w97, v3, wT, w28, zi300, zt300, zo300_0, zo300_1, zo300_2, zo300_4, zy_ldI, zy_ldL, zy_ldA, zy_stI, zy_stL, zy_stA, zy_cI, zy_cL, zy_nul, zy_inc, zy_bI, zy_bL, zy_sL, zy_un, zy_cmp, zy_dup, zy_dup2, zy_pop, zy_pop2, zy_jn, zy_jnn, zy_go, zy_fal, zy_tsw, zy_lsw, zy_get, zy_put, zy_ald, zy_ast, zy_len, zy_newa, zy_new, zy_cal, zy_ret, zy_tak, zy_cst, zy_acp, zy_oini, zy_cln, zy_thr, zy_bad, zy_lco, zy_if0, zy_ic0, zy_if1, zy_ic1, zy_if2, zy_ic2, zy_if3, zy_ic3, zy_if4, zy_ic4, zy_if5, zy_ic5, zK_go, zK_to, zK_end, zK_callH, zK_iteC, zK_none, zsLd, zsSt, zsInc, zsBI, zsBL, zsSL, zsUn, zsCmp, zsDup, zsDup2, zsPop, zsPop2, zsJn, zsTsw, zsLsw, zsGet, zsPut, zsAld, zsAst, zsLen, zsNewa, zsCal, zsRet, zsCst, zsAcp, zsOini, zsCln, zsLco, zsThr, zxBI, zxBL, zxSL, zxU, zset1, zset2, zclr, zcat, zmake_mk, zcomp, zH_i, zH_l, zH_r, zH_u, zH_n, List.set_cons_zero, List.set_cons_succ, List.getElem?_cons_zero, List.getElem?_cons_succ, List.length_cons, List.length_nil, List.take_succ_cons, List.take_zero, List.drop_succ_cons, List.drop_zero, List.reverse_cons, List.reverse_nil, List.nil_append, List.cons_append, List.map_cons, List.map_nil, List.sum_cons, List.sum_nil, Option.toList_some, Option.toList_none, Value.category, Nat.reduceAdd, Nat.reduceMul, Nat.reduceMod, Nat.reduceDiv, Nat.reduceSub, Nat.reduceLT, Nat.reduceLeDiff, Nat.reduceEqDiff, Nat.zero_le, Nat.le_refl, Int32.reduceToNatClampNeg, Int32.reduceLT, Int32.reduceLE, Int32.reduceAdd, Int32.reduceSub, Int32.reduceMul, ↓reduceIte, reduceCtorEq, Nat.add_zero, Nat.zero_add, true_or, or_true, false_or, or_false, true_and, and_true, false_and, and_false, not_true_eq_false, not_false_eq_true, if_true, if_false, true_implies, false_implies, implies_true, forall_const, false_imp_iff, true_imp_iff, va_rf, zlay, zent, List.replicate_zero, List.append_nil, List.replicate_succ, List.length_append, ne_eq, Option.some.injEq, Value.int.injEq, Value.long.injEq, Int32.reduceOfNat, Int32.reduceToInt, Int.reduceLT, Int.reduceLE, Int.reduceSub, Int.reduceToNat, Int.reduceAdd, Int.reduceNeg, Int32.reduceDiv, Int64.reduceAdd, Int64.reduceSub, lg_cmp_ge, lg_cmp_le, lg_cmp_gt, lg_cmp_lt, lg_cmp_eq, wlt_t, wlt_f, wle_t, wle_f, wmod, wI_lt, wI_le, wI_eq, wI_neg, wI_pos, wI_cl, wI_ge, wI_po, w64_lt, w64_le, w64_eq, w64_lt0, w64_le0, w64_eq0, w64_32, zc317, zc319, wI_add, wI_a1, wI_s1, wI_e0, wI_m8, wI_m128, wI_m64, wI_m190, not_true_eq_false, not_false_eq_true, sP_3118_22 hS, sP_3118_25 hS, sP_3118_26 hS, sP_3118_40 hS, sP_3118_41 hS, sP_3118_50 hS, sP_3118_51 hS, sN_3664 hS, sN_3697 hS, sN_3728 hS, sN_3825 hS, sN_3856 hS, sN_4048 hS, sN_4080 hS, sN_6417 hS]
      exact q
    | succ r ih =>
      intro i I2 J2 hi Ho
      obtain ⟨m1, m2, m3, m4, m5⟩ := mv Ho
      have v2 := m2 2 (by omega)
      have vc : I2 3856 (zWi Z 0 2) = nI (C (zWi Z 0 2)) := by
        have := (m1 _ k2).2.2.1
        unfold zCq at this
        rw [if_neg (by have := tx.2.2.2.1.1.1; omega)] at this
        exact this
      have t1 : ¬ nI (C (zWi Z 0 2)) ≤ nI i := by rw [wI_le (by omega) (by omega)]; omega
      have pa := fun (Q : Option Value → zS → Prop) => n266 (n := n) (z := z) (c := i) (x := nI i) hS D m1 k2 f4 (by omega) rfl Q
      obtain ⟨o1, o2, o3⟩ := out i (by omega)
      have c3 := zDt_end D o2 (by have := o1.1.1; omega)
      rw [o1.1.2.2] at c3
      rw [zo300_3]
      simp (decide := true) (disch := omega) only [v2, vc, t1, pa, zi300, zt300, zo300_0, zo300_1, zo300_2, zo300_4, zy_ldI, zy_ldL, zy_ldA, zy_stI, zy_stL, zy_stA, zy_cI, zy_cL, zy_nul, zy_inc, zy_bI, zy_bL, zy_sL, zy_un, zy_cmp, zy_dup, zy_dup2, zy_pop, zy_pop2, zy_jn, zy_jnn, zy_go, zy_fal, zy_tsw, zy_lsw, zy_get, zy_put, zy_ald, zy_ast, zy_len, zy_newa, zy_new, zy_cal, zy_ret, zy_tak, zy_cst, zy_acp, zy_oini, zy_cln, zy_thr, zy_bad, zy_lco, zy_if0, zy_ic0, zy_if1, zy_ic1, zy_if2, zy_ic2, zy_if3, zy_ic3, zy_if4, zy_ic4, zy_if5, zy_ic5, zK_go, zK_to, zK_end, zK_callH, zK_iteC, zK_none, zsLd, zsSt, zsInc, zsBI, zsBL, zsSL, zsUn, zsCmp, zsDup, zsDup2, zsPop, zsPop2, zsJn, zsTsw, zsLsw, zsGet, zsPut, zsAld, zsAst, zsLen, zsNewa, zsCal, zsRet, zsCst, zsAcp, zsOini, zsCln, zsLco, zsThr, zxBI, zxBL, zxSL, zxU, zset1, zset2, zclr, zcat, zmake_mk, zcomp, zH_i, zH_l, zH_r, zH_u, zH_n, List.set_cons_zero, List.set_cons_succ, List.getElem?_cons_zero, List.getElem?_cons_succ, List.length_cons, List.length_nil, List.take_succ_cons, List.take_zero, List.drop_succ_cons, List.drop_zero, List.reverse_cons, List.reverse_nil, List.nil_append, List.cons_append, List.map_cons, List.map_nil, List.sum_cons, List.sum_nil, Option.toList_some, Option.toList_none, Value.category, Nat.reduceAdd, Nat.reduceMul, Nat.reduceMod, Nat.reduceDiv, Nat.reduceSub, Nat.reduceLT, Nat.reduceLeDiff, Nat.reduceEqDiff, Nat.zero_le, Nat.le_refl, Int32.reduceToNatClampNeg, Int32.reduceLT, Int32.reduceLE, Int32.reduceAdd, Int32.reduceSub, Int32.reduceMul, ↓reduceIte, reduceCtorEq, Nat.add_zero, Nat.zero_add, true_or, or_true, false_or, or_false, true_and, and_true, false_and, and_false, not_true_eq_false, not_false_eq_true, if_true, if_false, true_implies, false_implies, implies_true, forall_const, false_imp_iff, true_imp_iff, va_rf, zlay, zent, List.replicate_zero, List.append_nil, List.replicate_succ, List.length_append, ne_eq, Option.some.injEq, Value.int.injEq, Value.long.injEq, Int32.reduceOfNat, Int32.reduceToInt, Int.reduceLT, Int.reduceLE, Int.reduceSub, Int.reduceToNat, Int.reduceAdd, Int.reduceNeg, Int32.reduceDiv, Int64.reduceAdd, Int64.reduceSub, lg_cmp_ge, lg_cmp_le, lg_cmp_gt, lg_cmp_lt, lg_cmp_eq, wlt_t, wlt_f, wle_t, wle_f, wmod, wI_lt, wI_le, wI_eq, wI_neg, wI_pos, wI_cl, wI_ge, wI_po, w64_lt, w64_le, w64_eq, w64_lt0, w64_le0, w64_eq0, w64_32, zc317, zc319, wI_add, wI_a1, wI_s1, wI_e0, wI_m8, wI_m128, wI_m64, wI_m190, not_true_eq_false, not_false_eq_true, sP_3118_22 hS, sP_3118_25 hS, sP_3118_26 hS, sP_3118_40 hS, sP_3118_41 hS, sP_3118_50 hS, sP_3118_51 hS, sN_3664 hS, sN_3697 hS, sN_3728 hS, sN_3825 hS, sN_3856 hS, sN_4048 hS, sN_4080 hS, sN_6417 hS]
      refine e299 (m := m + i) (h := hx) (sz := sz) hS D m1 (by rw [m5 38 (by decide)]; exact h38) o2 o3 hH' o1 Ho.2.1.2 (by omega) (by rw [m5 23 (by decide)]; exact h23) (hH (zWi Z (zWi Z (zWi Z 0 2) i) 3) (zWi Z (zWi Z (zWi Z 0 2) i) 3) (Nat.le_refl _) (by omega)).2 (fun j hj => by rw [m3 3151 (by omega)]; exact hb j hj) (fun I3 J3 om => ?_)
      have q := ih (i + 1) I3 J3 (by omega) (yAo_s o1.2.2.1.2.2 (by have := o1.2.2.2.2; omega) (fun o ho => ⟨(out o (by omega)).1.2.2.1.2.2, by have := (out o (by omega)).1.2.2.2.2; omega⟩) Ho om)
      simp (decide := true) (disch := omega) only [zi300, zt300, zo300_0, zo300_1, zo300_2, zo300_4, zy_ldI, zy_ldL, zy_ldA, zy_stI, zy_stL, zy_stA, zy_cI, zy_cL, zy_nul, zy_inc, zy_bI, zy_bL, zy_sL, zy_un, zy_cmp, zy_dup, zy_dup2, zy_pop, zy_pop2, zy_jn, zy_jnn, zy_go, zy_fal, zy_tsw, zy_lsw, zy_get, zy_put, zy_ald, zy_ast, zy_len, zy_newa, zy_new, zy_cal, zy_ret, zy_tak, zy_cst, zy_acp, zy_oini, zy_cln, zy_thr, zy_bad, zy_lco, zy_if0, zy_ic0, zy_if1, zy_ic1, zy_if2, zy_ic2, zy_if3, zy_ic3, zy_if4, zy_ic4, zy_if5, zy_ic5, zK_go, zK_to, zK_end, zK_callH, zK_iteC, zK_none, zsLd, zsSt, zsInc, zsBI, zsBL, zsSL, zsUn, zsCmp, zsDup, zsDup2, zsPop, zsPop2, zsJn, zsTsw, zsLsw, zsGet, zsPut, zsAld, zsAst, zsLen, zsNewa, zsCal, zsRet, zsCst, zsAcp, zsOini, zsCln, zsLco, zsThr, zxBI, zxBL, zxSL, zxU, zset1, zset2, zclr, zcat, zmake_mk, zcomp, zH_i, zH_l, zH_r, zH_u, zH_n, List.set_cons_zero, List.set_cons_succ, List.getElem?_cons_zero, List.getElem?_cons_succ, List.length_cons, List.length_nil, List.take_succ_cons, List.take_zero, List.drop_succ_cons, List.drop_zero, List.reverse_cons, List.reverse_nil, List.nil_append, List.cons_append, List.map_cons, List.map_nil, List.sum_cons, List.sum_nil, Option.toList_some, Option.toList_none, Value.category, Nat.reduceAdd, Nat.reduceMul, Nat.reduceMod, Nat.reduceDiv, Nat.reduceSub, Nat.reduceLT, Nat.reduceLeDiff, Nat.reduceEqDiff, Nat.zero_le, Nat.le_refl, Int32.reduceToNatClampNeg, Int32.reduceLT, Int32.reduceLE, Int32.reduceAdd, Int32.reduceSub, Int32.reduceMul, ↓reduceIte, reduceCtorEq, Nat.add_zero, Nat.zero_add, true_or, or_true, false_or, or_false, true_and, and_true, false_and, and_false, not_true_eq_false, not_false_eq_true, if_true, if_false, true_implies, false_implies, implies_true, forall_const, false_imp_iff, true_imp_iff, va_rf, zlay, zent, List.replicate_zero, List.append_nil, List.replicate_succ, List.length_append, ne_eq, Option.some.injEq, Value.int.injEq, Value.long.injEq, Int32.reduceOfNat, Int32.reduceToInt, Int.reduceLT, Int.reduceLE, Int.reduceSub, Int.reduceToNat, Int.reduceAdd, Int.reduceNeg, Int32.reduceDiv, Int64.reduceAdd, Int64.reduceSub, lg_cmp_ge, lg_cmp_le, lg_cmp_gt, lg_cmp_lt, lg_cmp_eq, wlt_t, wlt_f, wle_t, wle_f, wmod, wI_lt, wI_le, wI_eq, wI_neg, wI_pos, wI_cl, wI_ge, wI_po, w64_lt, w64_le, w64_eq, w64_lt0, w64_le0, w64_eq0, w64_32, zc317, zc319, wI_add, wI_a1, wI_s1, wI_e0, wI_m8, wI_m128, wI_m64, wI_m190, not_true_eq_false, not_false_eq_true, sP_3118_22 hS, sP_3118_25 hS, sP_3118_26 hS, sP_3118_40 hS, sP_3118_41 hS, sP_3118_50 hS, sP_3118_51 hS, sN_3664 hS, sN_3697 hS, sN_3728 hS, sN_3825 hS, sN_3856 hS, sN_4048 hS, sN_4080 hS, sN_6417 hS]
      exact q
  have la : ∀ r i (I1 : zI), i + r = C (zWi Z 0 0) → (∀ c, c ≠ 3664 → I1 c = I c) → I1 3664 = ySpd (I 3664) ia hx i → zQ zt300 zo300_1 [some (.ref 3118), some (.int (nI i))] [] (I1, J, P, N, n, z) Q := by
    intro r
    induction r with
    | zero =>
      intro i I1 hi f1 s1
      obtain rfl : i = C (zWi Z 0 0) := by omega
      have v52 : I1 3118 52 = nI (C (zWi Z 0 0)) := by rw [f1 3118 (by decide)]; exact hn.1
      have t1 : (nI (C (zWi Z 0 0)) ≤ nI (C (zWi Z 0 0))) = True := eq_true (Int32.le_refl _)
      have q := key I1 f1 s1 (C (zWi Z 0 2)) 0 I1 J (by omega) ⟨⟨fun _ _ _ _ _ _ _ _ _ => rfl, fun _ _ _ => rfl⟩, ⟨fun _ _ => rfl, by rw [f1 3118 (by decide)]; exact h11⟩, fun _ _ => ⟨rfl, rfl, rfl, rfl, rfl⟩, fun _ _ => ⟨rfl, rfl, rfl⟩, fun _ _ => rfl, fun o ho => by omega⟩
      rw [e0] at q
      rw [zo300_1]
      simp (decide := true) (disch := omega) only [v52, t1, zi300, zt300, zo300_0, zo300_2, zo300_4, zy_ldI, zy_ldL, zy_ldA, zy_stI, zy_stL, zy_stA, zy_cI, zy_cL, zy_nul, zy_inc, zy_bI, zy_bL, zy_sL, zy_un, zy_cmp, zy_dup, zy_dup2, zy_pop, zy_pop2, zy_jn, zy_jnn, zy_go, zy_fal, zy_tsw, zy_lsw, zy_get, zy_put, zy_ald, zy_ast, zy_len, zy_newa, zy_new, zy_cal, zy_ret, zy_tak, zy_cst, zy_acp, zy_oini, zy_cln, zy_thr, zy_bad, zy_lco, zy_if0, zy_ic0, zy_if1, zy_ic1, zy_if2, zy_ic2, zy_if3, zy_ic3, zy_if4, zy_ic4, zy_if5, zy_ic5, zK_go, zK_to, zK_end, zK_callH, zK_iteC, zK_none, zsLd, zsSt, zsInc, zsBI, zsBL, zsSL, zsUn, zsCmp, zsDup, zsDup2, zsPop, zsPop2, zsJn, zsTsw, zsLsw, zsGet, zsPut, zsAld, zsAst, zsLen, zsNewa, zsCal, zsRet, zsCst, zsAcp, zsOini, zsCln, zsLco, zsThr, zxBI, zxBL, zxSL, zxU, zset1, zset2, zclr, zcat, zmake_mk, zcomp, zH_i, zH_l, zH_r, zH_u, zH_n, List.set_cons_zero, List.set_cons_succ, List.getElem?_cons_zero, List.getElem?_cons_succ, List.length_cons, List.length_nil, List.take_succ_cons, List.take_zero, List.drop_succ_cons, List.drop_zero, List.reverse_cons, List.reverse_nil, List.nil_append, List.cons_append, List.map_cons, List.map_nil, List.sum_cons, List.sum_nil, Option.toList_some, Option.toList_none, Value.category, Nat.reduceAdd, Nat.reduceMul, Nat.reduceMod, Nat.reduceDiv, Nat.reduceSub, Nat.reduceLT, Nat.reduceLeDiff, Nat.reduceEqDiff, Nat.zero_le, Nat.le_refl, Int32.reduceToNatClampNeg, Int32.reduceLT, Int32.reduceLE, Int32.reduceAdd, Int32.reduceSub, Int32.reduceMul, ↓reduceIte, reduceCtorEq, Nat.add_zero, Nat.zero_add, true_or, or_true, false_or, or_false, true_and, and_true, false_and, and_false, not_true_eq_false, not_false_eq_true, if_true, if_false, true_implies, false_implies, implies_true, forall_const, false_imp_iff, true_imp_iff, va_rf, zlay, zent, List.replicate_zero, List.append_nil, List.replicate_succ, List.length_append, ne_eq, Option.some.injEq, Value.int.injEq, Value.long.injEq, Int32.reduceOfNat, Int32.reduceToInt, Int.reduceLT, Int.reduceLE, Int.reduceSub, Int.reduceToNat, Int.reduceAdd, Int.reduceNeg, Int32.reduceDiv, Int64.reduceAdd, Int64.reduceSub, lg_cmp_ge, lg_cmp_le, lg_cmp_gt, lg_cmp_lt, lg_cmp_eq, wlt_t, wlt_f, wle_t, wle_f, wmod, wI_lt, wI_le, wI_eq, wI_neg, wI_pos, wI_cl, wI_ge, wI_po, w64_lt, w64_le, w64_eq, w64_lt0, w64_le0, w64_eq0, w64_32, zc317, zc319, wI_add, wI_a1, wI_s1, wI_e0, wI_m8, wI_m128, wI_m64, wI_m190, not_true_eq_false, not_false_eq_true, sP_3118_22 hS, sP_3118_25 hS, sP_3118_26 hS, sP_3118_40 hS, sP_3118_41 hS, sP_3118_50 hS, sP_3118_51 hS, sN_3664 hS, sN_3697 hS, sN_3728 hS, sN_3825 hS, sN_3856 hS, sN_4048 hS, sN_4080 hS, sN_6417 hS]
      exact q
    | succ r ih =>
      intro i I1 hi f1 s1
      have v52 : I1 3118 52 = nI (C (zWi Z 0 0)) := by rw [f1 3118 (by decide)]; exact hn.1
      have t1 : ¬ nI (C (zWi Z 0 0)) ≤ nI i := by rw [wI_le (by omega) (by omega)]; omega
      have w1 : I1 4080 i = nI (ia i) := by rw [f1 4080 (by decide)]; exact hn.2.2.1 i (by omega)
      have w2 : I1 3118 23 = nI hx := by rw [f1 3118 (by decide)]; exact h23
      have him := hia i (by omega)
      have q := ih (i + 1) (zu I1 3664 (ia i) (nI hx)) (by omega) (fun c hc => by rw [zuR_ne hc]; exact f1 c hc) (by
        funext k
        show _ = if k = ia i then nI hx else ySpd (I 3664) ia hx i k
        by_cases e : k = ia i
        · rw [if_pos e, e, zu_at]
        · rw [if_neg e, zu_nj e, s1])
      rw [zo300_1]
      simp (decide := true) (disch := omega) only [v52, t1, w1, w2, zi300, zt300, zo300_0, zo300_2, zo300_4, zy_ldI, zy_ldL, zy_ldA, zy_stI, zy_stL, zy_stA, zy_cI, zy_cL, zy_nul, zy_inc, zy_bI, zy_bL, zy_sL, zy_un, zy_cmp, zy_dup, zy_dup2, zy_pop, zy_pop2, zy_jn, zy_jnn, zy_go, zy_fal, zy_tsw, zy_lsw, zy_get, zy_put, zy_ald, zy_ast, zy_len, zy_newa, zy_new, zy_cal, zy_ret, zy_tak, zy_cst, zy_acp, zy_oini, zy_cln, zy_thr, zy_bad, zy_lco, zy_if0, zy_ic0, zy_if1, zy_ic1, zy_if2, zy_ic2, zy_if3, zy_ic3, zy_if4, zy_ic4, zy_if5, zy_ic5, zK_go, zK_to, zK_end, zK_callH, zK_iteC, zK_none, zsLd, zsSt, zsInc, zsBI, zsBL, zsSL, zsUn, zsCmp, zsDup, zsDup2, zsPop, zsPop2, zsJn, zsTsw, zsLsw, zsGet, zsPut, zsAld, zsAst, zsLen, zsNewa, zsCal, zsRet, zsCst, zsAcp, zsOini, zsCln, zsLco, zsThr, zxBI, zxBL, zxSL, zxU, zset1, zset2, zclr, zcat, zmake_mk, zcomp, zH_i, zH_l, zH_r, zH_u, zH_n, List.set_cons_zero, List.set_cons_succ, List.getElem?_cons_zero, List.getElem?_cons_succ, List.length_cons, List.length_nil, List.take_succ_cons, List.take_zero, List.drop_succ_cons, List.drop_zero, List.reverse_cons, List.reverse_nil, List.nil_append, List.cons_append, List.map_cons, List.map_nil, List.sum_cons, List.sum_nil, Option.toList_some, Option.toList_none, Value.category, Nat.reduceAdd, Nat.reduceMul, Nat.reduceMod, Nat.reduceDiv, Nat.reduceSub, Nat.reduceLT, Nat.reduceLeDiff, Nat.reduceEqDiff, Nat.zero_le, Nat.le_refl, Int32.reduceToNatClampNeg, Int32.reduceLT, Int32.reduceLE, Int32.reduceAdd, Int32.reduceSub, Int32.reduceMul, ↓reduceIte, reduceCtorEq, Nat.add_zero, Nat.zero_add, true_or, or_true, false_or, or_false, true_and, and_true, false_and, and_false, not_true_eq_false, not_false_eq_true, if_true, if_false, true_implies, false_implies, implies_true, forall_const, false_imp_iff, true_imp_iff, va_rf, zlay, zent, List.replicate_zero, List.append_nil, List.replicate_succ, List.length_append, ne_eq, Option.some.injEq, Value.int.injEq, Value.long.injEq, Int32.reduceOfNat, Int32.reduceToInt, Int.reduceLT, Int.reduceLE, Int.reduceSub, Int.reduceToNat, Int.reduceAdd, Int.reduceNeg, Int32.reduceDiv, Int64.reduceAdd, Int64.reduceSub, lg_cmp_ge, lg_cmp_le, lg_cmp_gt, lg_cmp_lt, lg_cmp_eq, wlt_t, wlt_f, wle_t, wle_f, wmod, wI_lt, wI_le, wI_eq, wI_neg, wI_pos, wI_cl, wI_ge, wI_po, w64_lt, w64_le, w64_eq, w64_lt0, w64_le0, w64_eq0, w64_32, zc317, zc319, wI_add, wI_a1, wI_s1, wI_e0, wI_m8, wI_m128, wI_m64, wI_m190, not_true_eq_false, not_false_eq_true, sP_3118_22 hS, sP_3118_25 hS, sP_3118_26 hS, sP_3118_40 hS, sP_3118_41 hS, sP_3118_50 hS, sP_3118_51 hS, sN_3664 hS, sN_3697 hS, sN_3728 hS, sN_3825 hS, sN_3856 hS, sN_4048 hS, sN_4080 hS, sN_6417 hS]
      exact q
  have q := la (C (zWi Z 0 0)) 0 I (by omega) (fun _ _ => rfl) rfl
  rw [e0] at q
  simp (decide := true) (disch := omega) only [zi300, zt300, zo300_0, zo300_2, zo300_4, zy_ldI, zy_ldL, zy_ldA, zy_stI, zy_stL, zy_stA, zy_cI, zy_cL, zy_nul, zy_inc, zy_bI, zy_bL, zy_sL, zy_un, zy_cmp, zy_dup, zy_dup2, zy_pop, zy_pop2, zy_jn, zy_jnn, zy_go, zy_fal, zy_tsw, zy_lsw, zy_get, zy_put, zy_ald, zy_ast, zy_len, zy_newa, zy_new, zy_cal, zy_ret, zy_tak, zy_cst, zy_acp, zy_oini, zy_cln, zy_thr, zy_bad, zy_lco, zy_if0, zy_ic0, zy_if1, zy_ic1, zy_if2, zy_ic2, zy_if3, zy_ic3, zy_if4, zy_ic4, zy_if5, zy_ic5, zK_go, zK_to, zK_end, zK_callH, zK_iteC, zK_none, zsLd, zsSt, zsInc, zsBI, zsBL, zsSL, zsUn, zsCmp, zsDup, zsDup2, zsPop, zsPop2, zsJn, zsTsw, zsLsw, zsGet, zsPut, zsAld, zsAst, zsLen, zsNewa, zsCal, zsRet, zsCst, zsAcp, zsOini, zsCln, zsLco, zsThr, zxBI, zxBL, zxSL, zxU, zset1, zset2, zclr, zcat, zmake_mk, zcomp, zH_i, zH_l, zH_r, zH_u, zH_n, List.set_cons_zero, List.set_cons_succ, List.getElem?_cons_zero, List.getElem?_cons_succ, List.length_cons, List.length_nil, List.take_succ_cons, List.take_zero, List.drop_succ_cons, List.drop_zero, List.reverse_cons, List.reverse_nil, List.nil_append, List.cons_append, List.map_cons, List.map_nil, List.sum_cons, List.sum_nil, Option.toList_some, Option.toList_none, Value.category, Nat.reduceAdd, Nat.reduceMul, Nat.reduceMod, Nat.reduceDiv, Nat.reduceSub, Nat.reduceLT, Nat.reduceLeDiff, Nat.reduceEqDiff, Nat.zero_le, Nat.le_refl, Int32.reduceToNatClampNeg, Int32.reduceLT, Int32.reduceLE, Int32.reduceAdd, Int32.reduceSub, Int32.reduceMul, ↓reduceIte, reduceCtorEq, Nat.add_zero, Nat.zero_add, true_or, or_true, false_or, or_false, true_and, and_true, false_and, and_false, not_true_eq_false, not_false_eq_true, if_true, if_false, true_implies, false_implies, implies_true, forall_const, false_imp_iff, true_imp_iff, va_rf, zlay, zent, List.replicate_zero, List.append_nil, List.replicate_succ, List.length_append, ne_eq, Option.some.injEq, Value.int.injEq, Value.long.injEq, Int32.reduceOfNat, Int32.reduceToInt, Int.reduceLT, Int.reduceLE, Int.reduceSub, Int.reduceToNat, Int.reduceAdd, Int.reduceNeg, Int32.reduceDiv, Int64.reduceAdd, Int64.reduceSub, lg_cmp_ge, lg_cmp_le, lg_cmp_gt, lg_cmp_lt, lg_cmp_eq, wlt_t, wlt_f, wle_t, wle_f, wmod, wI_lt, wI_le, wI_eq, wI_neg, wI_pos, wI_cl, wI_ge, wI_po, w64_lt, w64_le, w64_eq, w64_lt0, w64_le0, w64_eq0, w64_32, zc317, zc319, wI_add, wI_a1, wI_s1, wI_e0, wI_m8, wI_m128, wI_m64, wI_m190, not_true_eq_false, not_false_eq_true, sP_3118_22 hS, sP_3118_25 hS, sP_3118_26 hS, sP_3118_40 hS, sP_3118_41 hS, sP_3118_50 hS, sP_3118_51 hS, sN_3664 hS, sN_3697 hS, sN_3728 hS, sN_3825 hS, sN_3856 hS, sN_4048 hS, sN_4080 hS, sN_6417 hS]
  exact q
end
