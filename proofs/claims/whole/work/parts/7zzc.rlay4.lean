-- needs: 01 02.names 03 04 05 18 19 20 22 23 24 25 30 31 32 33 35 36 37 40 42 43 44 45 46 47 60 61 62 63 64 65 66 67 68 69 79f 79g 79h 79i 79j 79k 79l 79m 79n 79o 79p 79q 79r 79s 79t 79u 79v 79w 79x 79y 79z. 79za 79zb 79zc 79zd 79ze 79zf 79zg 79zh 79zi 79zj 79zk 79zl 79zm 79zn 79zo 79zp 79zq 79zr 79zs 79zt 79zu 79zv 7a 7b 7c 7d 7e 7f 7g 7zl 7zm 7zn 7zo 7h 7i 7j 7k 7l 7m 7n 7o 7p 7q 7r 7zj 7zk 7zp 7zq 7zr 7zs 7zt 7zu 79zw 7s 7t 7u 7v 7w 7x 7y 7z. 7za 7zb 7zc 7zd 7ze 7zf 7zg 7zh 7zi 7zv 7zw 7zx 7zy 7zz. 7zza 7zzb
/-! A script with what it is applied to, laid by the reference -/
section
variable {Ks zs ls ws Wd : Nat → Nat} {Vs : Nat → Int64} {Yb : Nat → Nat → Int32} {K ap : Nat}
theorem yu_t (h : ySc Ks zs ls ws Vs Wd Yb K) : ∀ zz i, zs i ≤ zz → i < K → ws i ≤ i + 1 → (∀ j, i ≤ j → j < i + zs i → ws j ≤ j + 1) ∧ ∀ m, i + 1 - ws i ≤ m → m < i + 1 - ws i + zs i → ∃ j, i ≤ j ∧ j < i + zs i ∧ yu zs ws j = m := by
  intro zz
  induction zz with
  | zero => intro i hz hi; have := (h.2 i hi).1.1; omega
  | succ zz ih =>
    intro i hz hi hw
    obtain ⟨⟨a1, a2, a3, a4, a5⟩, b0, b1, b3, b2, b5, -⟩ := h.2 i hi
    have self : ∀ m, m = i + zs i - ws i → ∃ j, i ≤ j ∧ j < i + zs i ∧ yu zs ws j = m := fun m hm => ⟨i, Nat.le_refl _, by omega, hm.symm⟩
    by_cases k2 : Ks i = 2
    · obtain ⟨c1, c2, c3, c4, c5, c6, c7⟩ := b2 k2
      obtain ⟨r1, s1⟩ := ih (i + 1) (by omega) (by omega) (by omega)
      obtain ⟨r2, s2⟩ := ih (i + 1 + zs (i + 1)) (by omega) (by omega) (by omega)
      refine ⟨fun j h1 h2 => ?_, fun m h1 h2 => ?_⟩
      · by_cases e1 : j = i
        · rw [e1]; exact hw
        · by_cases e2 : j < i + 1 + zs (i + 1)
          · exact r1 j (by omega) e2
          · exact r2 j (by omega) (by omega)
      · by_cases e1 : m = i + zs i - ws i
        · exact self m e1
        · by_cases e2 : m < i + 1 - ws i + zs (i + 1)
          · obtain ⟨j, j1, j2, j3⟩ := s1 m (by omega) (by omega)
            exact ⟨j, by omega, by omega, j3⟩
          · obtain ⟨j, j1, j2, j3⟩ := s2 m (by omega) (by omega)
            exact ⟨j, by omega, by omega, j3⟩
    · by_cases k1 : Ks i = 1 ∨ Ks i = 3 ∨ Ks i = 4
      · obtain ⟨c1, c2, c4⟩ : zs i = 1 + zs (i + 1) ∧ 1 ≤ zs (i + 1) ∧ ws (i + 1) = ws i + 1 := by
          rcases k1 with h | h | h
          · obtain ⟨x1, x2, x3, x4⟩ := b1 h; exact ⟨x1, x2, x4⟩
          · obtain ⟨x1, x2, x3, x4⟩ := b3 (Or.inl h); exact ⟨x1, x2, x4⟩
          · obtain ⟨x1, x2, x3, x4⟩ := b3 (Or.inr h); exact ⟨x1, x2, x4⟩
        obtain ⟨r1, s1⟩ := ih (i + 1) (by omega) (by omega) (by omega)
        refine ⟨fun j h1 h2 => ?_, fun m h1 h2 => ?_⟩
        · by_cases e1 : j = i
          · rw [e1]; exact hw
          · exact r1 j (by omega) (by omega)
        · by_cases e1 : m = i + zs i - ws i
          · exact self m e1
          · obtain ⟨j, j1, j2, j3⟩ := s1 m (by omega) (by omega)
            exact ⟨j, by omega, by omega, j3⟩
      · have z1 : zs i = 1 := by
          by_cases h0 : Ks i = 0
          · exact (b0 h0).1
          · exact b5 (by omega)
        exact ⟨fun j h1 h2 => by rw [show j = i by omega]; exact hw, fun m h1 h2 => self m (by omega)⟩
/-- levels, and numbers of what is within -/
theorem yu_w (h : ySc Ks zs ls ws Vs Wd Yb K) {j : Nat} (hj : j < K) : ws j ≤ j + 1 ∧ yu zs ws j < K := by
  have h0 := h.1
  have w := (yu_t h K 0 (by omega) (by omega) (by omega)).1 j (Nat.zero_le _) (by omega)
  have := (h.2 j hj).1
  refine ⟨w, ?_⟩
  unfold yu
  by_cases hj0 : j = 0
  · subst hj0; omega
  · omega
theorem yu_s (h : ySc Ks zs ls ws Vs Wd Yb K) {m : Nat} (hm : m < K) : ∃ j, j < K ∧ yu zs ws j = m := by
  have h0 := h.1
  obtain ⟨j, -, j2, j3⟩ := (yu_t h K 0 (by omega) (by omega) (by omega)).2 m (by omega) (by omega)
  exact ⟨j, by omega, j3⟩
/-- the numbers of all nodes of a run -/
def yun (zs ws : Nat → Nat) (ap K i : Nat) : Nat := if i < ap then K + 2 * (ap - 1 - i) + 1 else if i < ap + K then yu zs ws (i - ap) else K + 2 * (ap - 1 - (i - (ap + K)))
theorem yun_a {i : Nat} (h : i < ap) : yun zs ws ap K i = K + 2 * (ap - 1 - i) + 1 := if_pos h
theorem yun_s {j : Nat} (h : j < K) : yun zs ws ap K (ap + j) = yu zs ws j := by unfold yun; rw [if_neg (by omega), if_pos (by omega), show ap + j - ap = j by omega]
theorem yun_d {j : Nat} : yun zs ws ap K (ap + K + j) = K + 2 * (ap - 1 - j) := by unfold yun; rw [if_neg (by omega), if_neg (by omega), show ap + K + j - (ap + K) = j by omega]
end
/-- nodes as the reference has them for a run; kinds are ours but 12 for DATA -/
def yRl (Ks zs ws Wd : Nat → Nat) (Vs : Nat → Int64) (Yb : Nat → Nat → Int32) (I : zI) (J : zJ) (K a g : Nat) : Prop :=
  (∀ j, j < K → yLr Ks zs ws Wd Vs Yb I J j) ∧ (∀ i, i < g → (I 4944 (K + 2 * i) = 12 ∧ J 4977 (K + 2 * i) = (nI (a + i)).toInt64 ∧ I 5008 (K + 2 * i) = -1 ∧ I 5040 (K + 2 * i) = -1) ∧ I 4944 (K + 2 * i + 1) = 2 ∧ J 4977 (K + 2 * i + 1) = 0 ∧ I 5008 (K + 2 * i + 1) = nI (K + 2 * i - 1) ∧ I 5040 (K + 2 * i + 1) = nI (K + 2 * i)) ∧ (I 4908 7 = nI (K + 2 * g) ∧ I 4908 9 = nI 1 ∧ I 5136 0 = nI (K + 2 * g - 1) ∧ I 5072 (K + 2 * g - 1) = nI (K + 2 * g))
section
variable {I I' : zI} {J J' : zJ} {P : zP} {N : Nat → Nat} {n z p q : Nat} {Q : Option Value → zS → Prop} {Ks zs ls ws Wd : Nat → Nat} {Vs : Nat → Int64} {Yb : Nat → Nat → Int32} {K ap : Nat}
set_option maxRecDepth 20000 in
set_option maxHeartbeats 4000000 in
theorem e185 {t : Nat} {tt : Int32} (hS : zStat P N) (ht : tt = nI t) (h7 : I 4908 7 = nI p) (h9 : I 4908 9 = nI q) (hp : p < 200) (hq : q < 200) (hQ : ∀ I' J', yN1 I J I' J' p q 12 (-1) (-1) (nI t).toInt64 1 → Q (some (.int (nI (q + 1)))) (I', J', P, N, n, z)) : zC 185 [.ref 4908, .int tt] (I, J, P, N, n, z) Q := by
  subst ht
  simp (decide := true) (disch := omega) only [h7, h9, zuR_ne, zu_nj, zu_at, zi185, zt185, zo185_0, zy_ldI, zy_ldL, zy_ldA, zy_stI, zy_stL, zy_stA, zy_cI, zy_cL, zy_nul, zy_inc, zy_bI, zy_bL, zy_sL, zy_un, zy_cmp, zy_dup, zy_dup2, zy_pop, zy_pop2, zy_jn, zy_jnn, zy_go, zy_fal, zy_tsw, zy_lsw, zy_get, zy_put, zy_ald, zy_ast, zy_len, zy_newa, zy_new, zy_cal, zy_ret, zy_tak, zy_cst, zy_acp, zy_oini, zy_cln, zy_thr, zy_bad, zy_lco, zy_if0, zy_ic0, zy_if1, zy_ic1, zy_if2, zy_ic2, zy_if3, zy_ic3, zy_if4, zy_ic4, zy_if5, zy_ic5, zK_go, zK_to, zK_end, zK_callH, zK_iteC, zK_none, zsLd, zsSt, zsInc, zsBI, zsBL, zsSL, zsUn, zsCmp, zsDup, zsDup2, zsPop, zsPop2, zsJn, zsTsw, zsLsw, zsGet, zsPut, zsAld, zsAst, zsLen, zsNewa, zsCal, zsRet, zsCst, zsAcp, zsOini, zsCln, zsLco, zsThr, zxBI, zxBL, zxSL, zxU, zset1, zset2, zclr, zcat, zmake_mk, zcomp, zH_i, zH_l, zH_r, zH_u, zH_n, List.set_cons_zero, List.set_cons_succ, List.getElem?_cons_zero, List.getElem?_cons_succ, List.length_cons, List.length_nil, List.take_succ_cons, List.take_zero, List.drop_succ_cons, List.drop_zero, List.reverse_cons, List.reverse_nil, List.nil_append, List.cons_append, List.map_cons, List.map_nil, List.sum_cons, List.sum_nil, Option.toList_some, Option.toList_none, Value.category, Nat.reduceAdd, Nat.reduceMul, Nat.reduceMod, Nat.reduceDiv, Nat.reduceSub, Nat.reduceLT, Nat.reduceLeDiff, Nat.reduceEqDiff, Nat.zero_le, Nat.le_refl, Int32.reduceToNatClampNeg, Int32.reduceLT, Int32.reduceLE, Int32.reduceAdd, Int32.reduceSub, Int32.reduceMul, ↓reduceIte, reduceCtorEq, Nat.add_zero, Nat.zero_add, true_or, or_true, false_or, or_false, true_and, and_true, false_and, and_false, not_true_eq_false, not_false_eq_true, if_true, if_false, true_implies, false_implies, implies_true, forall_const, false_imp_iff, true_imp_iff, va_rf, zlay, zent, List.replicate_zero, List.append_nil, List.replicate_succ, List.length_append, ne_eq, Option.some.injEq, Value.int.injEq, Value.long.injEq, Int32.reduceOfNat, Int32.reduceToInt, Int.reduceLT, Int.reduceLE, Int.reduceSub, Int.reduceToNat, Int.reduceAdd, Int.reduceNeg, Int32.reduceDiv, Int64.reduceAdd, Int64.reduceSub, lg_cmp_ge, lg_cmp_le, lg_cmp_gt, lg_cmp_lt, lg_cmp_eq, wlt_t, wlt_f, wle_t, wle_f, wmod, wI_lt, wI_le, wI_eq, wI_neg, wI_pos, wI_cl, wI_ge, wI_po, w64_lt, w64_le, w64_eq, w64_lt0, w64_le0, w64_eq0, w64_32, zc317, zc319, wI_add, wI_a1, wI_s1, wI_e0, wI_m8, wI_m128, wI_m64, wI_m190, not_true_eq_false, not_false_eq_true, sP_4908_1 hS, sP_4908_2 hS, sP_4908_3 hS, sP_4908_4 hS, sP_4908_5 hS, sP_4908_8 hS, sN_4944 hS, sN_4977 hS, sN_5008 hS, sN_5040 hS, sN_5072 hS, sN_5136 hS, sN_6417 hS]
  refine hQ _ _ ⟨⟨fun c a1 a2 a3 a4 a5 a6 a7 => ?_, fun j a1 a2 a3 => ?_, fun c a1 => ?_⟩, ⟨fun j hj => ⟨?_, ?_, ?_, ?_, ?_⟩, fun j hj => ?_, fun j hj => ?_⟩, ⟨?_, ?_⟩, ?_, ?_, ?_, ?_, ?_, ?_⟩
  all_goals simp (disch := omega) only [zuR_ne, zu_nj, zu_at]
  all_goals try rfl
/-- frame of laying nodes only -/
def yLq (I : zI) (J : zJ) (I' : zI) (J' : zJ) : Prop := (∀ c, c ≠ 4908 → c ≠ 4944 → c ≠ 5008 → c ≠ 5040 → c ≠ 5072 → c ≠ 5103 → c ≠ 5136 → c ≠ 6128 → c ≠ 6160 → I' c = I c) ∧ (∀ j, j ≠ 0 → j ≠ 7 → j ≠ 9 → I' 4908 j = I 4908 j) ∧ ∀ c, c ≠ 4977 → J' c = J c
theorem yLq_t {I'' : zI} {J'' : zJ} (h : yLq I J I' J') (h' : yLq I' J' I'' J'') : yLq I J I'' J'' := ⟨fun c x1 x2 x3 x4 x5 x6 x7 x8 x9 => (h'.1 c x1 x2 x3 x4 x5 x6 x7 x8 x9).trans (h.1 c x1 x2 x3 x4 x5 x6 x7 x8 x9), fun j x1 x2 x3 => (h'.2.1 j x1 x2 x3).trans (h.2.1 j x1 x2 x3), fun c x => (h'.2.2 c x).trans (h.2.2 c x)⟩
theorem yLq_n {k f1 f2 : Int32} {v : Int64} {zz : Nat} (h : yN1 I J I' J' p q k f1 f2 v zz) : yLq I J I' J' := ⟨fun c x1 x2 x3 x4 x5 x6 x7 _ _ => h.1.1 c x1 x2 x3 x4 x5 x6 x7, h.1.2.1, h.1.2.2⟩
theorem yRl_s (hsc : ySc Ks zs ls ws Vs Wd Yb K) {a g : Nat} {k f1 f2 : Int32} {v : Int64} {zz : Nat} (hp : K + 2 * g ≤ p) (nd : yN1 I J I' J' p q k f1 f2 v zz) (h1 : ∀ j, j < K → yLr Ks zs ws Wd Vs Yb I J j) (h2 : ∀ i, i < g → (I 4944 (K + 2 * i) = 12 ∧ J 4977 (K + 2 * i) = (nI (a + i)).toInt64 ∧ I 5008 (K + 2 * i) = -1 ∧ I 5040 (K + 2 * i) = -1) ∧ I 4944 (K + 2 * i + 1) = 2 ∧ J 4977 (K + 2 * i + 1) = 0 ∧ I 5008 (K + 2 * i + 1) = nI (K + 2 * i - 1) ∧ I 5040 (K + 2 * i + 1) = nI (K + 2 * i)) :
    (∀ j, j < K → yLr Ks zs ws Wd Vs Yb I' J' j) ∧ ∀ i, i < g → (I' 4944 (K + 2 * i) = 12 ∧ J' 4977 (K + 2 * i) = (nI (a + i)).toInt64 ∧ I' 5008 (K + 2 * i) = -1 ∧ I' 5040 (K + 2 * i) = -1) ∧ I' 4944 (K + 2 * i + 1) = 2 ∧ J' 4977 (K + 2 * i + 1) = 0 ∧ I' 5008 (K + 2 * i + 1) = nI (K + 2 * i - 1) ∧ I' 5040 (K + 2 * i + 1) = nI (K + 2 * i) := by
  obtain ⟨-, ⟨b1, b2, b3⟩, -⟩ := nd
  refine ⟨fun j hj => ?_, fun i hi => ?_⟩
  · have ul := (yu_w hsc hj).2
    have r3 := h1 j hj
    unfold yLr at r3 ⊢
    obtain ⟨e1, e2, e3, e4, e5⟩ := b1 (yu zs ws j) (by omega)
    rw [e1, e2, e3, e4, e5]
    refine ⟨r3.1, r3.2.1, r3.2.2.1, r3.2.2.2.1, r3.2.2.2.2.1, r3.2.2.2.2.2.1, r3.2.2.2.2.2.2.1, fun h8 b hb => ?_⟩
    have := ((hsc.2 j hj).2.2.2.2.2.2.2.2.2 h8).1
    rw [b3 _ (by omega)]
    exact r3.2.2.2.2.2.2.2 h8 b hb
  · obtain ⟨e1, e2, e3, e4, e5⟩ := b1 (K + 2 * i) (by omega)
    obtain ⟨d1, d2, d3, d4, d5⟩ := b1 (K + 2 * i + 1) (by omega)
    rw [e1, e2, e3, e5, d1, d2, d3, d5]
    exact h2 i hi
set_option maxRecDepth 20000 in
set_option maxHeartbeats 4000000 in
/-- one more it is applied to -/
theorem s297 {a g : Nat} {x1 x2 x3 x4 x5 : Int32} {u7 : Option Value} (hS : zStat P N) (hsc : ySc Ks zs ls ws Vs Wd Yb K) (ha : a + g < 3) (hg : g < 3) (h : yRl Ks zs ws Wd Vs Yb I J K a g) (hQ : ∀ I' J' v7, yLq I J I' J' → yRl Ks zs ws Wd Vs Yb I' J' K a (g + 1) → zQ zt297 zo297_4 [some (.ref 3118), some (.int x1), some (.int x2), some (.int x3), some (.int x4), some (.int x5), some (.int (nI (a + (g + 1)))), v7] [] (I', J', P, N, n, z) Q) : zQ zt297 zo297_4 [some (.ref 3118), some (.int x1), some (.int x2), some (.int x3), some (.int x4), some (.int x5), some (.int (nI (a + g))), u7] [] (I, J, P, N, n, z) Q := by
  have hK := hsc.1
  obtain ⟨h1, h2, h3, h4, h5, h6⟩ := h
  have c3 : (3 ≤ nI (a + g)) = (3 ≤ a + g) := wI_gec (c := 3)
  rw [zo297_4]
  simp (decide := true) (disch := omega) only [c3, zi297, zt297, zo297_0, zo297_1, zo297_2, zo297_3, zo297_5, zy_ldI, zy_ldL, zy_ldA, zy_stI, zy_stL, zy_stA, zy_cI, zy_cL, zy_nul, zy_inc, zy_bI, zy_bL, zy_sL, zy_un, zy_cmp, zy_dup, zy_dup2, zy_pop, zy_pop2, zy_jn, zy_jnn, zy_go, zy_fal, zy_tsw, zy_lsw, zy_get, zy_put, zy_ald, zy_ast, zy_len, zy_newa, zy_new, zy_cal, zy_ret, zy_tak, zy_cst, zy_acp, zy_oini, zy_cln, zy_thr, zy_bad, zy_lco, zy_if0, zy_ic0, zy_if1, zy_ic1, zy_if2, zy_ic2, zy_if3, zy_ic3, zy_if4, zy_ic4, zy_if5, zy_ic5, zK_go, zK_to, zK_end, zK_callH, zK_iteC, zK_none, zsLd, zsSt, zsInc, zsBI, zsBL, zsSL, zsUn, zsCmp, zsDup, zsDup2, zsPop, zsPop2, zsJn, zsTsw, zsLsw, zsGet, zsPut, zsAld, zsAst, zsLen, zsNewa, zsCal, zsRet, zsCst, zsAcp, zsOini, zsCln, zsLco, zsThr, zxBI, zxBL, zxSL, zxU, zset1, zset2, zclr, zcat, zmake_mk, zcomp, zH_i, zH_l, zH_r, zH_u, zH_n, List.set_cons_zero, List.set_cons_succ, List.getElem?_cons_zero, List.getElem?_cons_succ, List.length_cons, List.length_nil, List.take_succ_cons, List.take_zero, List.drop_succ_cons, List.drop_zero, List.reverse_cons, List.reverse_nil, List.nil_append, List.cons_append, List.map_cons, List.map_nil, List.sum_cons, List.sum_nil, Option.toList_some, Option.toList_none, Value.category, Nat.reduceAdd, Nat.reduceMul, Nat.reduceMod, Nat.reduceDiv, Nat.reduceSub, Nat.reduceLT, Nat.reduceLeDiff, Nat.reduceEqDiff, Nat.zero_le, Nat.le_refl, Int32.reduceToNatClampNeg, Int32.reduceLT, Int32.reduceLE, Int32.reduceAdd, Int32.reduceSub, Int32.reduceMul, ↓reduceIte, reduceCtorEq, Nat.add_zero, Nat.zero_add, true_or, or_true, false_or, or_false, true_and, and_true, false_and, and_false, not_true_eq_false, not_false_eq_true, if_true, if_false, true_implies, false_implies, implies_true, forall_const, false_imp_iff, true_imp_iff, va_rf, zlay, zent, List.replicate_zero, List.append_nil, List.replicate_succ, List.length_append, ne_eq, Option.some.injEq, Value.int.injEq, Value.long.injEq, Int32.reduceOfNat, Int32.reduceToInt, Int.reduceLT, Int.reduceLE, Int.reduceSub, Int.reduceToNat, Int.reduceAdd, Int.reduceNeg, Int32.reduceDiv, Int64.reduceAdd, Int64.reduceSub, lg_cmp_ge, lg_cmp_le, lg_cmp_gt, lg_cmp_lt, lg_cmp_eq, wlt_t, wlt_f, wle_t, wle_f, wmod, wI_lt, wI_le, wI_eq, wI_neg, wI_pos, wI_cl, wI_ge, wI_po, w64_lt, w64_le, w64_eq, w64_lt0, w64_le0, w64_eq0, w64_32, zc317, zc319, wI_add, wI_a1, wI_s1, wI_e0, wI_m8, wI_m128, wI_m64, wI_m190, not_true_eq_false, not_false_eq_true, sP_3118_7 hS, sP_3118_62 hS, sP_4908_38 hS, sN_3280 hS, sN_5840 hS, sN_6417 hS]
  refine e185 (t := a + g) (p := K + 2 * g) (q := 1) hS rfl h3 h4 (by omega) (by omega) (fun I1 J1 n1 => ?_)
  obtain ⟨r1, r2⟩ := yRl_s hsc (Nat.le_refl _) n1 h1 h2
  obtain ⟨-, ⟨b1, b2, b3⟩, ⟨d1, d2⟩, d3, d4, d5, d6, d7, d8⟩ := id n1
  simp (decide := true) (disch := omega) only [zi297, zt297, zo297_0, zo297_1, zo297_2, zo297_3, zo297_5, zy_ldI, zy_ldL, zy_ldA, zy_stI, zy_stL, zy_stA, zy_cI, zy_cL, zy_nul, zy_inc, zy_bI, zy_bL, zy_sL, zy_un, zy_cmp, zy_dup, zy_dup2, zy_pop, zy_pop2, zy_jn, zy_jnn, zy_go, zy_fal, zy_tsw, zy_lsw, zy_get, zy_put, zy_ald, zy_ast, zy_len, zy_newa, zy_new, zy_cal, zy_ret, zy_tak, zy_cst, zy_acp, zy_oini, zy_cln, zy_thr, zy_bad, zy_lco, zy_if0, zy_ic0, zy_if1, zy_ic1, zy_if2, zy_ic2, zy_if3, zy_ic3, zy_if4, zy_ic4, zy_if5, zy_ic5, zK_go, zK_to, zK_end, zK_callH, zK_iteC, zK_none, zsLd, zsSt, zsInc, zsBI, zsBL, zsSL, zsUn, zsCmp, zsDup, zsDup2, zsPop, zsPop2, zsJn, zsTsw, zsLsw, zsGet, zsPut, zsAld, zsAst, zsLen, zsNewa, zsCal, zsRet, zsCst, zsAcp, zsOini, zsCln, zsLco, zsThr, zxBI, zxBL, zxSL, zxU, zset1, zset2, zclr, zcat, zmake_mk, zcomp, zH_i, zH_l, zH_r, zH_u, zH_n, List.set_cons_zero, List.set_cons_succ, List.getElem?_cons_zero, List.getElem?_cons_succ, List.length_cons, List.length_nil, List.take_succ_cons, List.take_zero, List.drop_succ_cons, List.drop_zero, List.reverse_cons, List.reverse_nil, List.nil_append, List.cons_append, List.map_cons, List.map_nil, List.sum_cons, List.sum_nil, Option.toList_some, Option.toList_none, Value.category, Nat.reduceAdd, Nat.reduceMul, Nat.reduceMod, Nat.reduceDiv, Nat.reduceSub, Nat.reduceLT, Nat.reduceLeDiff, Nat.reduceEqDiff, Nat.zero_le, Nat.le_refl, Int32.reduceToNatClampNeg, Int32.reduceLT, Int32.reduceLE, Int32.reduceAdd, Int32.reduceSub, Int32.reduceMul, ↓reduceIte, reduceCtorEq, Nat.add_zero, Nat.zero_add, true_or, or_true, false_or, or_false, true_and, and_true, false_and, and_false, not_true_eq_false, not_false_eq_true, if_true, if_false, true_implies, false_implies, implies_true, forall_const, false_imp_iff, true_imp_iff, va_rf, zlay, zent, List.replicate_zero, List.append_nil, List.replicate_succ, List.length_append, ne_eq, Option.some.injEq, Value.int.injEq, Value.long.injEq, Int32.reduceOfNat, Int32.reduceToInt, Int.reduceLT, Int.reduceLE, Int.reduceSub, Int.reduceToNat, Int.reduceAdd, Int.reduceNeg, Int32.reduceDiv, Int64.reduceAdd, Int64.reduceSub, lg_cmp_ge, lg_cmp_le, lg_cmp_gt, lg_cmp_lt, lg_cmp_eq, wlt_t, wlt_f, wle_t, wle_f, wmod, wI_lt, wI_le, wI_eq, wI_neg, wI_pos, wI_cl, wI_ge, wI_po, w64_lt, w64_le, w64_eq, w64_lt0, w64_le0, w64_eq0, w64_32, zc317, zc319, wI_add, wI_a1, wI_s1, wI_e0, wI_m8, wI_m128, wI_m64, wI_m190, not_true_eq_false, not_false_eq_true, sP_3118_7 hS, sP_3118_62 hS, sP_4908_38 hS, sN_3280 hS, sN_5840 hS, sN_6417 hS]
  refine e182c (p := K + 2 * g + 1) (q := 0) (c := K + 2 * g - 1) (d := K + 2 * g) (zc := K + 2 * g) (zd := 1) hS d1 d2 (by omega) (by omega) (by omega) (by omega) (by rw [b2 0 (by decide)]; exact h5) d8 (by rw [(b1 (K + 2 * g - 1) (by omega)).2.2.2.1]; exact h6) d7 (fun I2 J2 n2 => ?_)
  obtain ⟨s1, s2⟩ := yRl_s (g := g) hsc (by omega) n2 r1 r2
  obtain ⟨-, ⟨e1, e2, e3⟩, ⟨f1, f2⟩, f3, f4, f5, f6, f7, f8⟩ := id n2
  have q := hQ I2 J2 (some (.int (nI (0 + 1)))) (yLq_t (yLq_n n1) (yLq_n n2)) ⟨s1, fun i hi => ?_, by rw [f1]; congr 1, f2, by rw [f8]; congr 1, by
    rw [show K + 2 * (g + 1) - 1 = K + 2 * g + 1 by omega, f7]
    congr 1
    omega⟩
  · rw [show a + (g + 1) = a + g + 1 by omega] at q
    simp (decide := true) (disch := omega) only [zi297, zt297, zo297_0, zo297_1, zo297_2, zo297_3, zo297_5, zy_ldI, zy_ldL, zy_ldA, zy_stI, zy_stL, zy_stA, zy_cI, zy_cL, zy_nul, zy_inc, zy_bI, zy_bL, zy_sL, zy_un, zy_cmp, zy_dup, zy_dup2, zy_pop, zy_pop2, zy_jn, zy_jnn, zy_go, zy_fal, zy_tsw, zy_lsw, zy_get, zy_put, zy_ald, zy_ast, zy_len, zy_newa, zy_new, zy_cal, zy_ret, zy_tak, zy_cst, zy_acp, zy_oini, zy_cln, zy_thr, zy_bad, zy_lco, zy_if0, zy_ic0, zy_if1, zy_ic1, zy_if2, zy_ic2, zy_if3, zy_ic3, zy_if4, zy_ic4, zy_if5, zy_ic5, zK_go, zK_to, zK_end, zK_callH, zK_iteC, zK_none, zsLd, zsSt, zsInc, zsBI, zsBL, zsSL, zsUn, zsCmp, zsDup, zsDup2, zsPop, zsPop2, zsJn, zsTsw, zsLsw, zsGet, zsPut, zsAld, zsAst, zsLen, zsNewa, zsCal, zsRet, zsCst, zsAcp, zsOini, zsCln, zsLco, zsThr, zxBI, zxBL, zxSL, zxU, zset1, zset2, zclr, zcat, zmake_mk, zcomp, zH_i, zH_l, zH_r, zH_u, zH_n, List.set_cons_zero, List.set_cons_succ, List.getElem?_cons_zero, List.getElem?_cons_succ, List.length_cons, List.length_nil, List.take_succ_cons, List.take_zero, List.drop_succ_cons, List.drop_zero, List.reverse_cons, List.reverse_nil, List.nil_append, List.cons_append, List.map_cons, List.map_nil, List.sum_cons, List.sum_nil, Option.toList_some, Option.toList_none, Value.category, Nat.reduceAdd, Nat.reduceMul, Nat.reduceMod, Nat.reduceDiv, Nat.reduceSub, Nat.reduceLT, Nat.reduceLeDiff, Nat.reduceEqDiff, Nat.zero_le, Nat.le_refl, Int32.reduceToNatClampNeg, Int32.reduceLT, Int32.reduceLE, Int32.reduceAdd, Int32.reduceSub, Int32.reduceMul, ↓reduceIte, reduceCtorEq, Nat.add_zero, Nat.zero_add, true_or, or_true, false_or, or_false, true_and, and_true, false_and, and_false, not_true_eq_false, not_false_eq_true, if_true, if_false, true_implies, false_implies, implies_true, forall_const, false_imp_iff, true_imp_iff, va_rf, zlay, zent, List.replicate_zero, List.append_nil, List.replicate_succ, List.length_append, ne_eq, Option.some.injEq, Value.int.injEq, Value.long.injEq, Int32.reduceOfNat, Int32.reduceToInt, Int.reduceLT, Int.reduceLE, Int.reduceSub, Int.reduceToNat, Int.reduceAdd, Int.reduceNeg, Int32.reduceDiv, Int64.reduceAdd, Int64.reduceSub, lg_cmp_ge, lg_cmp_le, lg_cmp_gt, lg_cmp_lt, lg_cmp_eq, wlt_t, wlt_f, wle_t, wle_f, wmod, wI_lt, wI_le, wI_eq, wI_neg, wI_pos, wI_cl, wI_ge, wI_po, w64_lt, w64_le, w64_eq, w64_lt0, w64_le0, w64_eq0, w64_32, zc317, zc319, wI_add, wI_a1, wI_s1, wI_e0, wI_m8, wI_m128, wI_m64, wI_m190, not_true_eq_false, not_false_eq_true, sP_3118_7 hS, sP_3118_62 hS, sP_4908_38 hS, sN_3280 hS, sN_5840 hS, sN_6417 hS]
    exact q
  · by_cases hig : i = g
    · subst hig
      obtain ⟨g1, g2, g3, g4, g5⟩ := e1 (K + 2 * i) (by omega)
      rw [g1, g2, g3, g5]
      exact ⟨⟨d3, d4, d5, d6⟩, f3, f4, f5, f6⟩
    · exact s2 i (by omega)
end
