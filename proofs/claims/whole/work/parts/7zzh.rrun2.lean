-- needs: 01 02.names 03 04 05 18 19 20 22 23 24 25 30 31 32 33 35 36 37 40 42 43 44 45 46 47 60 61 62 63 64 65 66 67 68 69 79f 79g 79h 79i 79j 79k 79l 79m 79n 79o 79p 79q 79r 79s 79t 79u 79v 79w 79x 79y 79z. 79za 79zb 79zc 79zd 79ze 79zf 79zg 79zh 79zi 79zj 79zk 79zl 79zm 79zn 79zo 79zp 79zq 79zr 79zs 79zt 79zu 79zv 7a 7b 7c 7d 7e 7f 7g 7zl 7zm 7zn 7zo 7h 7i 7j 7k 7l 7m 7n 7o 7p 7q 7r 7zj 7zk 7zp 7zq 7zr 7zs 7zt 7zu 79zw 7s 7t 7u 7v 7w 7x 7y 7z. 7za 7zb 7zc 7zd 7ze 7zf 7zg 7zh 7zi 7zv 7zw 7zx 7zy 7zz. 7zza 7zzb 7zzc 7zzd 7zze 7zzf 7zzg
/-! A run whole, by the reference -/
section
variable {I I' I0 : zI} {J J' J0 : zJ} {P : zP} {N : Nat → Nat} {n z : Nat} {Q : Option Value → zS → Prop} {Ks zs ls ws Wd : Nat → Nat} {Vs : Nat → Int64} {Yb : Nat → Nat → Int32} {K ap : Nat} {cx rd dm : yD}
theorem yKf_c (h : ySc Ks zs ls ws Vs Wd Yb K) (hM : ap + K + ap ≤ 200) {te de : Nat} (hk : ∀ i, i < ap + K + ap → yKf Ks zs ws Wd Vs Yb I J ap K i) (H : yIc Ks zs ws Wd Vs Yb ap K cx rd dm I J I' J' te de (ap + K + ap)) : yRc (yKd Ks ap K) (ySd (ySs zs) ap K) (yNd Vs ap K) (ap + K + ap) (yrr Ks zs ws ap K) (yun zs ws ap K) I' J' := by
  intro i hi
  obtain ⟨⟨a1, a2, a3⟩, -, -, a9⟩ := H
  have fr : ∀ c, c = 4944 ∨ c = 5008 ∨ c = 5040 ∨ c = 5103 → I' c = I c := fun c x => a1 c (by omega) (by omega) (by omega) (by omega) (by omega) (by omega) (by omega) (by omega) (by omega) (by omega) (by omega)
  have hl := yun_l (ap := ap) h hi
  obtain ⟨f1, f2, f3, -, f5, -, -⟩ := yKf_x (I' := I') (J' := J') (fr 4944 (by omega)) (fr 5008 (by omega)) (fr 5040 (by omega)) (fr 5103 (by omega)) (a2 4977 (by decide) (by decide)) (hk i hi)
  have hd : yKd Ks ap K i ≠ 11 → i < ap + K := fun h => Nat.lt_of_not_le fun hh => h (by unfold yKd; rw [if_neg (by omega), if_neg (by omega)])
  refine ⟨by omega, fun h7 => (f1 (hd (by omega))).1, fun h7 => ⟨?_, (a9 i hi hl h7).1⟩, fun h6 => (f1 (hd (by omega))).2, fun hh => (f3 hh).1, fun hh => (f5 hh).1⟩
  by_cases hh : i < ap + K
  · refine ⟨yKd Ks ap K i, h7, ?_, (f1 hh).1⟩
    unfold yKd
    by_cases h1 : i < ap
    · rw [if_pos h1]; omega
    · rw [if_neg h1, if_pos hh]
      have := (h.2 (i - ap) (by omega)).1.2.2.2.2
      omega
  · exact ⟨12, by omega, by omega, (f2 (by omega)).1⟩
set_option maxRecDepth 20000 in
set_option maxHeartbeats 8000000 in
theorem e225 (hS : zStat P N) (h : ySc Ks zs ls ws Vs Wd Yb K) (hap : ap = 2 ∨ ap = 3) (hk : ∀ i, i < ap + K + ap → yKf Ks zs ws Wd Vs Yb I J ap K i) (h9 : I 4908 9 = 1) (h5 : I 5136 0 = nI (ap + K + ap - 1)) (h6 : I 5072 (ap + K + ap - 1) = nI (ap + K + ap)) (gc : yGn I J 2 cx) (gr : yGn I J 1 rd) (gd : ap = 3 → yGn I J 0 dm) (wc : ywf cx) (wr : ywf rd) (wd : ap = 3 → ywf dm) (xc : ydm cx ≤ 12800) (xr : ydm rd ≤ 12800) (xd : ap = 3 → ydm dm ≤ 200)
    (hQ : ∀ I' J', yRF I J I' J' → yOr (yrr Ks zs ws ap K) I' J' (yrn Ks zs Wd Vs Yb ap K cx rd dm) → Q (some (.int (nI (yas9 (yrn Ks zs Wd Vs Yb ap K cx rd dm))))) (I', J', P, N, n, z)) : zC 225 [.ref 4908, .int 20000, .int 3000] (I, J, P, N, n, z) Q := by
  have h0 := h.1
  have hc := yco_of h hap
  have hM : ap + K + ap ≤ 200 := hc.1
  have key : ∀ Ib : zI, (∀ c, c ≠ 4908 → c ≠ 5648 → c ≠ 5680 → c ≠ 6064 → Ib c = I c) → (Ib 4908 19 = 0 ∧ Ib 4908 21 = 0 ∧ Ib 4908 26 = 0 ∧ Ib 4908 28 = 0 ∧ Ib 4908 31 = 1) → (Ib 4908 36 = 0 ∧ Ib 4908 45 = 0 ∧ Ib 4908 46 = 0 ∧ Ib 4908 47 = 20000 ∧ Ib 4908 48 = 3000 ∧ Ib 4908 49 = 0) → Ib 5648 0 = 0 → Ib 5680 0 = 0 → zQ zt225 zo225_9 [some (.ref 4908), some (.int 20000), some (.int 3000), some (.int (nI (ap + K + ap - 1))), some (.int (nI 0))] [] (Ib, J, P, N, n, z) Q := by
    intro Ib fb ⟨c19, c21, c26, c28, c31⟩ ⟨c36, c45, c46, c47, c48, c49⟩ c1 c2
    have hk2 : ∀ i, i < ap + K + ap → yKf Ks zs ws Wd Vs Yb Ib J ap K i := fun i hi => yKf_x (fb 4944 (by decide) (by decide) (by decide) (by decide)) (fb 5008 (by decide) (by decide) (by decide) (by decide)) (fb 5040 (by decide) (by decide) (by decide) (by decide)) (fb 5103 (by decide) (by decide) (by decide) (by decide)) rfl (hk i hi)
    have fg : ∀ c, c = 5840 ∨ c = 5872 ∨ c = 5936 ∨ c = 5968 ∨ c = 5999 → Ib c = I c := fun c x => fb c (by omega) (by omega) (by omega) (by omega)
    refine l225c (I := Ib) (J := J) (cx := cx) (rd := rd) (dm := dm) hS h hap hk2 (yGn_c fg rfl gc) (yGn_c fg rfl gr) (fun h3 => yGn_c fg rfl (gd h3)) wc wr wd xc xr xd (fun I2 J2 te de H => ?_) (ap + K + ap) 0 Ib J 0 0 (by omega) ⟨⟨fun _ _ _ _ _ _ _ _ _ _ _ _ => rfl, fun _ _ _ => rfl, fun _ _ _ _ _ => rfl⟩, ⟨c19, c21, c26⟩, ⟨Nat.zero_le _, Nat.zero_le _⟩, fun i _ hh => by omega⟩
    have rc := yKf_c h hM hk2 H
    have rh := yRh_of (ap := ap) (ws := ws) h hM
    obtain ⟨⟨a1, a2, a3⟩, ⟨a4, a5, a6⟩, ⟨a7, a8⟩, a9⟩ := H
    have sl := ysS_l (xc := 12800) (xr := 12800) (xd := 200) (ap := ap) (K := K) (m := ap + K + ap)
    have sl2 := ysS_l (xc := 200) (xr := 200) (xd := 200) (ap := ap) (K := K) (m := ap + K + ap)
    have yR : ∀ I3 : zI, (∀ c, c ≠ 4908 → I3 c = I2 c) → (∀ j, j ≠ 51 → j ≠ 52 → I3 4908 j = I2 4908 j) → I3 4908 51 = nI (ap + K + ap - 1) → I3 4908 52 = nI 0 → yRL P N n z Q (some (.int 20000)) (some (.int 3000)) (some (.int (nI (ap + K + ap - 1)))) (some (.int (nI (ap + K + ap)))) I3 J2 := by
      intro I3 f3 f4 f5 f6
      have f7 : ∀ j, j ≠ 19 → j ≠ 21 → j ≠ 26 → j ≠ 51 → j ≠ 52 → j ≠ 56 → I3 4908 j = Ib 4908 j := fun j x1 x2 x3 x4 x5 x6 => (f4 j x4 x5).trans (a3 j x1 x2 x3 x6)
      refine l225 (I0 := I) (J0 := J) (r := yrr Ks zs ws ap K) (u := yun zs ws ap K) (c0 := yct (yip Ks zs ws ap K) (ap + K + ap)) (l := yLm ls ap K) (s0 := yini (ytb Ks Wd Vs Yb ap K cx rd dm)) hS rh hc (ywm_of h wc wr wd hap) (by show (0 : Nat) < 7; omega) (fun I' J' k e1 e2 e3 => ?_) 120010 0 0 I3 J2 te de 0 1 (by omega) ?_ ?_ (Or.inr (by show 0 + 0 ≤ 6 * 0; omega))
      · rw [yfin_e e1] at e3 ⊢
        exact hQ I' J' e2 e3
      · exact ⟨fun c x => by rw [f3 c (by omega), a1 c (by omega) (by omega) (by omega) (by omega) (by omega) (by omega) (by omega) (by omega) (by omega) (by omega) (by omega), fb c (by omega) (by omega) (by omega) (by omega)], fun c x => a2 c (by omega) (by omega)⟩
      · have g : yRg I2 J2 I3 J2 (yct (yip Ks zs ws ap K) (ap + K + ap)) te de 0 1 := yRg_m (fun c x _ _ _ _ => f3 c x)
        refine ⟨⟨fun i hi => ?_, ⟨?_, ?_, ?_, ?_, ?_⟩, ⟨?_, ?_, ?_, ?_, ?_, ?_⟩, ⟨by omega, by omega, Nat.zero_le _, Nat.le_refl _⟩, fun v hv => ?_, trivial⟩, ?_, 0, f6, by omega, ?_, 0, ?_, Nat.le_refl _, fun i hi => by cases hi⟩
        · rw [f3 4944 (by decide), f3 5712 (by decide), f3 5008 (by decide), f3 5040 (by decide)]
          exact rc i hi
        · rw [f4 19 (by decide) (by decide)]
          exact a4
        · rw [f4 21 (by decide) (by decide), a5]
        · rw [f4 26 (by decide) (by decide), a6]
        · rw [f7 28 (by decide) (by decide) (by decide) (by decide) (by decide) (by decide), c28]; rfl
        · rw [f7 31 (by decide) (by decide) (by decide) (by decide) (by decide) (by decide), c31]; rfl
        · rw [f7 36 (by decide) (by decide) (by decide) (by decide) (by decide) (by decide), c36]; rfl
        · rw [f7 45 (by decide) (by decide) (by decide) (by decide) (by decide) (by decide), c45]; rfl
        · rw [f7 46 (by decide) (by decide) (by decide) (by decide) (by decide) (by decide), c46]; rfl
        · rw [f7 47 (by decide) (by decide) (by decide) (by decide) (by decide) (by decide), c47]; rfl
        · rw [f7 48 (by decide) (by decide) (by decide) (by decide) (by decide) (by decide), c48]; rfl
        · rw [f7 49 (by decide) (by decide) (by decide) (by decide) (by decide) (by decide), c49]
        · have hv : v < ap + K + ap ∧ 7 ≤ yKd Ks ap K v := by unfold yvl at hv; omega
          exact yRv_g (rh.2.2 v hv.1 hv.2) (Nat.le_refl _) (Nat.le_refl _) (Nat.le_refl _) (Nat.le_refl _) g (a9 v hv.1 (yun_l h hv.1) hv.2).2
        · rw [f5, yun_a (by omega)]
          congr 1
          omega
        · rw [f3 5680 (by decide), a1 5680 (by decide) (by decide) (by decide) (by decide) (by decide) (by decide) (by decide) (by decide) (by decide) (by decide) (by decide), c2]; rfl
        · rw [f3 5648 (by decide), a1 5648 (by decide) (by decide) (by decide) (by decide) (by decide) (by decide) (by decide) (by decide) (by decide) (by decide) (by decide), c1]; rfl
    have q := yR (zu (zu I2 4908 51 (nI (ap + K + ap - 1))) 4908 52 0) (fun c x => by rw [zuR_ne x, zuR_ne x]) (fun j x1 x2 => by rw [zu_nj x2, zu_nj x1]) (by rw [zu_nj (by decide), zu_at]) (by rw [zu_at]; rfl)
    unfold yRL at q
    rw [zo225_10]
    simp (decide := true) (disch := omega) only [zi225, zt225, zo225_0, zo225_1, zo225_2, zo225_3, zo225_4, zo225_5, zo225_6, zo225_7, zo225_8, zo225_9, zo225_12, zo225_13, zo225_14, zy_ldI, zy_ldL, zy_ldA, zy_stI, zy_stL, zy_stA, zy_cI, zy_cL, zy_nul, zy_inc, zy_bI, zy_bL, zy_sL, zy_un, zy_cmp, zy_dup, zy_dup2, zy_pop, zy_pop2, zy_jn, zy_jnn, zy_go, zy_fal, zy_tsw, zy_lsw, zy_get, zy_put, zy_ald, zy_ast, zy_len, zy_newa, zy_new, zy_cal, zy_ret, zy_tak, zy_cst, zy_acp, zy_oini, zy_cln, zy_thr, zy_bad, zy_lco, zy_if0, zy_ic0, zy_if1, zy_ic1, zy_if2, zy_ic2, zy_if3, zy_ic3, zy_if4, zy_ic4, zy_if5, zy_ic5, zK_go, zK_to, zK_end, zK_callH, zK_iteC, zK_none, zsLd, zsSt, zsInc, zsBI, zsBL, zsSL, zsUn, zsCmp, zsDup, zsDup2, zsPop, zsPop2, zsJn, zsTsw, zsLsw, zsGet, zsPut, zsAld, zsAst, zsLen, zsNewa, zsCal, zsRet, zsCst, zsAcp, zsOini, zsCln, zsLco, zsThr, zxBI, zxBL, zxSL, zxU, zset1, zset2, zclr, zcat, zmake_mk, zcomp, zH_i, zH_l, zH_r, zH_u, zH_n, List.set_cons_zero, List.set_cons_succ, List.getElem?_cons_zero, List.getElem?_cons_succ, List.length_cons, List.length_nil, List.take_succ_cons, List.take_zero, List.drop_succ_cons, List.drop_zero, List.reverse_cons, List.reverse_nil, List.nil_append, List.cons_append, List.map_cons, List.map_nil, List.sum_cons, List.sum_nil, Option.toList_some, Option.toList_none, Value.category, Nat.reduceAdd, Nat.reduceMul, Nat.reduceMod, Nat.reduceDiv, Nat.reduceSub, Nat.reduceLT, Nat.reduceLeDiff, Nat.reduceEqDiff, Nat.zero_le, Nat.le_refl, Int32.reduceToNatClampNeg, Int32.reduceLT, Int32.reduceLE, Int32.reduceAdd, Int32.reduceSub, Int32.reduceMul, ↓reduceIte, reduceCtorEq, Nat.add_zero, Nat.zero_add, true_or, or_true, false_or, or_false, true_and, and_true, false_and, and_false, not_true_eq_false, not_false_eq_true, if_true, if_false, true_implies, false_implies, implies_true, forall_const, false_imp_iff, true_imp_iff, va_rf, zlay, zent, List.replicate_zero, List.append_nil, List.replicate_succ, List.length_append, ne_eq, Option.some.injEq, Value.int.injEq, Value.long.injEq, Int32.reduceOfNat, Int32.reduceToInt, Int.reduceLT, Int.reduceLE, Int.reduceSub, Int.reduceToNat, Int.reduceAdd, Int.reduceNeg, Int32.reduceDiv, Int64.reduceAdd, Int64.reduceSub, lg_cmp_ge, lg_cmp_le, lg_cmp_gt, lg_cmp_lt, lg_cmp_eq, wlt_t, wlt_f, wle_t, wle_f, wmod, wI_lt, wI_le, wI_eq, wI_neg, wI_pos, wI_cl, wI_ge, wI_po, w64_lt, w64_le, w64_eq, w64_lt0, w64_le0, w64_eq0, w64_32, zc317, zc319, wI_add, wI_a1, wI_s1, wI_e0, wI_m8, wI_m128, wI_m64, wI_m190, not_true_eq_false, not_false_eq_true, sP_4908_5 hS, sP_4908_8 hS, sP_4908_29 hS, sP_4908_30 hS, sN_5072 hS, sN_5136 hS, sN_5648 hS, sN_5680 hS, sN_6417 hS]
    exact q
  have e1 : (1 : Int32) - 1 = 0 := by decide
  have e2 : nI (ap + K + ap - 1) - nI (ap + K + ap) = -1 := by
    rw [← Int32.toInt_inj, Int32.toInt_sub, nI_toInt (by omega), nI_toInt (by omega), show (-1 : Int32).toInt = -1 from rfl, Int.bmod_eq_of_le (by omega) (by omega)]
    omega
  have e3 : (-1 : Int32) + 1 = 0 := by decide
  have e00 : nI 0 = 0 := rfl
  rw [e00] at key
  have z0 : ((0 : Int32) ≤ 0) = True := eq_true (by decide)
  simp (decide := true) (disch := omega) only [h9, zu_at, z0, zi225, zt225, zo225_0, zo225_1, zo225_2, zo225_3, zo225_4, zo225_5, zo225_6, zo225_7, zo225_8, zo225_10, zo225_11, zo225_12, zo225_13, zo225_14, zy_ldI, zy_ldL, zy_ldA, zy_stI, zy_stL, zy_stA, zy_cI, zy_cL, zy_nul, zy_inc, zy_bI, zy_bL, zy_sL, zy_un, zy_cmp, zy_dup, zy_dup2, zy_pop, zy_pop2, zy_jn, zy_jnn, zy_go, zy_fal, zy_tsw, zy_lsw, zy_get, zy_put, zy_ald, zy_ast, zy_len, zy_newa, zy_new, zy_cal, zy_ret, zy_tak, zy_cst, zy_acp, zy_oini, zy_cln, zy_thr, zy_bad, zy_lco, zy_if0, zy_ic0, zy_if1, zy_ic1, zy_if2, zy_ic2, zy_if3, zy_ic3, zy_if4, zy_ic4, zy_if5, zy_ic5, zK_go, zK_to, zK_end, zK_callH, zK_iteC, zK_none, zsLd, zsSt, zsInc, zsBI, zsBL, zsSL, zsUn, zsCmp, zsDup, zsDup2, zsPop, zsPop2, zsJn, zsTsw, zsLsw, zsGet, zsPut, zsAld, zsAst, zsLen, zsNewa, zsCal, zsRet, zsCst, zsAcp, zsOini, zsCln, zsLco, zsThr, zxBI, zxBL, zxSL, zxU, zset1, zset2, zclr, zcat, zmake_mk, zcomp, zH_i, zH_l, zH_r, zH_u, zH_n, List.set_cons_zero, List.set_cons_succ, List.getElem?_cons_zero, List.getElem?_cons_succ, List.length_cons, List.length_nil, List.take_succ_cons, List.take_zero, List.drop_succ_cons, List.drop_zero, List.reverse_cons, List.reverse_nil, List.nil_append, List.cons_append, List.map_cons, List.map_nil, List.sum_cons, List.sum_nil, Option.toList_some, Option.toList_none, Value.category, Nat.reduceAdd, Nat.reduceMul, Nat.reduceMod, Nat.reduceDiv, Nat.reduceSub, Nat.reduceLT, Nat.reduceLeDiff, Nat.reduceEqDiff, Nat.zero_le, Nat.le_refl, Int32.reduceToNatClampNeg, Int32.reduceLT, Int32.reduceLE, Int32.reduceAdd, Int32.reduceSub, Int32.reduceMul, ↓reduceIte, reduceCtorEq, Nat.add_zero, Nat.zero_add, true_or, or_true, false_or, or_false, true_and, and_true, false_and, and_false, not_true_eq_false, not_false_eq_true, if_true, if_false, true_implies, false_implies, implies_true, forall_const, false_imp_iff, true_imp_iff, va_rf, zlay, zent, List.replicate_zero, List.append_nil, List.replicate_succ, List.length_append, ne_eq, Option.some.injEq, Value.int.injEq, Value.long.injEq, Int32.reduceOfNat, Int32.reduceToInt, Int.reduceLT, Int.reduceLE, Int.reduceSub, Int.reduceToNat, Int.reduceAdd, Int.reduceNeg, Int32.reduceDiv, Int64.reduceAdd, Int64.reduceSub, lg_cmp_ge, lg_cmp_le, lg_cmp_gt, lg_cmp_lt, lg_cmp_eq, wlt_t, wlt_f, wle_t, wle_f, wmod, wI_lt, wI_le, wI_eq, wI_neg, wI_pos, wI_cl, wI_ge, wI_po, w64_lt, w64_le, w64_eq, w64_lt0, w64_le0, w64_eq0, w64_32, zc317, zc319, wI_add, wI_a1, wI_s1, wI_e0, wI_m8, wI_m128, wI_m64, wI_m190, not_true_eq_false, not_false_eq_true, sP_4908_5 hS, sP_4908_8 hS, sP_4908_29 hS, sP_4908_30 hS, sN_5072 hS, sN_5136 hS, sN_5648 hS, sN_5680 hS, sN_6417 hS]
  refine e187 (I := zu I 4908 0 0) hS h hap (fun i hi => yKf_x (zuR_ne (by decide)) (zuR_ne (by decide)) (zuR_ne (by decide)) (zuR_ne (by decide)) rfl (hk i hi)) (by rw [zu_nj (by decide), h9]) (by rw [zuR_ne (by decide), h5]) (by rw [zuR_ne (by decide), h6]) (fun I2 f2 => ?_)
  have g9 : I2 4908 9 = 1 := by rw [f2 4908 (by decide), zu_nj (by decide), h9]
  have g5 : I2 5136 0 = nI (ap + K + ap - 1) := by rw [f2 5136 (by decide), zuR_ne (by decide), h5]
  have g6 : I2 5072 (ap + K + ap - 1) = nI (ap + K + ap) := by rw [f2 5072 (by decide), zuR_ne (by decide), h6]
  simp (decide := true) (disch := omega) only [g9, g5, g6, e1, e2, e3, z0, zuR_ne, zu_nj, zu_at, zi225, zt225, zo225_0, zo225_1, zo225_2, zo225_3, zo225_4, zo225_5, zo225_6, zo225_7, zo225_8, zo225_10, zo225_11, zo225_12, zo225_13, zo225_14, zy_ldI, zy_ldL, zy_ldA, zy_stI, zy_stL, zy_stA, zy_cI, zy_cL, zy_nul, zy_inc, zy_bI, zy_bL, zy_sL, zy_un, zy_cmp, zy_dup, zy_dup2, zy_pop, zy_pop2, zy_jn, zy_jnn, zy_go, zy_fal, zy_tsw, zy_lsw, zy_get, zy_put, zy_ald, zy_ast, zy_len, zy_newa, zy_new, zy_cal, zy_ret, zy_tak, zy_cst, zy_acp, zy_oini, zy_cln, zy_thr, zy_bad, zy_lco, zy_if0, zy_ic0, zy_if1, zy_ic1, zy_if2, zy_ic2, zy_if3, zy_ic3, zy_if4, zy_ic4, zy_if5, zy_ic5, zK_go, zK_to, zK_end, zK_callH, zK_iteC, zK_none, zsLd, zsSt, zsInc, zsBI, zsBL, zsSL, zsUn, zsCmp, zsDup, zsDup2, zsPop, zsPop2, zsJn, zsTsw, zsLsw, zsGet, zsPut, zsAld, zsAst, zsLen, zsNewa, zsCal, zsRet, zsCst, zsAcp, zsOini, zsCln, zsLco, zsThr, zxBI, zxBL, zxSL, zxU, zset1, zset2, zclr, zcat, zmake_mk, zcomp, zH_i, zH_l, zH_r, zH_u, zH_n, List.set_cons_zero, List.set_cons_succ, List.getElem?_cons_zero, List.getElem?_cons_succ, List.length_cons, List.length_nil, List.take_succ_cons, List.take_zero, List.drop_succ_cons, List.drop_zero, List.reverse_cons, List.reverse_nil, List.nil_append, List.cons_append, List.map_cons, List.map_nil, List.sum_cons, List.sum_nil, Option.toList_some, Option.toList_none, Value.category, Nat.reduceAdd, Nat.reduceMul, Nat.reduceMod, Nat.reduceDiv, Nat.reduceSub, Nat.reduceLT, Nat.reduceLeDiff, Nat.reduceEqDiff, Nat.zero_le, Nat.le_refl, Int32.reduceToNatClampNeg, Int32.reduceLT, Int32.reduceLE, Int32.reduceAdd, Int32.reduceSub, Int32.reduceMul, ↓reduceIte, reduceCtorEq, Nat.add_zero, Nat.zero_add, true_or, or_true, false_or, or_false, true_and, and_true, false_and, and_false, not_true_eq_false, not_false_eq_true, if_true, if_false, true_implies, false_implies, implies_true, forall_const, false_imp_iff, true_imp_iff, va_rf, zlay, zent, List.replicate_zero, List.append_nil, List.replicate_succ, List.length_append, ne_eq, Option.some.injEq, Value.int.injEq, Value.long.injEq, Int32.reduceOfNat, Int32.reduceToInt, Int.reduceLT, Int.reduceLE, Int.reduceSub, Int.reduceToNat, Int.reduceAdd, Int.reduceNeg, Int32.reduceDiv, Int64.reduceAdd, Int64.reduceSub, lg_cmp_ge, lg_cmp_le, lg_cmp_gt, lg_cmp_lt, lg_cmp_eq, wlt_t, wlt_f, wle_t, wle_f, wmod, wI_lt, wI_le, wI_eq, wI_neg, wI_pos, wI_cl, wI_ge, wI_po, w64_lt, w64_le, w64_eq, w64_lt0, w64_le0, w64_eq0, w64_32, zc317, zc319, wI_add, wI_a1, wI_s1, wI_e0, wI_m8, wI_m128, wI_m64, wI_m190, not_true_eq_false, not_false_eq_true, sP_4908_5 hS, sP_4908_8 hS, sP_4908_29 hS, sP_4908_30 hS, sN_5072 hS, sN_5136 hS, sN_5648 hS, sN_5680 hS, sN_6417 hS]
  refine key _ (fun c x1 x2 x3 x4 => ?_) ⟨?_, ?_, ?_, ?_, ?_⟩ ⟨?_, ?_, ?_, ?_, ?_, ?_⟩ ?_ ?_
  · simp (disch := omega) only [zuR_ne]
    rw [f2 c x4, zuR_ne x1]
  all_goals simp (disch := omega) only [zuR_ne, zu_nj, zu_at]
end
