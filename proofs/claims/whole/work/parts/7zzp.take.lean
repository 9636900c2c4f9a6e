-- needs: 01 02.names 03 04 05 18 19 20 22 23 24 25 30 31 32 33 35 36 37 40 42 43 44 45 46 47 60 61 62 63 64 65 66 67 68 69 79f 79g 79h 79i 79j 79k 79l 79m 79n 79o 79p 79q 79r 79s 79t 79u 79v 79w 79x 79y 79z. 79za 79zb 79zc 79zd 79ze 79zf 79zg 79zh 79zi 79zj 79zk 79zl 79zm 79zn 79zo 79zp 79zq 79zr 79zs 79zt 79zu 79zv 7a 7b 7c 7d 7e 7f 7g 7zl 7zm 7zn 7zo 7h 7i 7j 7k 7l 7m 7n 7o 7p 7q 7r 7zj 7zk 7zp 7zq 7zr 7zs 7zt 7zu 79zw 7s 7t 7u 7v 7w 7x 7y 7z. 7za 7zb 7zc 7zd 7ze 7zf 7zg 7zh 7zi 7zv 7zw 7zx 7zy 7zz. 7zza 7zzb 7zzc 7zzd 7zze 7zzf 7zzg 7zzh 7zzi 7zzj 7zzk 7zzl 7zzm 7zzn 7zzo
/-! Collateral is taken; outputs are spent -/
theorem ySpd_n {f : Nat → Int32} {ia : Nat → Nat} {hx k : Nat} : ∀ i, (∀ j, j < i → ia j ≠ k) → ySpd f ia hx i k = f k := by
  intro i
  induction i with
  | zero => intro _; rfl
  | succ i ih =>
    intro h
    show (if k = ia i then nI hx else ySpd f ia hx i k) = f k
    rw [if_neg (fun e => h i (by omega) e.symm), ih (fun j hj => h j (by omega))]
section
variable {I I0 : zI} {J J0 : zJ} {P : zP} {N : Nat → Nat} {n z K s m hx e a : Nat} {F C Z X H L ia ca : Nat → Nat} {g : Nat → Nat → Nat} {T : Nat → Int64} {Q : Option Value → zS → Prop}
set_option maxRecDepth 20000 in
set_option maxHeartbeats 4000000 in
theorem e301 (hS : zStat P N) (hc4 : C (zWi Z 0 1) ≤ 4) (hn : zInm I C Z ia ca) (hca : ∀ i, i < C (zWi Z 0 1) → ca i < m) (hm : m ≤ 1024) (hg : ∀ k, k < m → I 3440 k = nI (g 6 k) ∧ g 6 k ≤ 8) (h23 : I 3118 23 = nI hx) (hh : hx < 4200)
    (hQ : ∀ I' J', (∀ c, c ≠ 3664 → c ≠ 3760 → (I' : zI) c = I c) → (∀ c, c ≠ 3697 → (J' : zJ) c = J c) → I' 3664 = ySpd (I 3664) ca hx (C (zWi Z 0 1)) → (∀ k, k ≠ hx → I' 3760 k = I 3760 k) → I' 3760 hx = I 3760 hx + 1 → (∀ k, k ≠ hx → J' 3697 k = J 3697 k) → J' 3697 hx = J 3697 hx + zsJ (fun i => zHd (I 3472) (J 3505) (J 3537) (g 6) 0 0 (ca i)) (C (zWi Z 0 1)) → Q none (I', J', P, N, n, z)) : zC 301 [.ref 3118] (I, J, P, N, n, z) Q := by
  have li : ∀ r i (I1 : zI) (J1 : zJ), i + r = C (zWi Z 0 1) → (∀ c, c ≠ 3664 → I1 c = I c) → I1 3664 = ySpd (I 3664) ca hx i → (∀ c, c ≠ 3697 → J1 c = J c) → (∀ k, k ≠ hx → J1 3697 k = J 3697 k) → J1 3697 hx = J 3697 hx + zsJ (fun i => zHd (I 3472) (J 3505) (J 3537) (g 6) 0 0 (ca i)) i → zQ zt301 zo301_1 [some (.ref 3118), some (.int (nI i))] [] (I1, J1, P, N, n, z) Q := by
    intro r
    induction r with
    | zero =>
      intro i I1 J1 hi f1 s1 j1 j2 j3
      obtain rfl : i = C (zWi Z 0 1) := by omega
      have v54 : I1 3118 54 = nI (C (zWi Z 0 1)) := by rw [f1 3118 (by decide)]; exact hn.2.1
      have t1 : (nI (C (zWi Z 0 1)) ≤ nI (C (zWi Z 0 1))) = True := eq_true (Int32.le_refl _)
      have w23 : I1 3118 23 = nI hx := by rw [f1 3118 (by decide)]; exact h23
      have w60 : I1 3760 hx = I 3760 hx := by rw [f1 3760 (by decide)]
      have q := hQ (zu I1 3760 hx (I 3760 hx + 1)) J1 (fun c x1 x2 => by rw [zuR_ne x2]; exact f1 c x1) j1 (by rw [zuR_ne (by decide)]; exact s1) (fun k hk => by rw [zu_nj hk, f1 3760 (by decide)]) zu_at j2 j3
      rw [zo301_1]
      simp (decide := true) (disch := omega) only [v54, t1, w23, w60, zi301, zt301, zo301_0, zo301_2, zy_ldI, zy_ldL, zy_ldA, zy_stI, zy_stL, zy_stA, zy_cI, zy_cL, zy_nul, zy_inc, zy_bI, zy_bL, zy_sL, zy_un, zy_cmp, zy_dup, zy_dup2, zy_pop, zy_pop2, zy_jn, zy_jnn, zy_go, zy_fal, zy_tsw, zy_lsw, zy_get, zy_put, zy_ald, zy_ast, zy_len, zy_newa, zy_new, zy_cal, zy_ret, zy_tak, zy_cst, zy_acp, zy_oini, zy_cln, zy_thr, zy_bad, zy_lco, zy_if0, zy_ic0, zy_if1, zy_ic1, zy_if2, zy_ic2, zy_if3, zy_ic3, zy_if4, zy_ic4, zy_if5, zy_ic5, zK_go, zK_to, zK_end, zK_callH, zK_iteC, zK_none, zsLd, zsSt, zsInc, zsBI, zsBL, zsSL, zsUn, zsCmp, zsDup, zsDup2, zsPop, zsPop2, zsJn, zsTsw, zsLsw, zsGet, zsPut, zsAld, zsAst, zsLen, zsNewa, zsCal, zsRet, zsCst, zsAcp, zsOini, zsCln, zsLco, zsThr, zxBI, zxBL, zxSL, zxU, zset1, zset2, zclr, zcat, zmake_mk, zcomp, zH_i, zH_l, zH_r, zH_u, zH_n, List.set_cons_zero, List.set_cons_succ, List.getElem?_cons_zero, List.getElem?_cons_succ, List.length_cons, List.length_nil, List.take_succ_cons, List.take_zero, List.drop_succ_cons, List.drop_zero, List.reverse_cons, List.reverse_nil, List.nil_append, List.cons_append, List.map_cons, List.map_nil, List.sum_cons, List.sum_nil, Option.toList_some, Option.toList_none, Value.category, Nat.reduceAdd, Nat.reduceMul, Nat.reduceMod, Nat.reduceDiv, Nat.reduceSub, Nat.reduceLT, Nat.reduceLeDiff, Nat.reduceEqDiff, Nat.zero_le, Nat.le_refl, Int32.reduceToNatClampNeg, Int32.reduceLT, Int32.reduceLE, Int32.reduceAdd, Int32.reduceSub, Int32.reduceMul, ↓reduceIte, reduceCtorEq, Nat.add_zero, Nat.zero_add, true_or, or_true, false_or, or_false, true_and, and_true, false_and, and_false, not_true_eq_false, not_false_eq_true, if_true, if_false, true_implies, false_implies, implies_true, forall_const, false_imp_iff, true_imp_iff, va_rf, zlay, zent, List.replicate_zero, List.append_nil, List.replicate_succ, List.length_append, ne_eq, Option.some.injEq, Value.int.injEq, Value.long.injEq, Int32.reduceOfNat, Int32.reduceToInt, Int.reduceLT, Int.reduceLE, Int.reduceSub, Int.reduceToNat, Int.reduceAdd, Int.reduceNeg, Int32.reduceDiv, Int64.reduceAdd, Int64.reduceSub, lg_cmp_ge, lg_cmp_le, lg_cmp_gt, lg_cmp_lt, lg_cmp_eq, wlt_t, wlt_f, wle_t, wle_f, wmod, wI_lt, wI_le, wI_eq, wI_neg, wI_pos, wI_cl, wI_ge, wI_po, w64_lt, w64_le, w64_eq, w64_lt0, w64_le0, w64_eq0, w64_32, zc317, zc319, wI_add, wI_a1, wI_s1, wI_e0, wI_m8, wI_m128, wI_m64, wI_m190, not_true_eq_false, not_false_eq_true, sP_3118_22 hS, sP_3118_25 hS, sP_3118_27 hS, sP_3118_53 hS, sN_3664 hS, sN_3697 hS, sN_3760 hS, sN_4112 hS, sN_6417 hS]
      exact q
    | succ r ih =>
      intro i I1 J1 hi f1 s1 j1 j2 j3
      have v54 : I1 3118 54 = nI (C (zWi Z 0 1)) := by rw [f1 3118 (by decide)]; exact hn.2.1
      have t1 : ¬ nI (C (zWi Z 0 1)) ≤ nI i := by rw [wI_le (by omega) (by omega)]; omega
      have w23 : I1 3118 23 = nI hx := by rw [f1 3118 (by decide)]; exact h23
      have w12 : I1 4112 i = nI (ca i) := by rw [f1 4112 (by decide)]; exact hn.2.2.2 i (by omega)
      have cm := hca i (by omega)
      obtain ⟨b1, b2⟩ := hg (ca i) cm
      obtain ⟨I2, hI2⟩ : ∃ I2, I2 = zu I1 3664 (ca i) (nI hx) := ⟨_, rfl⟩
      have f2 : ∀ c, c ≠ 3664 → I2 c = I c := fun c hc => by rw [hI2, zuR_ne hc]; exact f1 c hc
      have p250 := fun (Q : Option Value → zS → Prop) => m250 (I := I2) (J := J1) (n := n) (z := z) (p := 0) (x := 0) hS (k := ca i) (v := g 6 (ca i)) (by omega) b2 (by rw [f2 3440 (by decide)]; exact b1) Q
      rw [f2 3472 (by decide), j1 3505 (by decide), j1 3537 (by decide)] at p250
      have p250 : ∀ (Q : Option Value → zS → Prop), zC 250 [.ref 3118, .int (nI (ca i)), .int 0, .long 0] (I2, J1, P, N, n, z) Q = Q (some (.long (zHd (I 3472) (J 3505) (J 3537) (g 6) 0 0 (ca i)))) (I2, J1, P, N, n, z) := p250
      have w12' : I2 4112 i = nI (ca i) := by rw [f2 4112 (by decide)]; exact hn.2.2.2 i (by omega)
      have w23' : I2 3118 23 = nI hx := by rw [f2 3118 (by decide)]; exact h23
      have q := ih (i + 1) I2 (zu J1 3697 hx (J1 3697 hx + zHd (I 3472) (J 3505) (J 3537) (g 6) 0 0 (ca i))) (by omega) f2 (by
        funext k
        show _ = if k = ca i then nI hx else ySpd (I 3664) ca hx i k
        rw [hI2]
        by_cases e : k = ca i
        · rw [if_pos e, e, zu_at]
        · rw [if_neg e, zu_nj e, s1]) (fun c hc => by rw [zuR_ne hc]; exact j1 c hc) (fun k hk => by rw [zu_nj hk]; exact j2 k hk) (by rw [zu_at, j3, Int64.add_assoc]; rfl)
      rw [hI2] at p250 q w12' w23'
      rw [zo301_1]
      simp (decide := true) (disch := omega) only [v54, t1, w23, w12, w12', w23', p250, zi301, zt301, zo301_0, zo301_2, zy_ldI, zy_ldL, zy_ldA, zy_stI, zy_stL, zy_stA, zy_cI, zy_cL, zy_nul, zy_inc, zy_bI, zy_bL, zy_sL, zy_un, zy_cmp, zy_dup, zy_dup2, zy_pop, zy_pop2, zy_jn, zy_jnn, zy_go, zy_fal, zy_tsw, zy_lsw, zy_get, zy_put, zy_ald, zy_ast, zy_len, zy_newa, zy_new, zy_cal, zy_ret, zy_tak, zy_cst, zy_acp, zy_oini, zy_cln, zy_thr, zy_bad, zy_lco, zy_if0, zy_ic0, zy_if1, zy_ic1, zy_if2, zy_ic2, zy_if3, zy_ic3, zy_if4, zy_ic4, zy_if5, zy_ic5, zK_go, zK_to, zK_end, zK_callH, zK_iteC, zK_none, zsLd, zsSt, zsInc, zsBI, zsBL, zsSL, zsUn, zsCmp, zsDup, zsDup2, zsPop, zsPop2, zsJn, zsTsw, zsLsw, zsGet, zsPut, zsAld, zsAst, zsLen, zsNewa, zsCal, zsRet, zsCst, zsAcp, zsOini, zsCln, zsLco, zsThr, zxBI, zxBL, zxSL, zxU, zset1, zset2, zclr, zcat, zmake_mk, zcomp, zH_i, zH_l, zH_r, zH_u, zH_n, List.set_cons_zero, List.set_cons_succ, List.getElem?_cons_zero, List.getElem?_cons_succ, List.length_cons, List.length_nil, List.take_succ_cons, List.take_zero, List.drop_succ_cons, List.drop_zero, List.reverse_cons, List.reverse_nil, List.nil_append, List.cons_append, List.map_cons, List.map_nil, List.sum_cons, List.sum_nil, Option.toList_some, Option.toList_none, Value.category, Nat.reduceAdd, Nat.reduceMul, Nat.reduceMod, Nat.reduceDiv, Nat.reduceSub, Nat.reduceLT, Nat.reduceLeDiff, Nat.reduceEqDiff, Nat.zero_le, Nat.le_refl, Int32.reduceToNatClampNeg, Int32.reduceLT, Int32.reduceLE, Int32.reduceAdd, Int32.reduceSub, Int32.reduceMul, ↓reduceIte, reduceCtorEq, Nat.add_zero, Nat.zero_add, true_or, or_true, false_or, or_false, true_and, and_true, false_and, and_false, not_true_eq_false, not_false_eq_true, if_true, if_false, true_implies, false_implies, implies_true, forall_const, false_imp_iff, true_imp_iff, va_rf, zlay, zent, List.replicate_zero, List.append_nil, List.replicate_succ, List.length_append, ne_eq, Option.some.injEq, Value.int.injEq, Value.long.injEq, Int32.reduceOfNat, Int32.reduceToInt, Int.reduceLT, Int.reduceLE, Int.reduceSub, Int.reduceToNat, Int.reduceAdd, Int.reduceNeg, Int32.reduceDiv, Int64.reduceAdd, Int64.reduceSub, lg_cmp_ge, lg_cmp_le, lg_cmp_gt, lg_cmp_lt, lg_cmp_eq, wlt_t, wlt_f, wle_t, wle_f, wmod, wI_lt, wI_le, wI_eq, wI_neg, wI_pos, wI_cl, wI_ge, wI_po, w64_lt, w64_le, w64_eq, w64_lt0, w64_le0, w64_eq0, w64_32, zc317, zc319, wI_add, wI_a1, wI_s1, wI_e0, wI_m8, wI_m128, wI_m64, wI_m190, not_true_eq_false, not_false_eq_true, sP_3118_22 hS, sP_3118_25 hS, sP_3118_27 hS, sP_3118_53 hS, sN_3664 hS, sN_3697 hS, sN_3760 hS, sN_4112 hS, sN_6417 hS]
      exact q
  have q := li (C (zWi Z 0 1)) 0 I J (by omega) (fun _ _ => rfl) rfl (fun _ _ => rfl) (fun _ _ => rfl) (by show _ = _ + 0; rw [Int64.add_zero])
  have e0 : nI 0 = 0 := rfl
  rw [e0] at q
  simp (decide := true) (disch := omega) only [zi301, zt301, zo301_0, zo301_2, zy_ldI, zy_ldL, zy_ldA, zy_stI, zy_stL, zy_stA, zy_cI, zy_cL, zy_nul, zy_inc, zy_bI, zy_bL, zy_sL, zy_un, zy_cmp, zy_dup, zy_dup2, zy_pop, zy_pop2, zy_jn, zy_jnn, zy_go, zy_fal, zy_tsw, zy_lsw, zy_get, zy_put, zy_ald, zy_ast, zy_len, zy_newa, zy_new, zy_cal, zy_ret, zy_tak, zy_cst, zy_acp, zy_oini, zy_cln, zy_thr, zy_bad, zy_lco, zy_if0, zy_ic0, zy_if1, zy_ic1, zy_if2, zy_ic2, zy_if3, zy_ic3, zy_if4, zy_ic4, zy_if5, zy_ic5, zK_go, zK_to, zK_end, zK_callH, zK_iteC, zK_none, zsLd, zsSt, zsInc, zsBI, zsBL, zsSL, zsUn, zsCmp, zsDup, zsDup2, zsPop, zsPop2, zsJn, zsTsw, zsLsw, zsGet, zsPut, zsAld, zsAst, zsLen, zsNewa, zsCal, zsRet, zsCst, zsAcp, zsOini, zsCln, zsLco, zsThr, zxBI, zxBL, zxSL, zxU, zset1, zset2, zclr, zcat, zmake_mk, zcomp, zH_i, zH_l, zH_r, zH_u, zH_n, List.set_cons_zero, List.set_cons_succ, List.getElem?_cons_zero, List.getElem?_cons_succ, List.length_cons, List.length_nil, List.take_succ_cons, List.take_zero, List.drop_succ_cons, List.drop_zero, List.reverse_cons, List.reverse_nil, List.nil_append, List.cons_append, List.map_cons, List.map_nil, List.sum_cons, List.sum_nil, Option.toList_some, Option.toList_none, Value.category, Nat.reduceAdd, Nat.reduceMul, Nat.reduceMod, Nat.reduceDiv, Nat.reduceSub, Nat.reduceLT, Nat.reduceLeDiff, Nat.reduceEqDiff, Nat.zero_le, Nat.le_refl, Int32.reduceToNatClampNeg, Int32.reduceLT, Int32.reduceLE, Int32.reduceAdd, Int32.reduceSub, Int32.reduceMul, ↓reduceIte, reduceCtorEq, Nat.add_zero, Nat.zero_add, true_or, or_true, false_or, or_false, true_and, and_true, false_and, and_false, not_true_eq_false, not_false_eq_true, if_true, if_false, true_implies, false_implies, implies_true, forall_const, false_imp_iff, true_imp_iff, va_rf, zlay, zent, List.replicate_zero, List.append_nil, List.replicate_succ, List.length_append, ne_eq, Option.some.injEq, Value.int.injEq, Value.long.injEq, Int32.reduceOfNat, Int32.reduceToInt, Int.reduceLT, Int.reduceLE, Int.reduceSub, Int.reduceToNat, Int.reduceAdd, Int.reduceNeg, Int32.reduceDiv, Int64.reduceAdd, Int64.reduceSub, lg_cmp_ge, lg_cmp_le, lg_cmp_gt, lg_cmp_lt, lg_cmp_eq, wlt_t, wlt_f, wle_t, wle_f, wmod, wI_lt, wI_le, wI_eq, wI_neg, wI_pos, wI_cl, wI_ge, wI_po, w64_lt, w64_le, w64_eq, w64_lt0, w64_le0, w64_eq0, w64_32, zc317, zc319, wI_add, wI_a1, wI_s1, wI_e0, wI_m8, wI_m128, wI_m64, wI_m190, not_true_eq_false, not_false_eq_true, sP_3118_22 hS, sP_3118_25 hS, sP_3118_27 hS, sP_3118_53 hS, sN_3664 hS, sN_3697 hS, sN_3760 hS, sN_4112 hS, sN_6417 hS]
  exact q
/-- i outputs of a row were spent by the class -/
def yWs (I0 : zI) (I : zI) (g : Nat → Nat → Nat) (ia : Nat → Nat) (m hx i : Nat) : Prop := (∀ x, (∀ k, k < m → x ≠ 32 * g 0 k + 6) → I x = I0 x) ∧ ∀ k, k < m → (∀ j, j ≠ 4 → I (32 * g 0 k + 6) j = I0 (32 * g 0 k + 6) j) ∧ I (32 * g 0 k + 6) 4 = ySpd (I0 3664) ia hx i k
theorem yWs_0 (hO : zOuts I0 J P N I0 J g n m) : yWs I0 I0 g ia m hx 0 := ⟨fun _ _ => rfl, fun k hk => ⟨fun _ _ => rfl, (hO.1 k hk).2.1.2.2.1⟩⟩
theorem yg_i (hO : zOuts I0 J P N I0 J g n m) {i k : Nat} (hi : i < m) (hk : k < m) (e : g 0 i = g 0 k) : i = k := by
  rcases Nat.lt_trichotomy i k with h | h | h
  · have := hO.2 i k h hk; omega
  · exact h
  · have := hO.2 k i h hi; omega
theorem yWs_s (hO : zOuts I0 J P N I0 J g n m) {i : Nat} (hi : ia i < m) (h : yWs I0 I g ia m hx i) : yWs I0 (zu I (32 * g 0 (ia i) + 6) 4 (nI hx)) g ia m hx (i + 1) := by
  obtain ⟨a1, a2⟩ := h
  refine ⟨fun x hx' => by rw [zuR_ne (hx' _ hi)]; exact a1 x hx', fun k hk => ⟨fun j hj => ?_, ?_⟩⟩
  · rw [zu_nj hj]; exact (a2 k hk).1 j hj
  · show _ = if k = ia i then nI hx else ySpd (I0 3664) ia hx i k
    by_cases e : k = ia i
    · rw [if_pos e, e, zu_at]
    · rw [if_neg e, zuR_ne (fun e' => e (yg_i hO hk hi (by omega)))]
      exact (a2 k hk).2
theorem yWs_x (h : yWs I0 I g ia m hx a) {x : Nat} (h6 : x % 32 ≠ 6) : I x = I0 x := h.1 x (fun k _ => by omega)
set_option maxRecDepth 20000 in
set_option maxHeartbeats 4000000 in
/-- one is spent -/
theorem m62 {i : Nat} (hS : zStat P N) (v1 : I0 2115 2 = nI m) (v4 : I0 2115 4 = nI hx) (hm : m ≤ 1024) (hO : zOuts I0 J P N I0 J g n m) (hW : zWfO I0 J g m e hx s) (h : yWs I0 I g ia m hx i) (ha : a < m) (hl : ySpd (I0 3664) ia hx i a = -1) (Q : Option Value → zS → Prop) : zC 62 [.ref 2115, .long (nI a).toInt64] (I, J, P, N, n, z) Q = Q (some (.long (zHd (I0 3472) (J 3505) (J 3537) (g 6) 0 0 a))) (zu I (32 * g 0 a + 6) 4 (nI hx), J, P, N, n, z) := by
  refine zC_eq (fun Q hQ => ?_) Q
  have o := hO.1 a ha
  have w := hW a ha
  obtain ⟨⟨p1, p2, -⟩, -, -, -, -, -, -, hg⟩ := id o
  have g0 := hg 0 (by decide)
  have g1 := hg 1 (by decide)
  have g2 := hg 2 (by decide)
  have w1 : I 2115 2 = nI m := by rw [yWs_x h (by decide)]; exact v1
  have w4 : I 2115 4 = nI hx := by rw [yWs_x h (by decide)]; exact v4
  have w9 : I (32 * g 0 a + 6) 4 = -1 := (h.2 a ha).2.trans hl
  have r1 : (32 * g 0 a + 6) % 32 = 6 := by omega
  have p43 := fun (Q : Option Value → zS → Prop) => m43t (I := I) (J := J) (n := n) (z := z) (g := g) hS w1 hm ha p1 Q
  have hco := zO1_co o
  have hco' : zCo (zu I (32 * g 0 a + 6) 4 (nI hx)) P N (32 * g 1 a + 1) (32 * g 2 a + 16) (32 * g 3 a + 17) (32 * g 4 a + 17) (g 6 a) := by
    obtain ⟨c1, c2, c3, c4, c5⟩ := hco
    refine ⟨c1, c2, c3, ?_, c5⟩
    rw [zuR_ne (by omega), yWs_x h (by omega)]
    exact c4
  have p23 := fun (Q : Option Value → zS → Prop) => m23 (J := J) (n := n) (z := z) (p := 0) (x := 0) hco' Q
  rw [zuR_ne (show 32 * g 2 a + 16 ≠ 32 * g 0 a + 6 by omega), yWs_x h (show (32 * g 2 a + 16) % 32 ≠ 6 by omega), zO1_am o w.2.2.2.2.1] at p23
  have e1 : ¬ (1 : Int32) = 0 := by decide
  simp (decide := true) (disch := omega) only [p43, r1, w9, e1, w4, p2, p23, zi44, zt44, zo44_0, zo44_1, zo44_2, zi62, zt62, zo62_0, zo62_1, zi105, zt105, zo105_0, zo105_1, zo105_2, zy_ldI, zy_ldL, zy_ldA, zy_stI, zy_stL, zy_stA, zy_cI, zy_cL, zy_nul, zy_inc, zy_bI, zy_bL, zy_sL, zy_un, zy_cmp, zy_dup, zy_dup2, zy_pop, zy_pop2, zy_jn, zy_jnn, zy_go, zy_fal, zy_tsw, zy_lsw, zy_get, zy_put, zy_ald, zy_ast, zy_len, zy_newa, zy_new, zy_cal, zy_ret, zy_tak, zy_cst, zy_acp, zy_oini, zy_cln, zy_thr, zy_bad, zy_lco, zy_if0, zy_ic0, zy_if1, zy_ic1, zy_if2, zy_ic2, zy_if3, zy_ic3, zy_if4, zy_ic4, zy_if5, zy_ic5, zK_go, zK_to, zK_end, zK_callH, zK_iteC, zK_none, zsLd, zsSt, zsInc, zsBI, zsBL, zsSL, zsUn, zsCmp, zsDup, zsDup2, zsPop, zsPop2, zsJn, zsTsw, zsLsw, zsGet, zsPut, zsAld, zsAst, zsLen, zsNewa, zsCal, zsRet, zsCst, zsAcp, zsOini, zsCln, zsLco, zsThr, zxBI, zxBL, zxSL, zxU, zset1, zset2, zclr, zcat, zmake_mk, zcomp, zH_i, zH_l, zH_r, zH_u, zH_n, List.set_cons_zero, List.set_cons_succ, List.getElem?_cons_zero, List.getElem?_cons_succ, List.length_cons, List.length_nil, List.take_succ_cons, List.take_zero, List.drop_succ_cons, List.drop_zero, List.reverse_cons, List.reverse_nil, List.nil_append, List.cons_append, List.map_cons, List.map_nil, List.sum_cons, List.sum_nil, Option.toList_some, Option.toList_none, Value.category, Nat.reduceAdd, Nat.reduceMul, Nat.reduceMod, Nat.reduceDiv, Nat.reduceSub, Nat.reduceLT, Nat.reduceLeDiff, Nat.reduceEqDiff, Nat.zero_le, Nat.le_refl, Int32.reduceToNatClampNeg, Int32.reduceLT, Int32.reduceLE, Int32.reduceAdd, Int32.reduceSub, Int32.reduceMul, ↓reduceIte, reduceCtorEq, Nat.add_zero, Nat.zero_add, true_or, or_true, false_or, or_false, true_and, and_true, false_and, and_false, not_true_eq_false, not_false_eq_true, if_true, if_false, true_implies, false_implies, implies_true, forall_const, false_imp_iff, true_imp_iff, va_rf, zlay, zent, List.replicate_zero, List.append_nil, List.replicate_succ, List.length_append, ne_eq, Option.some.injEq, Value.int.injEq, Value.long.injEq, Int32.reduceOfNat, Int32.reduceToInt, Int.reduceLT, Int.reduceLE, Int.reduceSub, Int.reduceToNat, Int.reduceAdd, Int.reduceNeg, Int32.reduceDiv, Int64.reduceAdd, Int64.reduceSub, lg_cmp_ge, lg_cmp_le, lg_cmp_gt, lg_cmp_lt, lg_cmp_eq, wlt_t, wlt_f, wle_t, wle_f, wmod, wI_lt, wI_le, wI_eq, wI_neg, wI_pos, wI_cl, wI_ge, wI_po, w64_lt, w64_le, w64_eq, w64_lt0, w64_le0, w64_eq0, w64_32, zc317, zc319, wI_add, wI_a1, wI_s1, wI_e0, wI_m8, wI_m128, wI_m64, wI_m190, not_true_eq_false, not_false_eq_true, sN_6417 hS]
  exact hQ
set_option maxRecDepth 20000 in
set_option maxHeartbeats 4000000 in
theorem e61 (hS : zStat P N) (h : zHas I0 J F T C Z H X L K s) (v1 : I0 2115 2 = nI m) (v4 : I0 2115 4 = nI hx) (hm : m ≤ 1024) (hO : zOuts I0 J P N I0 J g n m) (hW : zWfO I0 J g m e hx s) (hcl : zNam (I0 3664) m (zcv T Z) ca (C (zWi Z 0 1))) (hcd : ∀ i, i < C (zWi Z 0 1) → ∀ k, k < i → ca k ≠ ca i)
    (hQ : ∀ I', yWs (zu I0 2115 8 (I0 2115 8 + 1)) I' g ca m hx (C (zWi Z 0 1)) → Q none (I', zu J 2115 6 (J 2115 6 + zsJ (fun i => zHd (I0 3472) (J 3505) (J 3537) (g 6) 0 0 (ca i)) (C (zWi Z 0 1))), P, N, n, z)) : zC 61 [.ref 2115, .ref 649] (I0, J, P, N, n, z) Q := by
  have c4 := (zTx_c h.2.2.2).2.1
  have cell : ∀ {x}, x < 6432 → ∀ k, k < m → x ≠ 32 * g 0 k + 6 := fun {x} hx' k hk => by
    have := (hO.1 k hk).2.2.2.2.2.2.2 0 (by decide)
    omega
  have li : ∀ r i (I1 : zI) (J1 : zJ), i + r = C (zWi Z 0 1) → yWs I0 I1 g ca m hx i → J1 = zu J 2115 6 (J 2115 6 + zsJ (fun i => zHd (I0 3472) (J 3505) (J 3537) (g 6) 0 0 (ca i)) i) → zQ zt61 zo61_1 [some (.ref 2115), some (.ref 649), some (.int (nI i))] [] (I1, J1, P, N, n, z) Q := by
    intro r
    induction r with
    | zero =>
      intro i I1 J1 hi hc hj
      obtain rfl : i = C (zWi Z 0 1) := by omega
      have lo : ∀ x, x < 6432 → I1 x = I0 x := fun x hx' => hc.1 x (cell hx')
      have hj' : ∀ c, c ≠ 2115 → J1 c = J c := fun c hc' => by rw [hj, zuR_ne hc']
      have h1 : zHas I1 J1 F T C Z H X L K s := zHas_y (fun c x1 x2 => ⟨lo c (by omega), hj' c (by omega)⟩) (by rw [lo 649 (by decide)]) (fun j _ => ⟨by rw [lo 79 (by decide)], by rw [lo 112 (by decide)], by rw [lo 144 (by decide)], by rw [lo 176 (by decide)], by rw [hj' 209 (by decide)]⟩) h
      have p125 := fun (Q : Option Value → zS → Prop) => m125 (n := n) (z := z) hS h1 Q
      have t1 : (nI (C (zWi Z 0 1)) ≤ nI (C (zWi Z 0 1))) = True := eq_true (Int32.le_refl _)
      have w8 : I1 2115 8 = I0 2115 8 := by rw [lo 2115 (by decide)]
      have q := hQ (zu I1 2115 8 (I0 2115 8 + 1)) ⟨fun x hx' => ?_, fun k hk => ?_⟩
      · subst hj
        rw [zo61_1]
        simp (decide := true) (disch := omega) only [p125, t1, w8, zi61, zt61, zo61_0, zo61_2, zy_ldI, zy_ldL, zy_ldA, zy_stI, zy_stL, zy_stA, zy_cI, zy_cL, zy_nul, zy_inc, zy_bI, zy_bL, zy_sL, zy_un, zy_cmp, zy_dup, zy_dup2, zy_pop, zy_pop2, zy_jn, zy_jnn, zy_go, zy_fal, zy_tsw, zy_lsw, zy_get, zy_put, zy_ald, zy_ast, zy_len, zy_newa, zy_new, zy_cal, zy_ret, zy_tak, zy_cst, zy_acp, zy_oini, zy_cln, zy_thr, zy_bad, zy_lco, zy_if0, zy_ic0, zy_if1, zy_ic1, zy_if2, zy_ic2, zy_if3, zy_ic3, zy_if4, zy_ic4, zy_if5, zy_ic5, zK_go, zK_to, zK_end, zK_callH, zK_iteC, zK_none, zsLd, zsSt, zsInc, zsBI, zsBL, zsSL, zsUn, zsCmp, zsDup, zsDup2, zsPop, zsPop2, zsJn, zsTsw, zsLsw, zsGet, zsPut, zsAld, zsAst, zsLen, zsNewa, zsCal, zsRet, zsCst, zsAcp, zsOini, zsCln, zsLco, zsThr, zxBI, zxBL, zxSL, zxU, zset1, zset2, zclr, zcat, zmake_mk, zcomp, zH_i, zH_l, zH_r, zH_u, zH_n, List.set_cons_zero, List.set_cons_succ, List.getElem?_cons_zero, List.getElem?_cons_succ, List.length_cons, List.length_nil, List.take_succ_cons, List.take_zero, List.drop_succ_cons, List.drop_zero, List.reverse_cons, List.reverse_nil, List.nil_append, List.cons_append, List.map_cons, List.map_nil, List.sum_cons, List.sum_nil, Option.toList_some, Option.toList_none, Value.category, Nat.reduceAdd, Nat.reduceMul, Nat.reduceMod, Nat.reduceDiv, Nat.reduceSub, Nat.reduceLT, Nat.reduceLeDiff, Nat.reduceEqDiff, Nat.zero_le, Nat.le_refl, Int32.reduceToNatClampNeg, Int32.reduceLT, Int32.reduceLE, Int32.reduceAdd, Int32.reduceSub, Int32.reduceMul, ↓reduceIte, reduceCtorEq, Nat.add_zero, Nat.zero_add, true_or, or_true, false_or, or_false, true_and, and_true, false_and, and_false, not_true_eq_false, not_false_eq_true, if_true, if_false, true_implies, false_implies, implies_true, forall_const, false_imp_iff, true_imp_iff, va_rf, zlay, zent, List.replicate_zero, List.append_nil, List.replicate_succ, List.length_append, ne_eq, Option.some.injEq, Value.int.injEq, Value.long.injEq, Int32.reduceOfNat, Int32.reduceToInt, Int.reduceLT, Int.reduceLE, Int.reduceSub, Int.reduceToNat, Int.reduceAdd, Int.reduceNeg, Int32.reduceDiv, Int64.reduceAdd, Int64.reduceSub, lg_cmp_ge, lg_cmp_le, lg_cmp_gt, lg_cmp_lt, lg_cmp_eq, wlt_t, wlt_f, wle_t, wle_f, wmod, wI_lt, wI_le, wI_eq, wI_neg, wI_pos, wI_cl, wI_ge, wI_po, w64_lt, w64_le, w64_eq, w64_lt0, w64_le0, w64_eq0, w64_32, zc317, zc319, wI_add, wI_a1, wI_s1, wI_e0, wI_m8, wI_m128, wI_m64, wI_m190, not_true_eq_false, not_false_eq_true, sN_6417 hS]
        exact q
      · by_cases e1 : x = 2115
        · subst e1
          funext j
          by_cases e2 : j = 8
          · rw [e2, zu_at, zu_at]
          · rw [zu_nj e2, zu_nj e2, lo 2115 (by decide)]
        · rw [zuR_ne e1, zuR_ne e1]; exact hc.1 x hx'
      · have ne := cell (x := 2115) (by decide) k hk
        rw [zuR_ne ne.symm, zuR_ne ne.symm, zuR_ne (by decide)]
        exact hc.2 k hk
    | succ r ih =>
      intro i I1 J1 hi hc hj
      have lo : ∀ x, x < 6432 → I1 x = I0 x := fun x hx' => hc.1 x (cell hx')
      have hj' : ∀ c, c ≠ 2115 → J1 c = J c := fun c hc' => by rw [hj, zuR_ne hc']
      have h1 : zHas I1 J1 F T C Z H X L K s := zHas_y (fun c x1 x2 => ⟨lo c (by omega), hj' c (by omega)⟩) (by rw [lo 649 (by decide)]) (fun j _ => ⟨by rw [lo 79 (by decide)], by rw [lo 112 (by decide)], by rw [lo 144 (by decide)], by rw [lo 176 (by decide)], by rw [hj' 209 (by decide)]⟩) h
      have p125 := fun (Q : Option Value → zS → Prop) => m125 (n := n) (z := z) hS h1 Q
      obtain ⟨x1, x2, x3⟩ := hcl i (by omega)
      have p126 := fun (Q : Option Value → zS → Prop) => m126 (n := n) (z := z) hS h1 (i := i) (by omega) Q
      rw [x2] at p126
      have t1 : ¬ nI (C (zWi Z 0 1)) ≤ nI i := by rw [wI_le (by omega) (by omega)]; omega
      have hl : ySpd (I0 3664) ca hx i (ca i) = -1 := by rw [ySpd_n i (fun j hj => hcd i (by omega) j hj)]; exact x3
      have big : ∀ c, 6432 ≤ c → J1 c = J c := fun c hc' => hj' c (by omega)
      have hO1 : zOuts I0 J1 P N I0 J1 g n m := by
        refine ⟨fun k hk => ?_, hO.2⟩
        have o := hO.1 k hk
        have q := o.2.2.2.2.2.2.2
        have q3 := q 3 (by decide)
        have q4 := q 4 (by decide)
        unfold zO1 at o ⊢
        rw [big (32 * g 3 k + 17) (by omega), big (32 * g 4 k + 17) (by omega), hj' 3505 (by decide), hj' 3537 (by decide)]
        exact o
      have hW1 : zWfO I0 J1 g m e hx s := by
        unfold zWfO at hW ⊢
        rw [hj' 3505 (by decide), hj' 3537 (by decide)]
        exact hW
      have p62 := fun (Q : Option Value → zS → Prop) => m62 (z := z) (J := J1) hS v1 v4 hm hO1 hW1 hc x1 hl Q
      rw [hj' 3505 (by decide), hj' 3537 (by decide)] at p62
      have w6 : J1 2115 6 = J 2115 6 + zsJ (fun i => zHd (I0 3472) (J 3505) (J 3537) (g 6) 0 0 (ca i)) i := by rw [hj, zu_at]
      have q := ih (i + 1) _ (zu J1 2115 6 (J1 2115 6 + zHd (I0 3472) (J 3505) (J 3537) (g 6) 0 0 (ca i))) (by omega) (yWs_s hO x1 hc) (by
        funext c j
        by_cases e1 : c = 2115
        · subst e1
          by_cases e2 : j = 6
          · rw [e2, zu_at, zu_at, w6, Int64.add_assoc]; rfl
          · rw [zu_nj e2, zu_nj e2, hj, zu_nj e2]
        · rw [zuR_ne e1, zuR_ne e1, hj' c e1])
      rw [zo61_1]
      simp (decide := true) (disch := omega) only [p125, t1, p126, p62, zi61, zt61, zo61_0, zo61_2, zy_ldI, zy_ldL, zy_ldA, zy_stI, zy_stL, zy_stA, zy_cI, zy_cL, zy_nul, zy_inc, zy_bI, zy_bL, zy_sL, zy_un, zy_cmp, zy_dup, zy_dup2, zy_pop, zy_pop2, zy_jn, zy_jnn, zy_go, zy_fal, zy_tsw, zy_lsw, zy_get, zy_put, zy_ald, zy_ast, zy_len, zy_newa, zy_new, zy_cal, zy_ret, zy_tak, zy_cst, zy_acp, zy_oini, zy_cln, zy_thr, zy_bad, zy_lco, zy_if0, zy_ic0, zy_if1, zy_ic1, zy_if2, zy_ic2, zy_if3, zy_ic3, zy_if4, zy_ic4, zy_if5, zy_ic5, zK_go, zK_to, zK_end, zK_callH, zK_iteC, zK_none, zsLd, zsSt, zsInc, zsBI, zsBL, zsSL, zsUn, zsCmp, zsDup, zsDup2, zsPop, zsPop2, zsJn, zsTsw, zsLsw, zsGet, zsPut, zsAld, zsAst, zsLen, zsNewa, zsCal, zsRet, zsCst, zsAcp, zsOini, zsCln, zsLco, zsThr, zxBI, zxBL, zxSL, zxU, zset1, zset2, zclr, zcat, zmake_mk, zcomp, zH_i, zH_l, zH_r, zH_u, zH_n, List.set_cons_zero, List.set_cons_succ, List.getElem?_cons_zero, List.getElem?_cons_succ, List.length_cons, List.length_nil, List.take_succ_cons, List.take_zero, List.drop_succ_cons, List.drop_zero, List.reverse_cons, List.reverse_nil, List.nil_append, List.cons_append, List.map_cons, List.map_nil, List.sum_cons, List.sum_nil, Option.toList_some, Option.toList_none, Value.category, Nat.reduceAdd, Nat.reduceMul, Nat.reduceMod, Nat.reduceDiv, Nat.reduceSub, Nat.reduceLT, Nat.reduceLeDiff, Nat.reduceEqDiff, Nat.zero_le, Nat.le_refl, Int32.reduceToNatClampNeg, Int32.reduceLT, Int32.reduceLE, Int32.reduceAdd, Int32.reduceSub, Int32.reduceMul, ↓reduceIte, reduceCtorEq, Nat.add_zero, Nat.zero_add, true_or, or_true, false_or, or_false, true_and, and_true, false_and, and_false, not_true_eq_false, not_false_eq_true, if_true, if_false, true_implies, false_implies, implies_true, forall_const, false_imp_iff, true_imp_iff, va_rf, zlay, zent, List.replicate_zero, List.append_nil, List.replicate_succ, List.length_append, ne_eq, Option.some.injEq, Value.int.injEq, Value.long.injEq, Int32.reduceOfNat, Int32.reduceToInt, Int.reduceLT, Int.reduceLE, Int.reduceSub, Int.reduceToNat, Int.reduceAdd, Int.reduceNeg, Int32.reduceDiv, Int64.reduceAdd, Int64.reduceSub, lg_cmp_ge, lg_cmp_le, lg_cmp_gt, lg_cmp_lt, lg_cmp_eq, wlt_t, wlt_f, wle_t, wle_f, wmod, wI_lt, wI_le, wI_eq, wI_neg, wI_pos, wI_cl, wI_ge, wI_po, w64_lt, w64_le, w64_eq, w64_lt0, w64_le0, w64_eq0, w64_32, zc317, zc319, wI_add, wI_a1, wI_s1, wI_e0, wI_m8, wI_m128, wI_m64, wI_m190, not_true_eq_false, not_false_eq_true, sN_6417 hS]
      exact q
  have q := li (C (zWi Z 0 1)) 0 I0 J (by omega) (yWs_0 hO) (by
    funext c j
    by_cases e1 : c = 2115
    · subst e1
      by_cases e2 : j = 6
      · rw [e2, zu_at]
        show _ = _ + 0
        rw [Int64.add_zero]
      · rw [zu_nj e2]
    · rw [zuR_ne e1])
  have e0 : nI 0 = 0 := rfl
  rw [e0] at q
  simp (decide := true) (disch := omega) only [zi61, zt61, zo61_0, zo61_2, zy_ldI, zy_ldL, zy_ldA, zy_stI, zy_stL, zy_stA, zy_cI, zy_cL, zy_nul, zy_inc, zy_bI, zy_bL, zy_sL, zy_un, zy_cmp, zy_dup, zy_dup2, zy_pop, zy_pop2, zy_jn, zy_jnn, zy_go, zy_fal, zy_tsw, zy_lsw, zy_get, zy_put, zy_ald, zy_ast, zy_len, zy_newa, zy_new, zy_cal, zy_ret, zy_tak, zy_cst, zy_acp, zy_oini, zy_cln, zy_thr, zy_bad, zy_lco, zy_if0, zy_ic0, zy_if1, zy_ic1, zy_if2, zy_ic2, zy_if3, zy_ic3, zy_if4, zy_ic4, zy_if5, zy_ic5, zK_go, zK_to, zK_end, zK_callH, zK_iteC, zK_none, zsLd, zsSt, zsInc, zsBI, zsBL, zsSL, zsUn, zsCmp, zsDup, zsDup2, zsPop, zsPop2, zsJn, zsTsw, zsLsw, zsGet, zsPut, zsAld, zsAst, zsLen, zsNewa, zsCal, zsRet, zsCst, zsAcp, zsOini, zsCln, zsLco, zsThr, zxBI, zxBL, zxSL, zxU, zset1, zset2, zclr, zcat, zmake_mk, zcomp, zH_i, zH_l, zH_r, zH_u, zH_n, List.set_cons_zero, List.set_cons_succ, List.getElem?_cons_zero, List.getElem?_cons_succ, List.length_cons, List.length_nil, List.take_succ_cons, List.take_zero, List.drop_succ_cons, List.drop_zero, List.reverse_cons, List.reverse_nil, List.nil_append, List.cons_append, List.map_cons, List.map_nil, List.sum_cons, List.sum_nil, Option.toList_some, Option.toList_none, Value.category, Nat.reduceAdd, Nat.reduceMul, Nat.reduceMod, Nat.reduceDiv, Nat.reduceSub, Nat.reduceLT, Nat.reduceLeDiff, Nat.reduceEqDiff, Nat.zero_le, Nat.le_refl, Int32.reduceToNatClampNeg, Int32.reduceLT, Int32.reduceLE, Int32.reduceAdd, Int32.reduceSub, Int32.reduceMul, ↓reduceIte, reduceCtorEq, Nat.add_zero, Nat.zero_add, true_or, or_true, false_or, or_false, true_and, and_true, false_and, and_false, not_true_eq_false, not_false_eq_true, if_true, if_false, true_implies, false_implies, implies_true, forall_const, false_imp_iff, true_imp_iff, va_rf, zlay, zent, List.replicate_zero, List.append_nil, List.replicate_succ, List.length_append, ne_eq, Option.some.injEq, Value.int.injEq, Value.long.injEq, Int32.reduceOfNat, Int32.reduceToInt, Int.reduceLT, Int.reduceLE, Int.reduceSub, Int.reduceToNat, Int.reduceAdd, Int.reduceNeg, Int32.reduceDiv, Int64.reduceAdd, Int64.reduceSub, lg_cmp_ge, lg_cmp_le, lg_cmp_gt, lg_cmp_lt, lg_cmp_eq, wlt_t, wlt_f, wle_t, wle_f, wmod, wI_lt, wI_le, wI_eq, wI_neg, wI_pos, wI_cl, wI_ge, wI_po, w64_lt, w64_le, w64_eq, w64_lt0, w64_le0, w64_eq0, w64_32, zc317, zc319, wI_add, wI_a1, wI_s1, wI_e0, wI_m8, wI_m128, wI_m64, wI_m190, not_true_eq_false, not_false_eq_true, sN_6417 hS]
  exact q
end
