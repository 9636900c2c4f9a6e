-- needs: 01 02.names 03 04 05 18 19 20 22 23 24 25 30 31 32 33 35 36 37 40 42 43 44 45 46 47 60 61 62 63 64 65 66 67 68 69 79f 79g 79h 79i 79j 79k 79l 79m 79n 79o 79p 79q 79r 79s 79t 79u 79v 79w 79x 79y 79z. 79za 79zb 79zc 79zd 79ze 79zf 79zg 79zh 79zi 79zj 79zk 79zl 79zm 79zn 79zo 79zp 79zq 79zr 79zs 79zt 79zu 79zv 7a 7b 7c 7d 7e 7f 7g 7zl 7zm 7zn 7zo 7h 7i 7j 7k 7l 7m 7n 7o 7p 7q 7r 7zj 7zk 7zp 7zq 7zr 7zs 7zt 7zu 79zw 7s 7t 7u 7v 7w 7x 7y 7z. 7za 7zb 7zc 7zd 7ze 7zf 7zg 7zh 7zi 7zv 7zw 7zx 7zy 7zz. 7zza 7zzb 7zzc 7zzd 7zze 7zzf 7zzg 7zzh 7zzi 7zzj 7zzk 7zzl 7zzm
/-! An output is made, by the reference -/
def yOm (I : zI) (J : zJ) (I' : zI) (J' : zJ) (m h : Nat) (a : Int32) (w : Nat) (po : Nat → Int32) (nx am : Nat → Int64) (ds : Nat) (by' : Nat → Int32) : Prop :=
  ((∀ x, x ≠ 3118 → x ≠ 3408 → x ≠ 3440 → x ≠ 3472 → x ≠ 3567 → x ≠ 3600 → x ≠ 3632 → x ≠ 3664 → I' x = I x) ∧ (∀ x, x ≠ 3505 → x ≠ 3537 → J' x = J x)) ∧ ((∀ j, j ≠ 11 → I' 3118 j = I 3118 j) ∧ I' 3118 11 = nI (m + 1)) ∧
  (∀ k, k ≠ m → I' 3408 k = I 3408 k ∧ I' 3440 k = I 3440 k ∧ I' 3600 k = I 3600 k ∧ I' 3632 k = I 3632 k ∧ I' 3664 k = I 3664 k) ∧ (∀ k, k < 8 * m ∨ 8 * m + 8 ≤ k → I' 3472 k = I 3472 k ∧ J' 3505 k = J 3505 k ∧ J' 3537 k = J 3537 k) ∧ (∀ k, k < 128 * m ∨ 128 * m + 128 ≤ k → I' 3567 k = I 3567 k) ∧
  (I' 3408 m = a ∧ I' 3440 m = nI w ∧ I' 3600 m = nI ds ∧ I' 3632 m = nI h ∧ I' 3664 m = -1) ∧ (∀ j, j < w → I' 3472 (8 * m + j) = po j ∧ J' 3505 (8 * m + j) = nx j ∧ J' 3537 (8 * m + j) = am j) ∧ ∀ j, j < ds → I' 3567 (128 * m + j) = by' j
section
variable {I I' : zI} {J J' : zJ} {P : zP} {N : Nat → Nat} {n z K s m h w ds k sz : Nat} {F C Z X H L : Nat → Nat} {T : Nat → Int64} {Q : Option Value → zS → Prop} {a : Int32} {po by' : Nat → Int32} {nx am : Nat → Int64}
theorem yOm_0 : yOm I J (zu (zu (zu (zu (zu (zu I 3118 11 (nI (m + 1))) 3408 m a) 3440 m 0) 3600 m 0) 3632 m (nI h)) 3664 m (-1)) J m h a 0 po nx am 0 by' := by
  refine ⟨⟨fun x x1 x2 x3 x4 x5 x6 x7 x8 => ?_, fun _ _ _ => rfl⟩, ⟨fun j hj => ?_, ?_⟩, fun k hk => ⟨?_, ?_, ?_, ?_, ?_⟩, fun k hk => ⟨?_, rfl, rfl⟩, fun k hk => ?_, ⟨?_, ?_, ?_, ?_, ?_⟩, fun j hj => by omega, fun j hj => by omega⟩
  · simp only [zuR_ne x1, zuR_ne x2, zuR_ne x3, zuR_ne x6, zuR_ne x7, zuR_ne x8]
  all_goals simp (disch := omega) only [zuR_ne, zu_nj, zu_at]
  all_goals rfl
theorem yOm_w (hw : w < 8) (H : yOm I J I' J' m h a w po nx am 0 by') : yOm I J (zu (zu I' 3472 (8 * m + w) (po w)) 3440 m (nI (w + 1))) (zu (zu J' 3505 (8 * m + w) (nx w)) 3537 (8 * m + w) (am w)) m h a (w + 1) po nx am 0 by' := by
  obtain ⟨⟨a1, a2⟩, ⟨a3, a4⟩, a5, a6, a7, ⟨b1, b2, b3, b4, b5⟩, c1, c2⟩ := H
  refine ⟨⟨fun x x1 x2 x3 x4 x5 x6 x7 x8 => ?_, fun x x1 x2 => ?_⟩, ⟨fun j hj => ?_, ?_⟩, fun k hk => ⟨?_, ?_, ?_, ?_, ?_⟩, fun k hk => ⟨?_, ?_, ?_⟩, fun k hk => ?_, ⟨?_, ?_, ?_, ?_, ?_⟩, fun j hj => ?_, fun j hj => by omega⟩
  · rw [zuR_ne x3, zuR_ne x4]; exact a1 x x1 x2 x3 x4 x5 x6 x7 x8
  · rw [zuR_ne x2, zuR_ne x1]; exact a2 x x1 x2
  · simp (disch := omega) only [zuR_ne]; exact a3 j hj
  · simp (disch := omega) only [zuR_ne]; exact a4
  · simp (disch := omega) only [zuR_ne]; exact (a5 k hk).1
  · simp (disch := omega) only [zuR_ne, zu_nj]; exact (a5 k hk).2.1
  · simp (disch := omega) only [zuR_ne]; exact (a5 k hk).2.2.1
  · simp (disch := omega) only [zuR_ne]; exact (a5 k hk).2.2.2.1
  · simp (disch := omega) only [zuR_ne]; exact (a5 k hk).2.2.2.2
  · simp (disch := omega) only [zuR_ne, zu_nj]; exact (a6 k hk).1
  · simp (disch := omega) only [zuR_ne, zu_nj]; exact (a6 k hk).2.1
  · simp (disch := omega) only [zuR_ne, zu_nj]; exact (a6 k hk).2.2
  · simp (disch := omega) only [zuR_ne]; exact a7 k hk
  · simp (disch := omega) only [zuR_ne]; exact b1
  · rw [zu_at]
  · simp (disch := omega) only [zuR_ne]; exact b3
  · simp (disch := omega) only [zuR_ne]; exact b4
  · simp (disch := omega) only [zuR_ne]; exact b5
  · by_cases e : j = w
    · subst e
      simp (disch := omega) only [zuR_ne, zu_at, and_self]
    · simp (disch := omega) only [zuR_ne, zu_nj]
      exact c1 j (by omega)
theorem yOm_d (hd : ds < 128) (H : yOm I J I' J' m h a w po nx am ds by') : yOm I J (zu (zu I' 3567 (128 * m + ds) (by' ds)) 3600 m (nI (ds + 1))) J' m h a w po nx am (ds + 1) by' := by
  obtain ⟨⟨a1, a2⟩, ⟨a3, a4⟩, a5, a6, a7, ⟨b1, b2, b3, b4, b5⟩, c1, c2⟩ := H
  refine ⟨⟨fun x x1 x2 x3 x4 x5 x6 x7 x8 => ?_, a2⟩, ⟨fun j hj => ?_, ?_⟩, fun k hk => ⟨?_, ?_, ?_, ?_, ?_⟩, fun k hk => ⟨?_, (a6 k hk).2⟩, fun k hk => ?_, ⟨?_, ?_, ?_, ?_, ?_⟩, fun j hj => ?_, fun j hj => ?_⟩
  · rw [zuR_ne x6, zuR_ne x5]; exact a1 x x1 x2 x3 x4 x5 x6 x7 x8
  · simp (disch := omega) only [zuR_ne]; exact a3 j hj
  · simp (disch := omega) only [zuR_ne]; exact a4
  · simp (disch := omega) only [zuR_ne]; exact (a5 k hk).1
  · simp (disch := omega) only [zuR_ne]; exact (a5 k hk).2.1
  · simp (disch := omega) only [zuR_ne, zu_nj]; exact (a5 k hk).2.2.1
  · simp (disch := omega) only [zuR_ne]; exact (a5 k hk).2.2.2.1
  · simp (disch := omega) only [zuR_ne]; exact (a5 k hk).2.2.2.2
  · simp (disch := omega) only [zuR_ne]; exact (a6 k hk).1
  · simp (disch := omega) only [zuR_ne, zu_nj]; exact a7 k hk
  · simp (disch := omega) only [zuR_ne]; exact b1
  · simp (disch := omega) only [zuR_ne]; exact b2
  · rw [zu_at]
  · simp (disch := omega) only [zuR_ne]; exact b4
  · simp (disch := omega) only [zuR_ne]; exact b5
  · simp (disch := omega) only [zuR_ne]; exact c1 j hj
  · by_cases e : j = ds
    · subst e
      simp (disch := omega) only [zuR_ne, zu_at]
    · simp (disch := omega) only [zuR_ne, zu_nj]
      exact c2 j (by omega)
set_option maxRecDepth 20000 in
set_option maxHeartbeats 8000000 in
theorem e299 (hS : zStat P N) (D : zDt F C Z L K) (hv : zMv I J F T C Z H X K) (h38 : I 3118 38 = nI K) (hk : k < K) (hkz : k + Z k < K) (hH : ∀ i j, i ≤ j → j < K → H i ≤ H j ∧ H j ≤ 4096) (hO : zOut F T C Z H s k) (h11 : I 3118 11 = nI m) (hm : m < 1024) (h23 : I 3118 23 = nI h) (hsz : H (zWi Z k 3) ≤ sz) (hb : ∀ j, j < sz → (I 3151 j).toInt8.toInt32 = I 3151 j)
    (hQ : ∀ I' J', yOm I J I' J' m h (zAdn T (k + 1)) (C (zWi Z k 1)) (zpo T (zWi Z k 1)) (zkx T (zWi Z k 1)) (zka T (zWi Z k 1)) (H (zWi Z k 3) - H (zWi Z k 2)) (fun j => I 3151 (H (zWi Z k 2) + j)) → Q none (I', J', P, N, n, z)) : zC 299 [.ref 3118, .int (nI k)] (I, J, P, N, n, z) Q := by
  have hK := D.1
  obtain ⟨g1, g2, g3, g4, g5⟩ := hO
  have h4 : 4 ≤ F k := by have := g1.1; omega
  have k3 := g1.2.2
  have c0 : k + 1 < K := zDt_ch D hk h4 (i := 0) (by omega)
  have c1 := zDt_ch D hk h4 (i := 1) (by omega)
  have c2 := zDt_ch D hk h4 (i := 2) (by omega)
  have c3 := zDt_end D hk h4
  rw [k3] at c3
  have w3 : zWi Z k 3 = zWi Z k 2 + Z (zWi Z k 2) := rfl
  have hh := hH (zWi Z k 2) (zWi Z k 3) (by omega) (by omega)
  have hz2 := (zDt_F D c2).2.2
  have ca : k + 2 < K := by
    have e : zWi Z k 1 = k + 1 + Z (k + 1) := rfl
    have := (D.2 _ c0).1
    omega
  have h4c : 4 ≤ F (zWi Z k 1) := by have := g3.1; omega
  have cw : ∀ j, j ≤ C (zWi Z k 1) → zWi Z (zWi Z k 1) j = zWi Z k 1 + 1 + 4 * j := fun j hj => zCns_w D c1 h4c j hj (fun i hi => g4 i (by omega))
  have ck : ∀ j, j < C (zWi Z k 1) → zWi Z k 1 + 1 + 4 * j + 3 < K := fun j hj => (zCoin_z D (by rw [← cw j (by omega)]; exact zDt_ch D c1 h4c hj) (g4 j hj)).2
  have c8 := g3.2.2
  have mvx : ∀ {I1 J1}, (∀ x, x ≠ 3118 → x ≠ 3408 → x ≠ 3440 → x ≠ 3472 → x ≠ 3567 → x ≠ 3600 → x ≠ 3632 → x ≠ 3664 → I1 x = I x) ∧ (∀ x, x ≠ 3505 → x ≠ 3537 → J1 x = J x) → zMv I1 J1 F T C Z H X K := fun {I1 J1} f => zMv_c (f.1 3792 (by decide) (by decide) (by decide) (by decide) (by decide) (by decide) (by decide) (by decide)) (f.2 3825 (by decide) (by decide)) (f.1 3856 (by decide) (by decide) (by decide) (by decide) (by decide) (by decide) (by decide) (by decide)) (f.1 3888 (by decide) (by decide) (by decide) (by decide) (by decide) (by decide) (by decide) (by decide)) (f.1 3920 (by decide) (by decide) (by decide) (by decide) (by decide) (by decide) (by decide) (by decide)) (f.1 3952 (by decide) (by decide) (by decide) (by decide) (by decide) (by decide) (by decide) (by decide)) hv
  have c128 : (128 : Int32) * nI m = nI (128 * m) := wI_mul (i := 128)
  have c8m : (8 : Int32) * nI m = nI (8 * m) := wI_mul (i := 8)
  -- bytes
  have lb : ∀ r b (I1 : zI) (J1 : zJ), b + r = H (zWi Z k 3) - H (zWi Z k 2) → yOm I J I1 J1 m h (zAdn T (k + 1)) (C (zWi Z k 1)) (zpo T (zWi Z k 1)) (zkx T (zWi Z k 1)) (zka T (zWi Z k 1)) b (fun j => I 3151 (H (zWi Z k 2) + j)) → zQ zt299 zo299_5 [some (.ref 3118), some (.int (nI k)), some (.int (nI m)), some (.int (nI (zWi Z k 1))), some (.int (nI (zWi Z k 2))), some (.int (nI (H (zWi Z k 2) + b)))] [] (I1, J1, P, N, n, z) Q := by
    intro r
    induction r with
    | zero =>
      intro b I1 J1 hb' Hm
      obtain rfl : b = H (zWi Z k 3) - H (zWi Z k 2) := by omega
      have q := hQ I1 J1 Hm
      have hv1 := mvx Hm.1
      have v4 := (hv1 _ c2).2.2.2.1
      have vh3 : I1 3920 (zWi Z k 2 + Z (zWi Z k 2)) = nI (H (zWi Z k 3)) := by rw [← w3]; exact (hv1 _ (by omega)).2.2.2.2.1
      have hlt : ¬ K ≤ zWi Z k 2 + Z (zWi Z k 2) := by omega
      have v38 : I1 3118 38 = nI K := by rw [Hm.2.1.1 38 (by decide)]; exact h38
      have t1 : (nI (H (zWi Z k 3)) ≤ nI (H (zWi Z k 2) + (H (zWi Z k 3) - H (zWi Z k 2)))) = True := eq_true (by rw [show H (zWi Z k 2) + (H (zWi Z k 3) - H (zWi Z k 2)) = H (zWi Z k 3) by omega]; exact Int32.le_refl _)
      rw [zo299_5]
      simp (decide := true) (disch := omega) only [v4, v38, hlt, vh3, t1, zi270, zt270, zo270_0, zo270_1, zo270_2, zi299, zt299, zo299_0, zo299_1, zo299_2, zo299_3, zo299_4, zo299_6, zy_ldI, zy_ldL, zy_ldA, zy_stI, zy_stL, zy_stA, zy_cI, zy_cL, zy_nul, zy_inc, zy_bI, zy_bL, zy_sL, zy_un, zy_cmp, zy_dup, zy_dup2, zy_pop, zy_pop2, zy_jn, zy_jnn, zy_go, zy_fal, zy_tsw, zy_lsw, zy_get, zy_put, zy_ald, zy_ast, zy_len, zy_newa, zy_new, zy_cal, zy_ret, zy_tak, zy_cst, zy_acp, zy_oini, zy_cln, zy_thr, zy_bad, zy_lco, zy_if0, zy_ic0, zy_if1, zy_ic1, zy_if2, zy_ic2, zy_if3, zy_ic3, zy_if4, zy_ic4, zy_if5, zy_ic5, zK_go, zK_to, zK_end, zK_callH, zK_iteC, zK_none, zsLd, zsSt, zsInc, zsBI, zsBL, zsSL, zsUn, zsCmp, zsDup, zsDup2, zsPop, zsPop2, zsJn, zsTsw, zsLsw, zsGet, zsPut, zsAld, zsAst, zsLen, zsNewa, zsCal, zsRet, zsCst, zsAcp, zsOini, zsCln, zsLco, zsThr, zxBI, zxBL, zxSL, zxU, zset1, zset2, zclr, zcat, zmake_mk, zcomp, zH_i, zH_l, zH_r, zH_u, zH_n, List.set_cons_zero, List.set_cons_succ, List.getElem?_cons_zero, List.getElem?_cons_succ, List.length_cons, List.length_nil, List.take_succ_cons, List.take_zero, List.drop_succ_cons, List.drop_zero, List.reverse_cons, List.reverse_nil, List.nil_append, List.cons_append, List.map_cons, List.map_nil, List.sum_cons, List.sum_nil, Option.toList_some, Option.toList_none, Value.category, Nat.reduceAdd, Nat.reduceMul, Nat.reduceMod, Nat.reduceDiv, Nat.reduceSub, Nat.reduceLT, Nat.reduceLeDiff, Nat.reduceEqDiff, Nat.zero_le, Nat.le_refl, Int32.reduceToNatClampNeg, Int32.reduceLT, Int32.reduceLE, Int32.reduceAdd, Int32.reduceSub, Int32.reduceMul, ↓reduceIte, reduceCtorEq, Nat.add_zero, Nat.zero_add, true_or, or_true, false_or, or_false, true_and, and_true, false_and, and_false, not_true_eq_false, not_false_eq_true, if_true, if_false, true_implies, false_implies, implies_true, forall_const, false_imp_iff, true_imp_iff, va_rf, zlay, zent, List.replicate_zero, List.append_nil, List.replicate_succ, List.length_append, ne_eq, Option.some.injEq, Value.int.injEq, Value.long.injEq, Int32.reduceOfNat, Int32.reduceToInt, Int.reduceLT, Int.reduceLE, Int.reduceSub, Int.reduceToNat, Int.reduceAdd, Int.reduceNeg, Int32.reduceDiv, Int64.reduceAdd, Int64.reduceSub, lg_cmp_ge, lg_cmp_le, lg_cmp_gt, lg_cmp_lt, lg_cmp_eq, wlt_t, wlt_f, wle_t, wle_f, wmod, wI_lt, wI_le, wI_eq, wI_neg, wI_pos, wI_cl, wI_ge, wI_po, w64_lt, w64_le, w64_eq, w64_lt0, w64_le0, w64_eq0, w64_32, zc317, zc319, wI_add, wI_a1, wI_s1, wI_e0, wI_m8, wI_m128, wI_m64, wI_m190, not_true_eq_false, not_false_eq_true, sP_3118_1 hS, sP_3118_19 hS, sP_3118_20 hS, sP_3118_40 hS, sP_3118_41 hS, sP_3118_42 hS, sP_3118_43 hS, sN_3151 hS, sN_3567 hS, sN_3600 hS, sN_3825 hS, sN_3856 hS, sN_3888 hS, sN_3920 hS, sN_6417 hS]
      exact q
    | succ r ih =>
      intro b I1 J1 hb' Hm
      have hv1 := mvx Hm.1
      have v4 := (hv1 _ c2).2.2.2.1
      have vh3 : I1 3920 (zWi Z k 2 + Z (zWi Z k 2)) = nI (H (zWi Z k 3)) := by rw [← w3]; exact (hv1 _ (by omega)).2.2.2.2.1
      have hlt : ¬ K ≤ zWi Z k 2 + Z (zWi Z k 2) := by omega
      have v38 : I1 3118 38 = nI K := by rw [Hm.2.1.1 38 (by decide)]; exact h38
      have t1 : ¬ nI (H (zWi Z k 3)) ≤ nI (H (zWi Z k 2) + b) := by rw [wI_le (by omega) (by omega)]; omega
      have v5 := Hm.2.2.2.2.2.1.2.2.1
      have v6 : I1 3151 (H (zWi Z k 2) + b) = I 3151 (H (zWi Z k 2) + b) := by rw [Hm.1.1 3151 (by decide) (by decide) (by decide) (by decide) (by decide) (by decide) (by decide) (by decide)]
      have v7 := hb (H (zWi Z k 2) + b) (by omega)
      have q := ih (b + 1) _ J1 (by omega) (yOm_d (by omega) Hm)
      rw [show H (zWi Z k 2) + (b + 1) = H (zWi Z k 2) + b + 1 by omega] at q
      have e1 : nI (128 * m) + nI b = nI (128 * m + b) := wI_add
      rw [zo299_5]
      simp (decide := true) (disch := omega) only [v4, v38, hlt, vh3, t1, c128, v5, e1, v6, v7, zuR_ne, zi270, zt270, zo270_0, zo270_1, zo270_2, zi299, zt299, zo299_0, zo299_1, zo299_2, zo299_3, zo299_4, zo299_6, zy_ldI, zy_ldL, zy_ldA, zy_stI, zy_stL, zy_stA, zy_cI, zy_cL, zy_nul, zy_inc, zy_bI, zy_bL, zy_sL, zy_un, zy_cmp, zy_dup, zy_dup2, zy_pop, zy_pop2, zy_jn, zy_jnn, zy_go, zy_fal, zy_tsw, zy_lsw, zy_get, zy_put, zy_ald, zy_ast, zy_len, zy_newa, zy_new, zy_cal, zy_ret, zy_tak, zy_cst, zy_acp, zy_oini, zy_cln, zy_thr, zy_bad, zy_lco, zy_if0, zy_ic0, zy_if1, zy_ic1, zy_if2, zy_ic2, zy_if3, zy_ic3, zy_if4, zy_ic4, zy_if5, zy_ic5, zK_go, zK_to, zK_end, zK_callH, zK_iteC, zK_none, zsLd, zsSt, zsInc, zsBI, zsBL, zsSL, zsUn, zsCmp, zsDup, zsDup2, zsPop, zsPop2, zsJn, zsTsw, zsLsw, zsGet, zsPut, zsAld, zsAst, zsLen, zsNewa, zsCal, zsRet, zsCst, zsAcp, zsOini, zsCln, zsLco, zsThr, zxBI, zxBL, zxSL, zxU, zset1, zset2, zclr, zcat, zmake_mk, zcomp, zH_i, zH_l, zH_r, zH_u, zH_n, List.set_cons_zero, List.set_cons_succ, List.getElem?_cons_zero, List.getElem?_cons_succ, List.length_cons, List.length_nil, List.take_succ_cons, List.take_zero, List.drop_succ_cons, List.drop_zero, List.reverse_cons, List.reverse_nil, List.nil_append, List.cons_append, List.map_cons, List.map_nil, List.sum_cons, List.sum_nil, Option.toList_some, Option.toList_none, Value.category, Nat.reduceAdd, Nat.reduceMul, Nat.reduceMod, Nat.reduceDiv, Nat.reduceSub, Nat.reduceLT, Nat.reduceLeDiff, Nat.reduceEqDiff, Nat.zero_le, Nat.le_refl, Int32.reduceToNatClampNeg, Int32.reduceLT, Int32.reduceLE, Int32.reduceAdd, Int32.reduceSub, Int32.reduceMul, ↓reduceIte, reduceCtorEq, Nat.add_zero, Nat.zero_add, true_or, or_true, false_or, or_false, true_and, and_true, false_and, and_false, not_true_eq_false, not_false_eq_true, if_true, if_false, true_implies, false_implies, implies_true, forall_const, false_imp_iff, true_imp_iff, va_rf, zlay, zent, List.replicate_zero, List.append_nil, List.replicate_succ, List.length_append, ne_eq, Option.some.injEq, Value.int.injEq, Value.long.injEq, Int32.reduceOfNat, Int32.reduceToInt, Int.reduceLT, Int.reduceLE, Int.reduceSub, Int.reduceToNat, Int.reduceAdd, Int.reduceNeg, Int32.reduceDiv, Int64.reduceAdd, Int64.reduceSub, lg_cmp_ge, lg_cmp_le, lg_cmp_gt, lg_cmp_lt, lg_cmp_eq, wlt_t, wlt_f, wle_t, wle_f, wmod, wI_lt, wI_le, wI_eq, wI_neg, wI_pos, wI_cl, wI_ge, wI_po, w64_lt, w64_le, w64_eq, w64_lt0, w64_le0, w64_eq0, w64_32, zc317, zc319, wI_add, wI_a1, wI_s1, wI_e0, wI_m8, wI_m128, wI_m64, wI_m190, not_true_eq_false, not_false_eq_true, sP_3118_1 hS, sP_3118_19 hS, sP_3118_20 hS, sP_3118_40 hS, sP_3118_41 hS, sP_3118_42 hS, sP_3118_43 hS, sN_3151 hS, sN_3567 hS, sN_3600 hS, sN_3825 hS, sN_3856 hS, sN_3888 hS, sN_3920 hS, sN_6417 hS]
      exact q
  -- coins
  have lc : ∀ r j (I1 : zI) (J1 : zJ) u5, j + r = C (zWi Z k 1) → yOm I J I1 J1 m h (zAdn T (k + 1)) j (zpo T (zWi Z k 1)) (zkx T (zWi Z k 1)) (zka T (zWi Z k 1)) 0 (fun j => I 3151 (H (zWi Z k 2) + j)) → zQ zt299 zo299_3 [some (.ref 3118), some (.int (nI k)), some (.int (nI m)), some (.int (nI (zWi Z k 1))), some (.int (nI j)), u5] [] (I1, J1, P, N, n, z) Q := by
    intro r
    induction r with
    | zero =>
      intro j I1 J1 u5 hj Hm
      obtain rfl : j = C (zWi Z k 1) := by omega
      have hv1 := mvx Hm.1
      have q := lb (H (zWi Z k 3) - H (zWi Z k 2)) 0 I1 J1 (by omega) Hm
      rw [Nat.add_zero] at q
      have pb := fun (Q : Option Value → zS → Prop) => n266 (n := n) (z := z) (c := 2) (x := 2) hS D hv1 hk h4 (by omega) rfl Q
      have vc : I1 3856 (zWi Z k 1) = nI (C (zWi Z k 1)) := by
        have := (hv1 _ c1).2.2.1
        unfold zCq at this
        rw [if_neg (by have := g3.1; omega)] at this
        exact this
      have vh : I1 3920 (zWi Z k 2) = nI (H (zWi Z k 2)) := (hv1 _ c2).2.2.2.2.1
      have t1 : (nI (C (zWi Z k 1)) ≤ nI (C (zWi Z k 1))) = True := eq_true (Int32.le_refl _)
      rw [zo299_3]
      simp (decide := true) (disch := omega) only [vc, t1, pb, vh, zi270, zt270, zo270_0, zo270_1, zo270_2, zi299, zt299, zo299_0, zo299_1, zo299_2, zo299_4, zo299_6, zy_ldI, zy_ldL, zy_ldA, zy_stI, zy_stL, zy_stA, zy_cI, zy_cL, zy_nul, zy_inc, zy_bI, zy_bL, zy_sL, zy_un, zy_cmp, zy_dup, zy_dup2, zy_pop, zy_pop2, zy_jn, zy_jnn, zy_go, zy_fal, zy_tsw, zy_lsw, zy_get, zy_put, zy_ald, zy_ast, zy_len, zy_newa, zy_new, zy_cal, zy_ret, zy_tak, zy_cst, zy_acp, zy_oini, zy_cln, zy_thr, zy_bad, zy_lco, zy_if0, zy_ic0, zy_if1, zy_ic1, zy_if2, zy_ic2, zy_if3, zy_ic3, zy_if4, zy_ic4, zy_if5, zy_ic5, zK_go, zK_to, zK_end, zK_callH, zK_iteC, zK_none, zsLd, zsSt, zsInc, zsBI, zsBL, zsSL, zsUn, zsCmp, zsDup, zsDup2, zsPop, zsPop2, zsJn, zsTsw, zsLsw, zsGet, zsPut, zsAld, zsAst, zsLen, zsNewa, zsCal, zsRet, zsCst, zsAcp, zsOini, zsCln, zsLco, zsThr, zxBI, zxBL, zxSL, zxU, zset1, zset2, zclr, zcat, zmake_mk, zcomp, zH_i, zH_l, zH_r, zH_u, zH_n, List.set_cons_zero, List.set_cons_succ, List.getElem?_cons_zero, List.getElem?_cons_succ, List.length_cons, List.length_nil, List.take_succ_cons, List.take_zero, List.drop_succ_cons, List.drop_zero, List.reverse_cons, List.reverse_nil, List.nil_append, List.cons_append, List.map_cons, List.map_nil, List.sum_cons, List.sum_nil, Option.toList_some, Option.toList_none, Value.category, Nat.reduceAdd, Nat.reduceMul, Nat.reduceMod, Nat.reduceDiv, Nat.reduceSub, Nat.reduceLT, Nat.reduceLeDiff, Nat.reduceEqDiff, Nat.zero_le, Nat.le_refl, Int32.reduceToNatClampNeg, Int32.reduceLT, Int32.reduceLE, Int32.reduceAdd, Int32.reduceSub, Int32.reduceMul, ↓reduceIte, reduceCtorEq, Nat.add_zero, Nat.zero_add, true_or, or_true, false_or, or_false, true_and, and_true, false_and, and_false, not_true_eq_false, not_false_eq_true, if_true, if_false, true_implies, false_implies, implies_true, forall_const, false_imp_iff, true_imp_iff, va_rf, zlay, zent, List.replicate_zero, List.append_nil, List.replicate_succ, List.length_append, ne_eq, Option.some.injEq, Value.int.injEq, Value.long.injEq, Int32.reduceOfNat, Int32.reduceToInt, Int.reduceLT, Int.reduceLE, Int.reduceSub, Int.reduceToNat, Int.reduceAdd, Int.reduceNeg, Int32.reduceDiv, Int64.reduceAdd, Int64.reduceSub, lg_cmp_ge, lg_cmp_le, lg_cmp_gt, lg_cmp_lt, lg_cmp_eq, wlt_t, wlt_f, wle_t, wle_f, wmod, wI_lt, wI_le, wI_eq, wI_neg, wI_pos, wI_cl, wI_ge, wI_po, w64_lt, w64_le, w64_eq, w64_lt0, w64_le0, w64_eq0, w64_32, zc317, zc319, wI_add, wI_a1, wI_s1, wI_e0, wI_m8, wI_m128, wI_m64, wI_m190, not_true_eq_false, not_false_eq_true, sP_3118_1 hS, sP_3118_19 hS, sP_3118_20 hS, sP_3118_40 hS, sP_3118_41 hS, sP_3118_42 hS, sP_3118_43 hS, sN_3151 hS, sN_3567 hS, sN_3600 hS, sN_3825 hS, sN_3856 hS, sN_3888 hS, sN_3920 hS, sN_6417 hS]
      exact q
    | succ r ih =>
      intro j I1 J1 u5 hj Hm
      have hv1 := mvx Hm.1
      have vc : I1 3856 (zWi Z k 1) = nI (C (zWi Z k 1)) := by
        have := (hv1 _ c1).2.2.1
        unfold zCq at this
        rw [if_neg (by have := g3.1; omega)] at this
        exact this
      have t1 : ¬ nI (C (zWi Z k 1)) ≤ nI j := by rw [wI_le (by omega) (by omega)]; omega
      have pa := fun (Q : Option Value → zS → Prop) => n266 (n := n) (z := z) (c := j) (x := nI j) hS D hv1 c1 h4c (by omega) rfl Q
      rw [cw j (by omega)] at pa
      have kk := ck j (by omega)
      obtain ⟨d, hd⟩ : ∃ d, d = zWi Z k 1 + 1 + 4 * j := ⟨_, rfl⟩
      rw [← hd] at pa kk
      have t2 : J1 3825 (d + 1) = T (d + 1) := (hv1 _ (by omega)).2.1
      have t3 : J1 3825 (d + 2) = T (d + 2) := (hv1 _ (by omega)).2.1
      have t4 : J1 3825 (d + 3) = T (d + 3) := (hv1 _ (by omega)).2.1
      have v5 := Hm.2.2.2.2.2.1.2.1
      have q := ih (j + 1) _ _ (some (.int (nI d))) (by omega) (yOm_w (by omega) Hm)
      have e1 : nI (8 * m) + nI j = nI (8 * m + j) := wI_add
      have ea2 : nI d + 2 = nI (d + 2) := wI_add (j := 2)
      have ea3 : nI d + 3 = nI (d + 3) := wI_add (j := 3)
      have e5 : zpo T (zWi Z k 1) j = (T (d + 1)).toInt32 := by rw [hd]; rfl
      have e6 : zkx T (zWi Z k 1) j = T (d + 2) := by rw [hd]; rfl
      have e7 : zka T (zWi Z k 1) j = T (d + 3) := by rw [hd]; rfl
      rw [e5, e6, e7] at q
      rw [zo299_3]
      simp (decide := true) (disch := omega) only [vc, t1, pa, ea2, ea3, t2, t3, t4, c8m, v5, e1, zuR_ne, zi254, zt254, zo254_0, zi270, zt270, zo270_0, zo270_1, zo270_2, zi299, zt299, zo299_0, zo299_1, zo299_2, zo299_4, zo299_6, zy_ldI, zy_ldL, zy_ldA, zy_stI, zy_stL, zy_stA, zy_cI, zy_cL, zy_nul, zy_inc, zy_bI, zy_bL, zy_sL, zy_un, zy_cmp, zy_dup, zy_dup2, zy_pop, zy_pop2, zy_jn, zy_jnn, zy_go, zy_fal, zy_tsw, zy_lsw, zy_get, zy_put, zy_ald, zy_ast, zy_len, zy_newa, zy_new, zy_cal, zy_ret, zy_tak, zy_cst, zy_acp, zy_oini, zy_cln, zy_thr, zy_bad, zy_lco, zy_if0, zy_ic0, zy_if1, zy_ic1, zy_if2, zy_ic2, zy_if3, zy_ic3, zy_if4, zy_ic4, zy_if5, zy_ic5, zK_go, zK_to, zK_end, zK_callH, zK_iteC, zK_none, zsLd, zsSt, zsInc, zsBI, zsBL, zsSL, zsUn, zsCmp, zsDup, zsDup2, zsPop, zsPop2, zsJn, zsTsw, zsLsw, zsGet, zsPut, zsAld, zsAst, zsLen, zsNewa, zsCal, zsRet, zsCst, zsAcp, zsOini, zsCln, zsLco, zsThr, zxBI, zxBL, zxSL, zxU, zset1, zset2, zclr, zcat, zmake_mk, zcomp, zH_i, zH_l, zH_r, zH_u, zH_n, List.set_cons_zero, List.set_cons_succ, List.getElem?_cons_zero, List.getElem?_cons_succ, List.length_cons, List.length_nil, List.take_succ_cons, List.take_zero, List.drop_succ_cons, List.drop_zero, List.reverse_cons, List.reverse_nil, List.nil_append, List.cons_append, List.map_cons, List.map_nil, List.sum_cons, List.sum_nil, Option.toList_some, Option.toList_none, Value.category, Nat.reduceAdd, Nat.reduceMul, Nat.reduceMod, Nat.reduceDiv, Nat.reduceSub, Nat.reduceLT, Nat.reduceLeDiff, Nat.reduceEqDiff, Nat.zero_le, Nat.le_refl, Int32.reduceToNatClampNeg, Int32.reduceLT, Int32.reduceLE, Int32.reduceAdd, Int32.reduceSub, Int32.reduceMul, ↓reduceIte, reduceCtorEq, Nat.add_zero, Nat.zero_add, true_or, or_true, false_or, or_false, true_and, and_true, false_and, and_false, not_true_eq_false, not_false_eq_true, if_true, if_false, true_implies, false_implies, implies_true, forall_const, false_imp_iff, true_imp_iff, va_rf, zlay, zent, List.replicate_zero, List.append_nil, List.replicate_succ, List.length_append, ne_eq, Option.some.injEq, Value.int.injEq, Value.long.injEq, Int32.reduceOfNat, Int32.reduceToInt, Int.reduceLT, Int.reduceLE, Int.reduceSub, Int.reduceToNat, Int.reduceAdd, Int.reduceNeg, Int32.reduceDiv, Int64.reduceAdd, Int64.reduceSub, lg_cmp_ge, lg_cmp_le, lg_cmp_gt, lg_cmp_lt, lg_cmp_eq, wlt_t, wlt_f, wle_t, wle_f, wmod, wI_lt, wI_le, wI_eq, wI_neg, wI_pos, wI_cl, wI_ge, wI_po, w64_lt, w64_le, w64_eq, w64_lt0, w64_le0, w64_eq0, w64_32, zc317, zc319, wI_add, wI_a1, wI_s1, wI_e0, wI_m8, wI_m128, wI_m64, wI_m190, not_true_eq_false, not_false_eq_true, sP_3118_1 hS, sP_3118_15 hS, sP_3118_16 hS, sP_3118_17 hS, sP_3118_18 hS, sP_3118_19 hS, sP_3118_20 hS, sP_3118_40 hS, sP_3118_41 hS, sP_3118_42 hS, sP_3118_43 hS, sN_3151 hS, sN_3440 hS, sN_3472 hS, sN_3505 hS, sN_3537 hS, sN_3567 hS, sN_3600 hS, sN_3825 hS, sN_3856 hS, sN_3888 hS, sN_3920 hS, sN_6417 hS]
      exact q
  have pa := fun (Q : Option Value → zS → Prop) => n266 (n := n) (z := z) (I := zu (zu (zu (zu (zu (zu I 3118 11 (nI (m + 1))) 3408 m (zAdn T (k + 1))) 3440 m 0) 3600 m 0) 3632 m (nI h)) 3664 m (-1)) (J := J) (c := 1) (x := 1) hS D (mvx (yOm_0 (by' := fun _ => 0) (po := fun _ => 0) (nx := fun _ => 0) (am := fun _ => 0)).1) hk h4 (by omega) rfl Q
  have q := lc (C (zWi Z k 1)) 0 _ J none (by omega) yOm_0
  have e0 : nI 0 = 0 := rfl
  rw [e0] at q
  have t1 : J 3825 (k + 1) = T (k + 1) := (hv _ (by omega)).2.1
  have t2 : J 3825 (k + 2) = T (k + 2) := (hv _ (by omega)).2.1
  have ek2 : nI k + 2 = nI (k + 2) := wI_add (j := 2)
  by_cases ht : T (k + 1) = 0
  · have ea : zAdn T (k + 1) = (T (k + 2)).toInt32 := if_pos ht
    rw [ea] at q pa
    have e3 : (T (k + 1)).toInt32 = 0 := by rw [ht]; rfl
    simp (decide := true) (disch := omega) only [t1, ek2, t2, e3, h11, h23, pa, zuR_ne, zu_nj, zi253, zt253, zo253_0, zi254, zt254, zo254_0, zi270, zt270, zo270_0, zo270_1, zo270_2, zi299, zt299, zo299_0, zo299_1, zo299_2, zo299_4, zo299_6, zy_ldI, zy_ldL, zy_ldA, zy_stI, zy_stL, zy_stA, zy_cI, zy_cL, zy_nul, zy_inc, zy_bI, zy_bL, zy_sL, zy_un, zy_cmp, zy_dup, zy_dup2, zy_pop, zy_pop2, zy_jn, zy_jnn, zy_go, zy_fal, zy_tsw, zy_lsw, zy_get, zy_put, zy_ald, zy_ast, zy_len, zy_newa, zy_new, zy_cal, zy_ret, zy_tak, zy_cst, zy_acp, zy_oini, zy_cln, zy_thr, zy_bad, zy_lco, zy_if0, zy_ic0, zy_if1, zy_ic1, zy_if2, zy_ic2, zy_if3, zy_ic3, zy_if4, zy_ic4, zy_if5, zy_ic5, zK_go, zK_to, zK_end, zK_callH, zK_iteC, zK_none, zsLd, zsSt, zsInc, zsBI, zsBL, zsSL, zsUn, zsCmp, zsDup, zsDup2, zsPop, zsPop2, zsJn, zsTsw, zsLsw, zsGet, zsPut, zsAld, zsAst, zsLen, zsNewa, zsCal, zsRet, zsCst, zsAcp, zsOini, zsCln, zsLco, zsThr, zxBI, zxBL, zxSL, zxU, zset1, zset2, zclr, zcat, zmake_mk, zcomp, zH_i, zH_l, zH_r, zH_u, zH_n, List.set_cons_zero, List.set_cons_succ, List.getElem?_cons_zero, List.getElem?_cons_succ, List.length_cons, List.length_nil, List.take_succ_cons, List.take_zero, List.drop_succ_cons, List.drop_zero, List.reverse_cons, List.reverse_nil, List.nil_append, List.cons_append, List.map_cons, List.map_nil, List.sum_cons, List.sum_nil, Option.toList_some, Option.toList_none, Value.category, Nat.reduceAdd, Nat.reduceMul, Nat.reduceMod, Nat.reduceDiv, Nat.reduceSub, Nat.reduceLT, Nat.reduceLeDiff, Nat.reduceEqDiff, Nat.zero_le, Nat.le_refl, Int32.reduceToNatClampNeg, Int32.reduceLT, Int32.reduceLE, Int32.reduceAdd, Int32.reduceSub, Int32.reduceMul, ↓reduceIte, reduceCtorEq, Nat.add_zero, Nat.zero_add, true_or, or_true, false_or, or_false, true_and, and_true, false_and, and_false, not_true_eq_false, not_false_eq_true, if_true, if_false, true_implies, false_implies, implies_true, forall_const, false_imp_iff, true_imp_iff, va_rf, zlay, zent, List.replicate_zero, List.append_nil, List.replicate_succ, List.length_append, ne_eq, Option.some.injEq, Value.int.injEq, Value.long.injEq, Int32.reduceOfNat, Int32.reduceToInt, Int.reduceLT, Int.reduceLE, Int.reduceSub, Int.reduceToNat, Int.reduceAdd, Int.reduceNeg, Int32.reduceDiv, Int64.reduceAdd, Int64.reduceSub, lg_cmp_ge, lg_cmp_le, lg_cmp_gt, lg_cmp_lt, lg_cmp_eq, wlt_t, wlt_f, wle_t, wle_f, wmod, wI_lt, wI_le, wI_eq, wI_neg, wI_pos, wI_cl, wI_ge, wI_po, w64_lt, w64_le, w64_eq, w64_lt0, w64_le0, w64_eq0, w64_32, zc317, zc319, wI_add, wI_a1, wI_s1, wI_e0, wI_m8, wI_m128, wI_m64, wI_m190, not_true_eq_false, not_false_eq_true, sP_3118_1 hS, sP_3118_14 hS, sP_3118_15 hS, sP_3118_16 hS, sP_3118_17 hS, sP_3118_18 hS, sP_3118_19 hS, sP_3118_20 hS, sP_3118_21 hS, sP_3118_22 hS, sP_3118_40 hS, sP_3118_41 hS, sP_3118_42 hS, sP_3118_43 hS, sN_3151 hS, sN_3408 hS, sN_3440 hS, sN_3472 hS, sN_3505 hS, sN_3537 hS, sN_3567 hS, sN_3600 hS, sN_3632 hS, sN_3664 hS, sN_3825 hS, sN_3856 hS, sN_3888 hS, sN_3920 hS, sN_6417 hS]
    exact q
  · have ea : zAdn T (k + 1) = 256 + (T (k + 2)).toInt32 := if_neg ht
    rw [ea] at q pa
    have e3 : (T (k + 1)).toInt32 = 1 := by
      rcases g2 with ⟨⟨-, x, -⟩, -⟩ | ⟨⟨-, x, -⟩, -⟩
      · exact absurd x ht
      · rw [x]; rfl
    have e10 : ¬ (1 : Int32) = 0 := by decide
    simp (decide := true) (disch := omega) only [t1, ek2, t2, e3, e10, h11, h23, pa, zuR_ne, zu_nj, zi253, zt253, zo253_0, zi254, zt254, zo254_0, zi270, zt270, zo270_0, zo270_1, zo270_2, zi299, zt299, zo299_0, zo299_1, zo299_2, zo299_4, zo299_6, zy_ldI, zy_ldL, zy_ldA, zy_stI, zy_stL, zy_stA, zy_cI, zy_cL, zy_nul, zy_inc, zy_bI, zy_bL, zy_sL, zy_un, zy_cmp, zy_dup, zy_dup2, zy_pop, zy_pop2, zy_jn, zy_jnn, zy_go, zy_fal, zy_tsw, zy_lsw, zy_get, zy_put, zy_ald, zy_ast, zy_len, zy_newa, zy_new, zy_cal, zy_ret, zy_tak, zy_cst, zy_acp, zy_oini, zy_cln, zy_thr, zy_bad, zy_lco, zy_if0, zy_ic0, zy_if1, zy_ic1, zy_if2, zy_ic2, zy_if3, zy_ic3, zy_if4, zy_ic4, zy_if5, zy_ic5, zK_go, zK_to, zK_end, zK_callH, zK_iteC, zK_none, zsLd, zsSt, zsInc, zsBI, zsBL, zsSL, zsUn, zsCmp, zsDup, zsDup2, zsPop, zsPop2, zsJn, zsTsw, zsLsw, zsGet, zsPut, zsAld, zsAst, zsLen, zsNewa, zsCal, zsRet, zsCst, zsAcp, zsOini, zsCln, zsLco, zsThr, zxBI, zxBL, zxSL, zxU, zset1, zset2, zclr, zcat, zmake_mk, zcomp, zH_i, zH_l, zH_r, zH_u, zH_n, List.set_cons_zero, List.set_cons_succ, List.getElem?_cons_zero, List.getElem?_cons_succ, List.length_cons, List.length_nil, List.take_succ_cons, List.take_zero, List.drop_succ_cons, List.drop_zero, List.reverse_cons, List.reverse_nil, List.nil_append, List.cons_append, List.map_cons, List.map_nil, List.sum_cons, List.sum_nil, Option.toList_some, Option.toList_none, Value.category, Nat.reduceAdd, Nat.reduceMul, Nat.reduceMod, Nat.reduceDiv, Nat.reduceSub, Nat.reduceLT, Nat.reduceLeDiff, Nat.reduceEqDiff, Nat.zero_le, Nat.le_refl, Int32.reduceToNatClampNeg, Int32.reduceLT, Int32.reduceLE, Int32.reduceAdd, Int32.reduceSub, Int32.reduceMul, ↓reduceIte, reduceCtorEq, Nat.add_zero, Nat.zero_add, true_or, or_true, false_or, or_false, true_and, and_true, false_and, and_false, not_true_eq_false, not_false_eq_true, if_true, if_false, true_implies, false_implies, implies_true, forall_const, false_imp_iff, true_imp_iff, va_rf, zlay, zent, List.replicate_zero, List.append_nil, List.replicate_succ, List.length_append, ne_eq, Option.some.injEq, Value.int.injEq, Value.long.injEq, Int32.reduceOfNat, Int32.reduceToInt, Int.reduceLT, Int.reduceLE, Int.reduceSub, Int.reduceToNat, Int.reduceAdd, Int.reduceNeg, Int32.reduceDiv, Int64.reduceAdd, Int64.reduceSub, lg_cmp_ge, lg_cmp_le, lg_cmp_gt, lg_cmp_lt, lg_cmp_eq, wlt_t, wlt_f, wle_t, wle_f, wmod, wI_lt, wI_le, wI_eq, wI_neg, wI_pos, wI_cl, wI_ge, wI_po, w64_lt, w64_le, w64_eq, w64_lt0, w64_le0, w64_eq0, w64_32, zc317, zc319, wI_add, wI_a1, wI_s1, wI_e0, wI_m8, wI_m128, wI_m64, wI_m190, not_true_eq_false, not_false_eq_true, sP_3118_1 hS, sP_3118_14 hS, sP_3118_15 hS, sP_3118_16 hS, sP_3118_17 hS, sP_3118_18 hS, sP_3118_19 hS, sP_3118_20 hS, sP_3118_21 hS, sP_3118_22 hS, sP_3118_40 hS, sP_3118_41 hS, sP_3118_42 hS, sP_3118_43 hS, sN_3151 hS, sN_3408 hS, sN_3440 hS, sN_3472 hS, sN_3505 hS, sN_3537 hS, sN_3567 hS, sN_3600 hS, sN_3632 hS, sN_3664 hS, sN_3825 hS, sN_3856 hS, sN_3888 hS, sN_3920 hS, sN_6417 hS]
    exact q
end
