-- needs: 01 02.names 03 04 05 18 19 20 22 23 24 25 30 31 32 33 35 36 37 40 42 43 44 45 46 47 60 61 62 63 64 65 66 67 68 69 79f 79g 79h 79i 79j 79k 79l 79m 79n 79o 79p 79q 79r 79s 79t 79u 79v 79w 79x 79y 79z. 79za 79zb 79zc 79zd 79ze 79zf 79zg 79zh 79zi 79zj 79zk 79zl 79zm 79zn 79zo 79zp 79zq 79zr 79zs 79zt 79zu 79zv 7a 7b 7c 7d 7e 7f 7g 7zl 7zm 7zn 7zo 7h 7i 7j 7k 7l 7m 7n 7o 7p 7q 7r 7zj 7zk 7zp 7zq 7zr 7zs 7zt 7zu 79zw 7s 7t 7u 7v 7w 7x 7y 7z. 7za 7zb 7zc 7zd 7ze 7zf 7zg 7zh 7zi 7zv 7zw 7zx 7zy 7zz. 7zza 7zzb 7zzc 7zzd 7zze 7zzf 7zzg 7zzh 7zzi 7zzj 7zzk 7zzl 7zzm 7zzn 7zzo 7zzp 7zzq
/-! Transactions are applied, by the class -/
/-- node k as output a, in cells nn .. nn + 5 -/
def yOw (I : zI) (J : zJ) (P : zP) (N : Nat → Nat) (T : Nat → Int64) (C Z H : Nat → Nat) (tp : Nat → Int32) (hx nn a k : Nat) : Prop :=
  (P 2164 a = some (32 * nn + 6) ∧ P (32 * nn + 6) 1 = some (32 * (nn + 1) + 1) ∧ P (32 * nn + 6) 2 = some (32 * (nn + 5) + 15) ∧ P (32 * (nn + 1) + 1) 0 = some (32 * (nn + 2) + 16) ∧ P (32 * (nn + 1) + 1) 1 = some (32 * (nn + 3) + 17) ∧ P (32 * (nn + 1) + 1) 2 = some (32 * (nn + 4) + 17)) ∧
  (I (32 * nn + 6) 0 = zAdn T (k + 1) ∧ I (32 * nn + 6) 3 = nI hx ∧ I (32 * nn + 6) 4 = -1 ∧ I (32 * (nn + 1) + 1) 3 = nI (C (zWi Z k 1))) ∧
  (N (32 * (nn + 5) + 15) = H (zWi Z k 3) - H (zWi Z k 2) ∧ N (32 * (nn + 2) + 16) = C (zWi Z k 1) ∧ N (32 * (nn + 3) + 17) = C (zWi Z k 1) ∧ N (32 * (nn + 4) + 17) = C (zWi Z k 1)) ∧
  (∀ j, j < C (zWi Z k 1) → I (32 * (nn + 2) + 16) j = zpo T (zWi Z k 1) j ∧ J (32 * (nn + 3) + 17) j = zkx T (zWi Z k 1) j ∧ J (32 * (nn + 4) + 17) j = zka T (zWi Z k 1) j) ∧ ∀ j, j < H (zWi Z k 3) - H (zWi Z k 2) → I (32 * (nn + 5) + 15) j = tp (H (zWi Z k 2) + j)
/-- i outputs were made -/
def yMd (I0 : zI) (J0 : zJ) (P0 : zP) (N0 : Nat → Nat) (n : Nat) (T : Nat → Int64) (C Z H : Nat → Nat) (m hx i : Nat) (I : zI) (J : zJ) (P : zP) (N : Nat → Nat) : Prop :=
  (∀ c, c < 32 * n → (c ≠ 2115 → I c = I0 c) ∧ J c = J0 c ∧ (c ≠ 2164 → P c = P0 c) ∧ N c = N0 c) ∧ ((∀ j, j ≠ 2 → I 2115 j = I0 2115 j) ∧ I 2115 2 = nI (m + i)) ∧ (∀ k, k < m → P 2164 k = P0 2164 k) ∧ ∀ o, o < i → yOw I J P N T C Z H (I0 239) hx (n + 6 * o) (m + o) (zWi Z (zWi Z 0 2) o)
section
variable {I0 I I' : zI} {J0 J J' : zJ} {P0 P P' : zP} {N0 N N' : Nat → Nat} {n z K s m hx e i : Nat} {F C Z X H L ia : Nat → Nat} {g : Nat → Nat → Nat} {T : Nat → Int64} {Q : Option Value → zS → Prop}
theorem yMd_s (hn : 201 ≤ n) (h : yMd I0 J0 P0 N0 n T C Z H m hx i I J P N) (c : yCz I J P N (n + 6 * i) (m + i) (zAdn T (zWi Z (zWi Z 0 2) i + 1)) (nI hx) (C (zWi Z (zWi Z (zWi Z 0 2) i) 1)) (zpo T (zWi Z (zWi Z (zWi Z 0 2) i) 1)) (zkx T (zWi Z (zWi Z (zWi Z 0 2) i) 1)) (zka T (zWi Z (zWi Z (zWi Z 0 2) i) 1)) (H (zWi Z (zWi Z (zWi Z 0 2) i) 3) - H (zWi Z (zWi Z (zWi Z 0 2) i) 2)) (H (zWi Z (zWi Z (zWi Z 0 2) i) 2)) I' J' P' N') : yMd I0 J0 P0 N0 n T C Z H m hx (i + 1) I' J' P' N' := by
  obtain ⟨a1, ⟨a2, a3⟩, a4, a5⟩ := h
  obtain ⟨b1, ⟨b2, b3⟩, b4, b5, b6, b7, b8, b9⟩ := c
  refine ⟨fun c hc => ?_, ⟨fun j hj => (b2 j hj).trans (a2 j hj), b3⟩, fun k hk => (b4 k (by omega)).trans (a4 k hk), fun o ho => ?_⟩
  · obtain ⟨x1, x2, x3, x4⟩ := b1 c (by omega)
    obtain ⟨y1, y2, y3, y4⟩ := a1 c hc
    exact ⟨fun q => (x1 q).trans (y1 q), x2.trans y2, fun q => (x3 q).trans (y3 q), x4.trans y4⟩
  · by_cases e : o = i
    · subst e
      refine ⟨b5, b6, b7, b8, fun j hj => ?_⟩
      rw [b9 j hj, (a1 239 (by omega)).1 (by decide)]
    · have lt : o < i := by omega
      obtain ⟨⟨o1, o2, o3, o4, o5, o6⟩, ⟨p1, p2, p3, p4⟩, ⟨q1, q2, q3, q4⟩, r1, r2⟩ := a5 o lt
      have fr : ∀ c, c < 32 * (n + 6 * i) → 2164 < c → I' c = I c ∧ J' c = J c ∧ P' c = P c ∧ N' c = N c := fun c hc h2 => by
        obtain ⟨x1, x2, x3, x4⟩ := b1 c hc
        exact ⟨x1 (by omega), x2, x3 (by omega), x4⟩
      obtain ⟨f1, -, f3, -⟩ := fr (32 * (n + 6 * o) + 6) (by omega) (by omega)
      obtain ⟨g1, -, g3, -⟩ := fr (32 * (n + 6 * o + 1) + 1) (by omega) (by omega)
      obtain ⟨h1, -, -, h4⟩ := fr (32 * (n + 6 * o + 2) + 16) (by omega) (by omega)
      obtain ⟨-, i2, -, i4⟩ := fr (32 * (n + 6 * o + 3) + 17) (by omega) (by omega)
      obtain ⟨-, j2, -, j4⟩ := fr (32 * (n + 6 * o + 4) + 17) (by omega) (by omega)
      obtain ⟨k1, -, -, k4⟩ := fr (32 * (n + 6 * o + 5) + 15) (by omega) (by omega)
      unfold yOw
      rw [b4 (m + o) (by omega), f1, f3, g1, g3, h1, h4, i2, i4, j2, j4, k1, k4]
      exact ⟨⟨o1, o2, o3, o4, o5, o6⟩, ⟨p1, p2, p3, p4⟩, ⟨q1, q2, q3, q4⟩, r1, r2⟩
theorem yout (D : zDt F C Z L K) (tx : zTx F T C Z H s) (hi : i < C (zWi Z 0 2)) : zOut F T C Z H s (zWi Z (zWi Z 0 2) i) ∧ zWi Z (zWi Z 0 2) i < K ∧ zWi Z (zWi Z 0 2) i + Z (zWi Z (zWi Z 0 2) i) < K ∧ zWi Z (zWi Z (zWi Z 0 2) i) 2 ≤ zWi Z (zWi Z (zWi Z 0 2) i) 3 ∧ zWi Z (zWi Z (zWi Z 0 2) i) 3 < K := by
  have fk := zTx_f D tx
  have k2 := fk 2 (by omega)
  have k3 := fk 3 (by omega)
  have f4 : 4 ≤ F (zWi Z 0 2) := by have := tx.2.2.2.1.1.1; omega
  have o1 := tx.2.2.2.1.2 i hi
  have o2 := zDt_ch D k2 f4 hi
  have hm' := zWi_mono (Z := Z) (j := zWi Z 0 2) (i := i + 1) (C (zWi Z 0 2) - (i + 1))
  rw [show i + 1 + (C (zWi Z 0 2) - (i + 1)) = C (zWi Z 0 2) by omega, zDt_end D k2 f4] at hm'
  have e1 : zWi Z (zWi Z 0 2) (i + 1) = zWi Z (zWi Z 0 2) i + Z (zWi Z (zWi Z 0 2) i) := rfl
  have e2 : zWi Z 0 3 = zWi Z 0 2 + Z (zWi Z 0 2) := rfl
  have c3 := zDt_end D o2 (by have := o1.1.1; omega)
  rw [o1.1.2.2] at c3
  have w3 : zWi Z (zWi Z (zWi Z 0 2) i) 3 = zWi Z (zWi Z (zWi Z 0 2) i) 2 + Z (zWi Z (zWi Z (zWi Z 0 2) i) 2) := rfl
  exact ⟨o1, o2, by omega, by omega, by omega⟩
set_option maxRecDepth 20000 in
set_option maxHeartbeats 8000000 in
theorem e60 (hS : zStat P N) (hn : 201 ≤ n) (h : zHas I0 J F T C Z H X L K s) (v1 : I0 2115 2 = nI m) (v4 : I0 2115 4 = nI hx) (hm : m + C (zWi Z 0 2) ≤ 1024) (hO : zOuts I0 J P N I0 J g n m) (hW : zWfO I0 J g m e hx s) (hil : zNam (I0 3664) m (ziv T Z) ia (C (zWi Z 0 0))) (hid : ∀ i, i < C (zWi Z 0 0) → ∀ k, k < i → ia k ≠ ia i) (hH : ∀ i j, i ≤ j → j < K → H i ≤ H j ∧ H j ≤ 4096)
    (hQ : ∀ I1 I' J' P' N' z', yWs I0 I1 g ia m hx (C (zWi Z 0 0)) → yMd I1 J P N n T C Z H m hx (C (zWi Z 0 2)) I' J' P' N' → z' ≤ z + 161 * C (zWi Z 0 2) → Q none (zu I' 2115 7 (I0 2115 7 + 1), zu J' 2115 6 (J 2115 6 + T (zWi Z 0 3)), P', N', n + 6 * C (zWi Z 0 2), z')) : zC 60 [.ref 2115, .ref 649, .ref 239] (I0, J, P, N, n, z) Q := by
  have cc := zTx_c h.2.2.2
  have e0 : nI 0 = 0 := rfl
  have cell : ∀ {x}, x < 6432 → ∀ k, k < m → x ≠ 32 * g 0 k + 6 := fun {x} hx' k hk => by
    have := (hO.1 k hk).2.2.2.2.2.2.2 0 (by decide)
    omega
  have lb : ∀ I1, yWs I0 I1 g ia m hx (C (zWi Z 0 0)) → ∀ r i (I2 : zI) (J2 : zJ) (P2 : zP) (N2 : Nat → Nat) (z2 : Nat), i + r = C (zWi Z 0 2) → yMd I1 J P N n T C Z H m hx i I2 J2 P2 N2 → z2 ≤ z + 161 * i → zQ zt60 zo60_3 [some (.ref 2115), some (.ref 649), some (.ref 239), some (.int (nI i))] [] (I2, J2, P2, N2, n + 6 * i, z2) Q := by
    intro I1 hw r
    have lo1 : ∀ x, x < 6432 → I1 x = I0 x := fun x hx' => hw.1 x (cell hx')
    have has : ∀ {i I2 J2 P2 N2}, yMd I1 J P N n T C Z H m hx i I2 J2 P2 N2 → zHas I2 J2 F T C Z H X L K s ∧ zStat P2 N2 ∧ (∀ j, j ≠ 2 → I2 2115 j = I0 2115 j) := fun {i I2 J2 P2 N2} c => by
      have lo : ∀ x, x < 6432 → x ≠ 2115 → I2 x = I0 x := fun x hx' h2 => by rw [(c.1 x (by omega)).1 h2, lo1 x hx']
      have loJ : ∀ x, x < 6432 → J2 x = J x := fun x hx' => (c.1 x (by omega)).2.1
      refine ⟨zHas_y (fun q x1 x2 => ⟨lo q (by omega) (by omega), loJ q (by omega)⟩) (by rw [lo 649 (by decide) (by decide)]) (fun j _ => ⟨by rw [lo 79 (by decide) (by decide)], by rw [lo 112 (by decide) (by decide)], by rw [lo 144 (by decide) (by decide)], by rw [lo 176 (by decide) (by decide)], by rw [loJ 209 (by decide)]⟩) h, zStat_c hS (fun q j h1 h2 _ _ => congrFun ((c.1 q (by omega)).2.2.1 h2) j) (fun q _ h2 => (c.1 q (by omega)).2.2.2), fun j hj => by rw [c.2.1.1 j hj, lo1 2115 (by decide)]⟩
    induction r with
    | zero =>
      intro i I2 J2 P2 N2 z2 hi hc hz
      obtain rfl : i = C (zWi Z 0 2) := by omega
      obtain ⟨h2, hS2, f2⟩ := has hc
      have hS0 := hS
      have hS := hS2
      have p127 := fun (Q : Option Value → zS → Prop) => m127 (n := n + 6 * C (zWi Z 0 2)) (z := z2) hS2 h2 Q
      have p129 := fun (Q : Option Value → zS → Prop) => m129 (n := n + 6 * C (zWi Z 0 2)) (z := z2) hS2 h2 Q
      have t1 : (nI (C (zWi Z 0 2)) ≤ nI (C (zWi Z 0 2))) = True := eq_true (Int32.le_refl _)
      have w7 : I2 2115 7 = I0 2115 7 := f2 7 (by decide)
      have w6 : J2 2115 6 = J 2115 6 := by rw [(hc.1 2115 (by omega)).2.1]
      have q := hQ I1 I2 J2 P2 N2 z2 hw hc hz
      rw [zo60_3]
      simp (decide := true) (disch := omega) only [p127, t1, p129, w7, w6, zi60, zt60, zo60_0, zo60_1, zo60_2, zo60_4, zy_ldI, zy_ldL, zy_ldA, zy_stI, zy_stL, zy_stA, zy_cI, zy_cL, zy_nul, zy_inc, zy_bI, zy_bL, zy_sL, zy_un, zy_cmp, zy_dup, zy_dup2, zy_pop, zy_pop2, zy_jn, zy_jnn, zy_go, zy_fal, zy_tsw, zy_lsw, zy_get, zy_put, zy_ald, zy_ast, zy_len, zy_newa, zy_new, zy_cal, zy_ret, zy_tak, zy_cst, zy_acp, zy_oini, zy_cln, zy_thr, zy_bad, zy_lco, zy_if0, zy_ic0, zy_if1, zy_ic1, zy_if2, zy_ic2, zy_if3, zy_ic3, zy_if4, zy_ic4, zy_if5, zy_ic5, zK_go, zK_to, zK_end, zK_callH, zK_iteC, zK_none, zsLd, zsSt, zsInc, zsBI, zsBL, zsSL, zsUn, zsCmp, zsDup, zsDup2, zsPop, zsPop2, zsJn, zsTsw, zsLsw, zsGet, zsPut, zsAld, zsAst, zsLen, zsNewa, zsCal, zsRet, zsCst, zsAcp, zsOini, zsCln, zsLco, zsThr, zxBI, zxBL, zxSL, zxU, zset1, zset2, zclr, zcat, zmake_mk, zcomp, zH_i, zH_l, zH_r, zH_u, zH_n, List.set_cons_zero, List.set_cons_succ, List.getElem?_cons_zero, List.getElem?_cons_succ, List.length_cons, List.length_nil, List.take_succ_cons, List.take_zero, List.drop_succ_cons, List.drop_zero, List.reverse_cons, List.reverse_nil, List.nil_append, List.cons_append, List.map_cons, List.map_nil, List.sum_cons, List.sum_nil, Option.toList_some, Option.toList_none, Value.category, Nat.reduceAdd, Nat.reduceMul, Nat.reduceMod, Nat.reduceDiv, Nat.reduceSub, Nat.reduceLT, Nat.reduceLeDiff, Nat.reduceEqDiff, Nat.zero_le, Nat.le_refl, Int32.reduceToNatClampNeg, Int32.reduceLT, Int32.reduceLE, Int32.reduceAdd, Int32.reduceSub, Int32.reduceMul, ↓reduceIte, reduceCtorEq, Nat.add_zero, Nat.zero_add, true_or, or_true, false_or, or_false, true_and, and_true, false_and, and_false, not_true_eq_false, not_false_eq_true, if_true, if_false, true_implies, false_implies, implies_true, forall_const, false_imp_iff, true_imp_iff, va_rf, zlay, zent, List.replicate_zero, List.append_nil, List.replicate_succ, List.length_append, ne_eq, Option.some.injEq, Value.int.injEq, Value.long.injEq, Int32.reduceOfNat, Int32.reduceToInt, Int.reduceLT, Int.reduceLE, Int.reduceSub, Int.reduceToNat, Int.reduceAdd, Int.reduceNeg, Int32.reduceDiv, Int64.reduceAdd, Int64.reduceSub, lg_cmp_ge, lg_cmp_le, lg_cmp_gt, lg_cmp_lt, lg_cmp_eq, wlt_t, wlt_f, wle_t, wle_f, wmod, wI_lt, wI_le, wI_eq, wI_neg, wI_pos, wI_cl, wI_ge, wI_po, w64_lt, w64_le, w64_eq, w64_lt0, w64_le0, w64_eq0, w64_32, zc317, zc319, wI_add, wI_a1, wI_s1, wI_e0, wI_m8, wI_m128, wI_m64, wI_m190, not_true_eq_false, not_false_eq_true, sP_649_4 hS, sP_649_6 hS, sP_819_0 hS, sP_819_1 hS, sP_819_2 hS, sP_819_3 hS, sP_819_4 hS, sP_819_5 hS, sP_819_6 hS, sP_819_7 hS, sP_2115_0 hS, sN_752 hS, sN_819 hS, sN_2164 hS, sN_6417 hS]
      exact q
    | succ r ih =>
      intro i I2 J2 P2 N2 z2 hi hc hz
      obtain ⟨h2, hS2, f2⟩ := has hc
      obtain ⟨o1, o2, o3, o4, o5⟩ := yout h.1 h.2.2.2 (show i < C (zWi Z 0 2) by omega)
      have hh := hH _ _ o4 o5
      refine s60 (m := m + i) (hx := hx) (k := zWi Z (zWi Z 0 2) i) hS2 (by omega) h2 (by omega) rfl hc.2.1.2 (by omega) (by rw [f2 4 (by decide)]; exact v4) hh.1 hh.2 (fun I3 J3 P3 N3 z3 hz3 c3 => ?_)
      have c8 := o1.2.2.1.2.2
      have d8 := o1.2.2.2.2
      have q := ih (i + 1) I3 J3 P3 N3 z3 (by omega) (yMd_s hn hc c3) (by omega)
      rw [show n + 6 * (i + 1) = n + 6 * i + 6 by omega] at q
      exact q
  have la : ∀ r i (I1 : zI), i + r = C (zWi Z 0 0) → yWs I0 I1 g ia m hx i → zQ zt60 zo60_1 [some (.ref 2115), some (.ref 649), some (.ref 239), some (.int (nI i))] [] (I1, J, P, N, n, z) Q := by
    intro r
    induction r with
    | zero =>
      intro i I1 hi hw
      obtain rfl : i = C (zWi Z 0 0) := by omega
      have lo1 : ∀ x, x < 6432 → I1 x = I0 x := fun x hx' => hw.1 x (cell hx')
      have h1 : zHas I1 J F T C Z H X L K s := zHas_y (fun q x1 x2 => ⟨lo1 q (by omega), rfl⟩) (by rw [lo1 649 (by decide)]) (fun j _ => ⟨by rw [lo1 79 (by decide)], by rw [lo1 112 (by decide)], by rw [lo1 144 (by decide)], by rw [lo1 176 (by decide)], rfl⟩) h
      have p122 := fun (Q : Option Value → zS → Prop) => m122 (n := n) (z := z) hS h1 Q
      have t1 : (nI (C (zWi Z 0 0)) ≤ nI (C (zWi Z 0 0))) = True := eq_true (Int32.le_refl _)
      have q := lb I1 hw (C (zWi Z 0 2)) 0 I1 J P N z (by omega) ⟨fun c hc => ⟨fun _ => rfl, rfl, fun _ => rfl, rfl⟩, ⟨fun _ _ => rfl, by rw [lo1 2115 (by decide)]; exact v1⟩, fun _ _ => rfl, fun o ho => by omega⟩ (by omega)
      rw [e0, show n + 6 * 0 = n by omega] at q
      rw [zo60_1]
      simp (decide := true) (disch := omega) only [p122, t1, zi60, zt60, zo60_0, zo60_2, zo60_4, zy_ldI, zy_ldL, zy_ldA, zy_stI, zy_stL, zy_stA, zy_cI, zy_cL, zy_nul, zy_inc, zy_bI, zy_bL, zy_sL, zy_un, zy_cmp, zy_dup, zy_dup2, zy_pop, zy_pop2, zy_jn, zy_jnn, zy_go, zy_fal, zy_tsw, zy_lsw, zy_get, zy_put, zy_ald, zy_ast, zy_len, zy_newa, zy_new, zy_cal, zy_ret, zy_tak, zy_cst, zy_acp, zy_oini, zy_cln, zy_thr, zy_bad, zy_lco, zy_if0, zy_ic0, zy_if1, zy_ic1, zy_if2, zy_ic2, zy_if3, zy_ic3, zy_if4, zy_ic4, zy_if5, zy_ic5, zK_go, zK_to, zK_end, zK_callH, zK_iteC, zK_none, zsLd, zsSt, zsInc, zsBI, zsBL, zsSL, zsUn, zsCmp, zsDup, zsDup2, zsPop, zsPop2, zsJn, zsTsw, zsLsw, zsGet, zsPut, zsAld, zsAst, zsLen, zsNewa, zsCal, zsRet, zsCst, zsAcp, zsOini, zsCln, zsLco, zsThr, zxBI, zxBL, zxSL, zxU, zset1, zset2, zclr, zcat, zmake_mk, zcomp, zH_i, zH_l, zH_r, zH_u, zH_n, List.set_cons_zero, List.set_cons_succ, List.getElem?_cons_zero, List.getElem?_cons_succ, List.length_cons, List.length_nil, List.take_succ_cons, List.take_zero, List.drop_succ_cons, List.drop_zero, List.reverse_cons, List.reverse_nil, List.nil_append, List.cons_append, List.map_cons, List.map_nil, List.sum_cons, List.sum_nil, Option.toList_some, Option.toList_none, Value.category, Nat.reduceAdd, Nat.reduceMul, Nat.reduceMod, Nat.reduceDiv, Nat.reduceSub, Nat.reduceLT, Nat.reduceLeDiff, Nat.reduceEqDiff, Nat.zero_le, Nat.le_refl, Int32.reduceToNatClampNeg, Int32.reduceLT, Int32.reduceLE, Int32.reduceAdd, Int32.reduceSub, Int32.reduceMul, ↓reduceIte, reduceCtorEq, Nat.add_zero, Nat.zero_add, true_or, or_true, false_or, or_false, true_and, and_true, false_and, and_false, not_true_eq_false, not_false_eq_true, if_true, if_false, true_implies, false_implies, implies_true, forall_const, false_imp_iff, true_imp_iff, va_rf, zlay, zent, List.replicate_zero, List.append_nil, List.replicate_succ, List.length_append, ne_eq, Option.some.injEq, Value.int.injEq, Value.long.injEq, Int32.reduceOfNat, Int32.reduceToInt, Int.reduceLT, Int.reduceLE, Int.reduceSub, Int.reduceToNat, Int.reduceAdd, Int.reduceNeg, Int32.reduceDiv, Int64.reduceAdd, Int64.reduceSub, lg_cmp_ge, lg_cmp_le, lg_cmp_gt, lg_cmp_lt, lg_cmp_eq, wlt_t, wlt_f, wle_t, wle_f, wmod, wI_lt, wI_le, wI_eq, wI_neg, wI_pos, wI_cl, wI_ge, wI_po, w64_lt, w64_le, w64_eq, w64_lt0, w64_le0, w64_eq0, w64_32, zc317, zc319, wI_add, wI_a1, wI_s1, wI_e0, wI_m8, wI_m128, wI_m64, wI_m190, not_true_eq_false, not_false_eq_true, sP_649_4 hS, sP_649_6 hS, sP_819_0 hS, sP_819_1 hS, sP_819_2 hS, sP_819_3 hS, sP_819_4 hS, sP_819_5 hS, sP_819_6 hS, sP_819_7 hS, sP_2115_0 hS, sN_752 hS, sN_819 hS, sN_2164 hS, sN_6417 hS]
      exact q
    | succ r ih =>
      intro i I1 hi hw
      have lo1 : ∀ x, x < 6432 → I1 x = I0 x := fun x hx' => hw.1 x (cell hx')
      have h1 : zHas I1 J F T C Z H X L K s := zHas_y (fun q x1 x2 => ⟨lo1 q (by omega), rfl⟩) (by rw [lo1 649 (by decide)]) (fun j _ => ⟨by rw [lo1 79 (by decide)], by rw [lo1 112 (by decide)], by rw [lo1 144 (by decide)], by rw [lo1 176 (by decide)], rfl⟩) h
      have p122 := fun (Q : Option Value → zS → Prop) => m122 (n := n) (z := z) hS h1 Q
      obtain ⟨x1, x2, x3⟩ := hil i (by omega)
      have p123 := fun (Q : Option Value → zS → Prop) => m123 (n := n) (z := z) hS h1 (i := i) (by omega) Q
      rw [x2] at p123
      have t1 : ¬ nI (C (zWi Z 0 0)) ≤ nI i := by rw [wI_le (by omega) (by omega)]; omega
      have hl : ySpd (I0 3664) ia hx i (ia i) = -1 := by rw [ySpd_n i (fun j hj => hid i (by omega) j hj)]; exact x3
      have p62 := fun (Q : Option Value → zS → Prop) => m62 (z := z) hS v1 v4 (by omega) hO hW hw x1 hl Q
      have q := ih (i + 1) _ (by omega) (yWs_s hO x1 hw)
      rw [zo60_1]
      simp (decide := true) (disch := omega) only [p122, t1, p123, p62, zi60, zt60, zo60_0, zo60_2, zo60_4, zy_ldI, zy_ldL, zy_ldA, zy_stI, zy_stL, zy_stA, zy_cI, zy_cL, zy_nul, zy_inc, zy_bI, zy_bL, zy_sL, zy_un, zy_cmp, zy_dup, zy_dup2, zy_pop, zy_pop2, zy_jn, zy_jnn, zy_go, zy_fal, zy_tsw, zy_lsw, zy_get, zy_put, zy_ald, zy_ast, zy_len, zy_newa, zy_new, zy_cal, zy_ret, zy_tak, zy_cst, zy_acp, zy_oini, zy_cln, zy_thr, zy_bad, zy_lco, zy_if0, zy_ic0, zy_if1, zy_ic1, zy_if2, zy_ic2, zy_if3, zy_ic3, zy_if4, zy_ic4, zy_if5, zy_ic5, zK_go, zK_to, zK_end, zK_callH, zK_iteC, zK_none, zsLd, zsSt, zsInc, zsBI, zsBL, zsSL, zsUn, zsCmp, zsDup, zsDup2, zsPop, zsPop2, zsJn, zsTsw, zsLsw, zsGet, zsPut, zsAld, zsAst, zsLen, zsNewa, zsCal, zsRet, zsCst, zsAcp, zsOini, zsCln, zsLco, zsThr, zxBI, zxBL, zxSL, zxU, zset1, zset2, zclr, zcat, zmake_mk, zcomp, zH_i, zH_l, zH_r, zH_u, zH_n, List.set_cons_zero, List.set_cons_succ, List.getElem?_cons_zero, List.getElem?_cons_succ, List.length_cons, List.length_nil, List.take_succ_cons, List.take_zero, List.drop_succ_cons, List.drop_zero, List.reverse_cons, List.reverse_nil, List.nil_append, List.cons_append, List.map_cons, List.map_nil, List.sum_cons, List.sum_nil, Option.toList_some, Option.toList_none, Value.category, Nat.reduceAdd, Nat.reduceMul, Nat.reduceMod, Nat.reduceDiv, Nat.reduceSub, Nat.reduceLT, Nat.reduceLeDiff, Nat.reduceEqDiff, Nat.zero_le, Nat.le_refl, Int32.reduceToNatClampNeg, Int32.reduceLT, Int32.reduceLE, Int32.reduceAdd, Int32.reduceSub, Int32.reduceMul, ↓reduceIte, reduceCtorEq, Nat.add_zero, Nat.zero_add, true_or, or_true, false_or, or_false, true_and, and_true, false_and, and_false, not_true_eq_false, not_false_eq_true, if_true, if_false, true_implies, false_implies, implies_true, forall_const, false_imp_iff, true_imp_iff, va_rf, zlay, zent, List.replicate_zero, List.append_nil, List.replicate_succ, List.length_append, ne_eq, Option.some.injEq, Value.int.injEq, Value.long.injEq, Int32.reduceOfNat, Int32.reduceToInt, Int.reduceLT, Int.reduceLE, Int.reduceSub, Int.reduceToNat, Int.reduceAdd, Int.reduceNeg, Int32.reduceDiv, Int64.reduceAdd, Int64.reduceSub, lg_cmp_ge, lg_cmp_le, lg_cmp_gt, lg_cmp_lt, lg_cmp_eq, wlt_t, wlt_f, wle_t, wle_f, wmod, wI_lt, wI_le, wI_eq, wI_neg, wI_pos, wI_cl, wI_ge, wI_po, w64_lt, w64_le, w64_eq, w64_lt0, w64_le0, w64_eq0, w64_32, zc317, zc319, wI_add, wI_a1, wI_s1, wI_e0, wI_m8, wI_m128, wI_m64, wI_m190, not_true_eq_false, not_false_eq_true, sP_649_4 hS, sP_649_6 hS, sP_819_0 hS, sP_819_1 hS, sP_819_2 hS, sP_819_3 hS, sP_819_4 hS, sP_819_5 hS, sP_819_6 hS, sP_819_7 hS, sP_2115_0 hS, sN_752 hS, sN_819 hS, sN_2164 hS, sN_6417 hS]
      exact q
  have q := la (C (zWi Z 0 0)) 0 I0 (by omega) (yWs_0 hO)
  rw [e0] at q
  simp (decide := true) (disch := omega) only [zi60, zt60, zo60_0, zo60_2, zo60_4, zy_ldI, zy_ldL, zy_ldA, zy_stI, zy_stL, zy_stA, zy_cI, zy_cL, zy_nul, zy_inc, zy_bI, zy_bL, zy_sL, zy_un, zy_cmp, zy_dup, zy_dup2, zy_pop, zy_pop2, zy_jn, zy_jnn, zy_go, zy_fal, zy_tsw, zy_lsw, zy_get, zy_put, zy_ald, zy_ast, zy_len, zy_newa, zy_new, zy_cal, zy_ret, zy_tak, zy_cst, zy_acp, zy_oini, zy_cln, zy_thr, zy_bad, zy_lco, zy_if0, zy_ic0, zy_if1, zy_ic1, zy_if2, zy_ic2, zy_if3, zy_ic3, zy_if4, zy_ic4, zy_if5, zy_ic5, zK_go, zK_to, zK_end, zK_callH, zK_iteC, zK_none, zsLd, zsSt, zsInc, zsBI, zsBL, zsSL, zsUn, zsCmp, zsDup, zsDup2, zsPop, zsPop2, zsJn, zsTsw, zsLsw, zsGet, zsPut, zsAld, zsAst, zsLen, zsNewa, zsCal, zsRet, zsCst, zsAcp, zsOini, zsCln, zsLco, zsThr, zxBI, zxBL, zxSL, zxU, zset1, zset2, zclr, zcat, zmake_mk, zcomp, zH_i, zH_l, zH_r, zH_u, zH_n, List.set_cons_zero, List.set_cons_succ, List.getElem?_cons_zero, List.getElem?_cons_succ, List.length_cons, List.length_nil, List.take_succ_cons, List.take_zero, List.drop_succ_cons, List.drop_zero, List.reverse_cons, List.reverse_nil, List.nil_append, List.cons_append, List.map_cons, List.map_nil, List.sum_cons, List.sum_nil, Option.toList_some, Option.toList_none, Value.category, Nat.reduceAdd, Nat.reduceMul, Nat.reduceMod, Nat.reduceDiv, Nat.reduceSub, Nat.reduceLT, Nat.reduceLeDiff, Nat.reduceEqDiff, Nat.zero_le, Nat.le_refl, Int32.reduceToNatClampNeg, Int32.reduceLT, Int32.reduceLE, Int32.reduceAdd, Int32.reduceSub, Int32.reduceMul, ↓reduceIte, reduceCtorEq, Nat.add_zero, Nat.zero_add, true_or, or_true, false_or, or_false, true_and, and_true, false_and, and_false, not_true_eq_false, not_false_eq_true, if_true, if_false, true_implies, false_implies, implies_true, forall_const, false_imp_iff, true_imp_iff, va_rf, zlay, zent, List.replicate_zero, List.append_nil, List.replicate_succ, List.length_append, ne_eq, Option.some.injEq, Value.int.injEq, Value.long.injEq, Int32.reduceOfNat, Int32.reduceToInt, Int.reduceLT, Int.reduceLE, Int.reduceSub, Int.reduceToNat, Int.reduceAdd, Int.reduceNeg, Int32.reduceDiv, Int64.reduceAdd, Int64.reduceSub, lg_cmp_ge, lg_cmp_le, lg_cmp_gt, lg_cmp_lt, lg_cmp_eq, wlt_t, wlt_f, wle_t, wle_f, wmod, wI_lt, wI_le, wI_eq, wI_neg, wI_pos, wI_cl, wI_ge, wI_po, w64_lt, w64_le, w64_eq, w64_lt0, w64_le0, w64_eq0, w64_32, zc317, zc319, wI_add, wI_a1, wI_s1, wI_e0, wI_m8, wI_m128, wI_m64, wI_m190, not_true_eq_false, not_false_eq_true, sP_649_4 hS, sP_649_6 hS, sP_819_0 hS, sP_819_1 hS, sP_819_2 hS, sP_819_3 hS, sP_819_4 hS, sP_819_5 hS, sP_819_6 hS, sP_819_7 hS, sP_2115_0 hS, sN_752 hS, sN_819 hS, sN_2164 hS, sN_6417 hS]
  exact q
end
