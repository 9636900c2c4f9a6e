-- needs: 01 02.names 03 04 05 18 19 20 22 23 24 25 30 31 32 33 35 36 37 40 42 43 44 45 46 47 60 61 62 63 64 65 66 67 68 69 79f 79g 79h 79i 79j 79k 79l 79m 79n 79o 79p 79q 79r 79s 79t 79u 79v 79w 79x 79y 79z. 79za 79zb 79zc 79zd 79ze 79zf 79zg 79zh 79zi 79zj 79zk 79zl 79zm 79zn 79zo 79zp 79zq 79zr 79zs 79zt 79zu 79zv 7a 7b 7c 7d 7e 7f 7g 7zl 7zm 7zn 7zo 7h 7i 7j 7k 7l 7m 7n 7o 7p 7q 7r 7zj 7zk 7zp 7zq 7zr 7zs 7zt 7zu 79zw 7s 7t 7u 7v 7w 7x 7y 7z. 7za 7zb 7zc 7zd 7ze 7zf 7zg 7zh 7zi 7zv 7zw 7zx 7zy 7zz. 7zza 7zzb 7zzc 7zzd 7zze
/-! The code of a run, as the reference has it; nothing lacks -/
section
variable {Ks zs ls ws Wd : Nat → Nat} {Vs : Nat → Int64} {Yb : Nat → Nat → Int32} {K ap : Nat}
theorem yu_i (h : ySc Ks zs ls ws Vs Wd Yb K) : ∀ zz i, zs i ≤ zz → i < K → ws i ≤ i + 1 → (∀ j, i ≤ j → j < i + zs i → i + 1 - ws i ≤ yu zs ws j ∧ yu zs ws j < i + 1 - ws i + zs i) ∧ ∀ j k, i ≤ j → j < i + zs i → i ≤ k → k < i + zs i → yu zs ws j = yu zs ws k → j = k := by
  intro zz
  induction zz with
  | zero => intro i hz hi; have := (h.2 i hi).1.1; omega
  | succ zz ih =>
    intro i hz hi hw
    obtain ⟨⟨a1, a2, a3, a4, a5⟩, b0, b1, b3, b2, b5, -⟩ := h.2 i hi
    have ui : yu zs ws i = i + zs i - ws i := rfl
    by_cases k2 : Ks i = 2
    · obtain ⟨c1, c2, c3, c4, c5, c6, c7⟩ := b2 k2
      obtain ⟨r1, s1⟩ := ih (i + 1) (by omega) (by omega) (by omega)
      obtain ⟨r2, s2⟩ := ih (i + 1 + zs (i + 1)) (by omega) (by omega) (by omega)
      have cl : ∀ j, i ≤ j → j < i + zs i → (j = i ∧ yu zs ws j = i + zs i - ws i) ∨ (i + 1 ≤ j ∧ j < i + 1 + zs (i + 1) ∧ i + 1 - ws i ≤ yu zs ws j ∧ yu zs ws j < i + 1 - ws i + zs (i + 1)) ∨ (i + 1 + zs (i + 1) ≤ j ∧ i + 1 - ws i + zs (i + 1) ≤ yu zs ws j ∧ yu zs ws j < i + zs i - ws i) := fun j h1 h2 => by
        by_cases e1 : j = i
        · exact Or.inl ⟨e1, by rw [e1]; rfl⟩
        · by_cases e2 : j < i + 1 + zs (i + 1)
          · have := r1 j (by omega) e2
            exact Or.inr (Or.inl ⟨by omega, e2, by omega, by omega⟩)
          · have := r2 j (by omega) (by omega)
            exact Or.inr (Or.inr ⟨by omega, by omega, by omega⟩)
      refine ⟨fun j h1 h2 => ?_, fun j k h1 h2 h3 h4 he => ?_⟩
      · rcases cl j h1 h2 with x | x | x <;> omega
      · rcases cl j h1 h2 with x | x | x <;> rcases cl k h3 h4 with y | y | y
        · omega
        · omega
        · omega
        · omega
        · exact s1 j k x.1 x.2.1 y.1 y.2.1 he
        · omega
        · omega
        · omega
        · exact s2 j k x.1 (by omega) y.1 (by omega) he
    · by_cases k1 : Ks i = 1 ∨ Ks i = 3 ∨ Ks i = 4
      · obtain ⟨c1, c2, c4⟩ : zs i = 1 + zs (i + 1) ∧ 1 ≤ zs (i + 1) ∧ ws (i + 1) = ws i + 1 := by
          rcases k1 with h | h | h
          · obtain ⟨x1, x2, x3, x4⟩ := b1 h; exact ⟨x1, x2, x4⟩
          · obtain ⟨x1, x2, x3, x4⟩ := b3 (Or.inl h); exact ⟨x1, x2, x4⟩
          · obtain ⟨x1, x2, x3, x4⟩ := b3 (Or.inr h); exact ⟨x1, x2, x4⟩
        obtain ⟨r1, s1⟩ := ih (i + 1) (by omega) (by omega) (by omega)
        have cl : ∀ j, i ≤ j → j < i + zs i → (j = i ∧ yu zs ws j = i + zs i - ws i) ∨ (i + 1 ≤ j ∧ i + 1 - ws i ≤ yu zs ws j ∧ yu zs ws j < i + zs i - ws i) := fun j h1 h2 => by
          by_cases e1 : j = i
          · exact Or.inl ⟨e1, by rw [e1]; rfl⟩
          · have := r1 j (by omega) (by omega)
            exact Or.inr ⟨by omega, by omega, by omega⟩
        refine ⟨fun j h1 h2 => ?_, fun j k h1 h2 h3 h4 he => ?_⟩
        · rcases cl j h1 h2 with x | x <;> omega
        · rcases cl j h1 h2 with x | x <;> rcases cl k h3 h4 with y | y
          · omega
          · omega
          · omega
          · exact s1 j k x.1 (by omega) y.1 (by omega) he
      · have z1 : zs i = 1 := by
          by_cases h0 : Ks i = 0
          · exact (b0 h0).1
          · exact b5 (by omega)
        refine ⟨fun j h1 h2 => ?_, fun j k h1 h2 h3 h4 _ => by omega⟩
        obtain rfl : j = i := by omega
        omega
theorem yu_j (h : ySc Ks zs ls ws Vs Wd Yb K) {j k : Nat} (hj : j < K) (hk : k < K) (he : yu zs ws j = yu zs ws k) : j = k := by
  have h0 := h.1
  exact (yu_i h K 0 (by omega) (by omega) (by omega)).2 j k (Nat.zero_le _) (by omega) (Nat.zero_le _) (by omega) he
/-- the three kinds of nodes -/
theorem yun_c (h : ySc Ks zs ls ws Vs Wd Yb K) {i : Nat} (hi : i < ap + K + ap) : (i < ap ∧ yun zs ws ap K i = K + 2 * (ap - 1 - i) + 1) ∨ (∃ j, j < K ∧ i = ap + j ∧ yun zs ws ap K i = yu zs ws j ∧ yu zs ws j < K) ∨ ∃ j, j < ap ∧ i = ap + K + j ∧ yun zs ws ap K i = K + 2 * (ap - 1 - j) := by
  by_cases h1 : i < ap
  · exact Or.inl ⟨h1, yun_a h1⟩
  · by_cases h2 : i < ap + K
    · obtain ⟨j, rfl⟩ : ∃ j, i = ap + j := ⟨i - ap, by omega⟩
      exact Or.inr (Or.inl ⟨j, by omega, rfl, yun_s (by omega), (yu_w h (by omega)).2⟩)
    · obtain ⟨j, rfl⟩ : ∃ j, i = ap + K + j := ⟨i - (ap + K), by omega⟩
      exact Or.inr (Or.inr ⟨j, by omega, rfl, yun_d⟩)
theorem yun_l (h : ySc Ks zs ls ws Vs Wd Yb K) {i : Nat} (hi : i < ap + K + ap) : yun zs ws ap K i < ap + K + ap := by
  rcases yun_c h hi with ⟨x1, x2⟩ | ⟨j, j1, rfl, j3, j4⟩ | ⟨j, j1, rfl, j3⟩ <;> omega
theorem yun_j (h : ySc Ks zs ls ws Vs Wd Yb K) {i k : Nat} (hi : i < ap + K + ap) (hk : k < ap + K + ap) (he : yun zs ws ap K i = yun zs ws ap K k) : i = k := by
  rcases yun_c h hi with ⟨x1, x2⟩ | ⟨j, j1, rfl, j3, j4⟩ | ⟨j, j1, rfl, j3⟩ <;> rcases yun_c h hk with ⟨y1, y2⟩ | ⟨m, m1, rfl, m3, m4⟩ | ⟨m, m1, rfl, m3⟩
  · omega
  · omega
  · omega
  · omega
  · have := yu_j h j1 m1 (by omega)
    omega
  · omega
  · omega
  · omega
  · omega
theorem yun_s2 (h : ySc Ks zs ls ws Vs Wd Yb K) {m : Nat} (hm : m < ap + K + ap) : ∃ i, i < ap + K + ap ∧ yun zs ws ap K i = m := by
  by_cases h1 : m < K
  · obtain ⟨j, j1, j2⟩ := yu_s h h1
    exact ⟨ap + j, by omega, by rw [yun_s j1, j2]⟩
  · by_cases h2 : (m - K) % 2 = 0
    · exact ⟨ap + K + (ap - 1 - (m - K) / 2), by omega, by rw [yun_d]; omega⟩
    · exact ⟨ap - 1 - (m - K) / 2, by omega, by rw [yun_a (by omega)]; omega⟩
end
/-- node i of a run, as it is laid -/
def yKf (Ks zs ws Wd : Nat → Nat) (Vs : Nat → Int64) (Yb : Nat → Nat → Int32) (I : zI) (J : zJ) (ap K i : Nat) : Prop :=
  (i < ap + K → I 4944 (yun zs ws ap K i) = nI (yKd Ks ap K i) ∧ J 4977 (yun zs ws ap K i) = yNd Vs ap K i) ∧ (ap + K ≤ i → I 4944 (yun zs ws ap K i) = 12 ∧ J 4977 (yun zs ws ap K i) = (nI (2 - (i - (ap + K)))).toInt64) ∧
  (yKd Ks ap K i = 1 ∨ yKd Ks ap K i = 2 ∨ yKd Ks ap K i = 3 ∨ yKd Ks ap K i = 4 → I 5008 (yun zs ws ap K i) = nI (yun zs ws ap K (i + 1)) ∧ yun zs ws ap K (i + 1) < yun zs ws ap K i) ∧ (yKd Ks ap K i = 0 ∨ 5 ≤ yKd Ks ap K i → I 5008 (yun zs ws ap K i) = -1) ∧ (yKd Ks ap K i = 2 → I 5040 (yun zs ws ap K i) = nI (yun zs ws ap K (ySd (ySs zs) ap K i)) ∧ yun zs ws ap K (ySd (ySs zs) ap K i) < yun zs ws ap K i) ∧ (yKd Ks ap K i ≠ 2 → I 5040 (yun zs ws ap K i) = -1) ∧
  (i < ap + K → yKd Ks ap K i = 8 → ∀ b, b < Wd (i - ap) → I 5103 (64 * yun zs ws ap K i + b) = Yb (i - ap) b)
section
variable {I I' I0 : zI} {J J' J0 : zJ} {P : zP} {N : Nat → Nat} {n z : Nat} {Q : Option Value → zS → Prop} {Ks zs ls ws Wd : Nat → Nat} {Vs : Nat → Int64} {Yb : Nat → Nat → Int32} {K ap : Nat}
theorem yKf_x {i : Nat} (h1 : I' 4944 = I 4944) (h2 : I' 5008 = I 5008) (h3 : I' 5040 = I 5040) (h4 : I' 5103 = I 5103) (h5 : J' 4977 = J 4977) (h : yKf Ks zs ws Wd Vs Yb I J ap K i) : yKf Ks zs ws Wd Vs Yb I' J' ap K i := by
  unfold yKf at h ⊢
  rw [h1, h2, h3, h4, h5]
  exact h
theorem yRl_k (h : ySc Ks zs ls ws Vs Wd Yb K) (hap : ap = 2 ∨ ap = 3) (hl : yRl Ks zs ws Wd Vs Yb I J K (3 - ap) ap) {i : Nat} (hi : i < ap + K + ap) : yKf Ks zs ws Wd Vs Yb I J ap K i := by
  have h0 := h.1
  obtain ⟨l1, l2, -⟩ := hl
  unfold yKf
  by_cases h1 : i < ap
  · have a1 : yKd Ks ap K i = 2 := if_pos h1
    have s1 : ySd (ySs zs) ap K i = ap + K + i := if_pos h1
    have n1 : yNd Vs ap K i = 0 := if_neg (by omega)
    have u1 : yun zs ws ap K i = K + 2 * (ap - 1 - i) + 1 := yun_a h1
    have u2 : yun zs ws ap K (ap + K + i) = K + 2 * (ap - 1 - i) := yun_d
    obtain ⟨-, m1, m2, m3, m4⟩ := l2 (ap - 1 - i) (by omega)
    have u3 : yun zs ws ap K (i + 1) = K + 2 * (ap - 1 - i) - 1 := by
      by_cases h2 : i + 1 < ap
      · rw [yun_a h2]; omega
      · rw [show i + 1 = ap + 0 by omega, yun_s (by omega)]
        unfold yu
        omega
    rw [a1, s1, n1, u1, u2, u3]
    refine ⟨fun _ => ⟨m1, m2⟩, fun h => by omega, fun _ => ⟨m3, by omega⟩, fun h => by omega, fun _ => ⟨m4, by omega⟩, fun h => absurd rfl h, fun _ h => by omega⟩
  · by_cases h2 : i < ap + K
    · obtain ⟨j, rfl⟩ : ∃ j, i = ap + j := ⟨i - ap, by omega⟩
      have hj : j < K := by omega
      have a1 : yKd Ks ap K (ap + j) = Ks j := by unfold yKd; rw [if_neg h1, if_pos h2, show ap + j - ap = j by omega]
      have s1 : ySd (ySs zs) ap K (ap + j) = ap + (j + 1 + zs (j + 1)) := by unfold ySd ySs; rw [if_neg h1, show ap + j - ap = j by omega]
      have n1 : yNd Vs ap K (ap + j) = Vs j := by unfold yNd; rw [if_pos ⟨by omega, h2⟩, show ap + j - ap = j by omega]
      obtain ⟨r1, r2, r3, r4, r5, r6, r7, r8⟩ := l1 j hj
      obtain ⟨⟨x1, x2, x3, x4, x5⟩, -, b1, b3, b2, -⟩ := h.2 j hj
      have wl := (yu_w h hj).1
      rw [a1, s1, n1, yun_s hj, show ap + j - ap = j by omega]
      have c1 : Ks j = 1 ∨ Ks j = 2 ∨ Ks j = 3 ∨ Ks j = 4 → j + 1 < K ∧ yu zs ws (j + 1) < yu zs ws j := fun hk => by
        have key : j + 1 < K ∧ ws (j + 1) = ws j + 1 ∧ 1 + zs (j + 1) ≤ zs j := by
          rcases hk with h | h | h | h
          · have := b1 h; omega
          · have := b2 h; omega
          · have := b3 (Or.inl h); omega
          · have := b3 (Or.inr h); omega
        unfold yu
        omega
      refine ⟨fun _ => ⟨r1, r2⟩, fun h => by omega, fun hk => ?_, r6, fun hk => ?_, r7, fun _ => r8⟩
      · obtain ⟨k1, k2⟩ := c1 hk
        rw [show ap + j + 1 = ap + (j + 1) by omega, yun_s k1]
        exact ⟨r4 hk, k2⟩
      · obtain ⟨y1, y2, y3, y4, y5, y6, y7⟩ := b2 hk
        rw [yun_s (show j + 1 + zs (j + 1) < K by omega)]
        refine ⟨r5 hk, ?_⟩
        unfold yu
        omega
    · obtain ⟨j, rfl⟩ : ∃ j, i = ap + K + j := ⟨i - (ap + K), by omega⟩
      have a1 : yKd Ks ap K (ap + K + j) = 11 := by unfold yKd; rw [if_neg h1, if_neg h2]
      obtain ⟨⟨m1, m2, m3, m4⟩, -⟩ := l2 (ap - 1 - j) (by omega)
      rw [a1, yun_d, show ap + K + j - (ap + K) = j by omega]
      rw [show 3 - ap + (ap - 1 - j) = 2 - j by omega] at m2
      exact ⟨fun h => by omega, fun _ => ⟨m1, m2⟩, fun h => by omega, fun _ => m3, fun h => by omega, fun _ => m4, fun h => by omega⟩
set_option maxRecDepth 20000 in
set_option maxHeartbeats 8000000 in
theorem e187 (hS : zStat P N) (h : ySc Ks zs ls ws Vs Wd Yb K) (hap : ap = 2 ∨ ap = 3) (hk : ∀ i, i < ap + K + ap → yKf Ks zs ws Wd Vs Yb I J ap K i) (h9 : I 4908 9 = 1) (h5 : I 5136 0 = nI (ap + K + ap - 1)) (h6 : I 5072 (ap + K + ap - 1) = nI (ap + K + ap)) (hQ : ∀ I', (∀ c, c ≠ 6064 → I' c = I c) → Q (some (.int 0)) (I', J, P, N, n, z)) : zC 187 [.ref 4908] (I, J, P, N, n, z) Q := by
  have h0 := h.1
  have hc := yco_of h hap
  have li : ∀ q m (I1 : zI) v3 v4 v5, m + q = ap + K + ap → (∀ c, c ≠ 6064 → I1 c = I c) → (∀ i, i < ap + K + ap → yun zs ws ap K i < m → ∃ x, x ≤ yLm ls ap K i ∧ I1 6064 (yun zs ws ap K i) = nI x) → zQ zt187 zo187_1 [some (.ref 4908), some (.int (nI (ap + K + ap - 1))), some (.int (nI m)), v3, v4, v5] [] (I1, J, P, N, n, z) Q := by
    intro q
    induction q with
    | zero =>
      intro m I1 v3 v4 v5 hm fr hx
      obtain rfl : m = ap + K + ap := by omega
      obtain ⟨x, x1, x2⟩ := hx 0 (by omega) (yun_l h (by omega))
      have l0 : yLm ls ap K 0 = 0 := if_neg (by omega)
      rw [l0] at x1
      obtain rfl : x = 0 := by omega
      rw [yun_a (by omega), show K + 2 * (ap - 1 - 0) + 1 = ap + K + ap - 1 by omega] at x2
      have x2 : I1 6064 (ap + K + ap - 1) = 0 := x2
      have q := hQ I1 fr
      rw [zo187_1]
      simp (decide := true) (disch := omega) only [x2, zi187, zt187, zo187_0, zo187_2, zo187_3, zo187_4, zo187_5, zo187_6, zo187_7, zo187_8, zo187_9, zo187_10, zo187_11, zy_ldI, zy_ldL, zy_ldA, zy_stI, zy_stL, zy_stA, zy_cI, zy_cL, zy_nul, zy_inc, zy_bI, zy_bL, zy_sL, zy_un, zy_cmp, zy_dup, zy_dup2, zy_pop, zy_pop2, zy_jn, zy_jnn, zy_go, zy_fal, zy_tsw, zy_lsw, zy_get, zy_put, zy_ald, zy_ast, zy_len, zy_newa, zy_new, zy_cal, zy_ret, zy_tak, zy_cst, zy_acp, zy_oini, zy_cln, zy_thr, zy_bad, zy_lco, zy_if0, zy_ic0, zy_if1, zy_ic1, zy_if2, zy_ic2, zy_if3, zy_ic3, zy_if4, zy_ic4, zy_if5, zy_ic5, zK_go, zK_to, zK_end, zK_callH, zK_iteC, zK_none, zsLd, zsSt, zsInc, zsBI, zsBL, zsSL, zsUn, zsCmp, zsDup, zsDup2, zsPop, zsPop2, zsJn, zsTsw, zsLsw, zsGet, zsPut, zsAld, zsAst, zsLen, zsNewa, zsCal, zsRet, zsCst, zsAcp, zsOini, zsCln, zsLco, zsThr, zxBI, zxBL, zxSL, zxU, zset1, zset2, zclr, zcat, zmake_mk, zcomp, zH_i, zH_l, zH_r, zH_u, zH_n, List.set_cons_zero, List.set_cons_succ, List.getElem?_cons_zero, List.getElem?_cons_succ, List.length_cons, List.length_nil, List.take_succ_cons, List.take_zero, List.drop_succ_cons, List.drop_zero, List.reverse_cons, List.reverse_nil, List.nil_append, List.cons_append, List.map_cons, List.map_nil, List.sum_cons, List.sum_nil, Option.toList_some, Option.toList_none, Value.category, Nat.reduceAdd, Nat.reduceMul, Nat.reduceMod, Nat.reduceDiv, Nat.reduceSub, Nat.reduceLT, Nat.reduceLeDiff, Nat.reduceEqDiff, Nat.zero_le, Nat.le_refl, Int32.reduceToNatClampNeg, Int32.reduceLT, Int32.reduceLE, Int32.reduceAdd, Int32.reduceSub, Int32.reduceMul, ↓reduceIte, reduceCtorEq, Nat.add_zero, Nat.zero_add, true_or, or_true, false_or, or_false, true_and, and_true, false_and, and_false, not_true_eq_false, not_false_eq_true, if_true, if_false, true_implies, false_implies, implies_true, forall_const, false_imp_iff, true_imp_iff, va_rf, zlay, zent, List.replicate_zero, List.append_nil, List.replicate_succ, List.length_append, ne_eq, Option.some.injEq, Value.int.injEq, Value.long.injEq, Int32.reduceOfNat, Int32.reduceToInt, Int.reduceLT, Int.reduceLE, Int.reduceSub, Int.reduceToNat, Int.reduceAdd, Int.reduceNeg, Int32.reduceDiv, Int64.reduceAdd, Int64.reduceSub, lg_cmp_ge, lg_cmp_le, lg_cmp_gt, lg_cmp_lt, lg_cmp_eq, wlt_t, wlt_f, wle_t, wle_f, wmod, wI_lt, wI_le, wI_eq, wI_neg, wI_pos, wI_cl, wI_ge, wI_po, w64_lt, w64_le, w64_eq, w64_lt0, w64_le0, w64_eq0, w64_32, zc317, zc319, wI_add, wI_a1, wI_s1, wI_e0, wI_m8, wI_m128, wI_m64, wI_m190, not_true_eq_false, not_false_eq_true, sP_4908_1 hS, sP_4908_2 hS, sP_4908_3 hS, sP_4908_4 hS, sP_4908_5 hS, sP_4908_8 hS, sP_4908_55 hS, sN_4944 hS, sN_4977 hS, sN_5008 hS, sN_5040 hS, sN_5072 hS, sN_5136 hS, sN_6064 hS, sN_6417 hS]
      exact q
    | succ q ih =>
      intro m I1 v3 v4 v5 hm fr hx
      have t1 : ¬ nI (ap + K + ap - 1) < nI m := by rw [wI_lt (by omega) (by omega)]; omega
      obtain ⟨i, i1, i2⟩ := yun_s2 h (show m < ap + K + ap by omega)
      obtain ⟨f1, f2, f3, f4, f5, f6, -⟩ := yKf_x (I' := I1) (J' := J) (fr 4944 (by decide)) (fr 5008 (by decide)) (fr 5040 (by decide)) (fr 5103 (by decide)) rfl (hk i i1)
      rw [i2] at f1 f2 f3 f4 f5 f6
      obtain ⟨c1, c2, c3, c4, c5, c6, c7⟩ := hc.2 i i1
      have m200 : m < 200 := by have := hc.1; omega
      have lem : m ≤ ap + K + ap - 1 := by omega
      -- the value that is stored
      have next : ∀ (x : Nat) v3 v4 v5, x ≤ yLm ls ap K i → zQ zt187 zo187_1 [some (.ref 4908), some (.int (nI (ap + K + ap - 1))), some (.int (nI (m + 1))), v3, v4, v5] [] (zu I1 6064 m (nI x), J, P, N, n, z) Q := fun x v3 v4 v5 hxl =>
        ih (m + 1) (zu I1 6064 m (nI x)) v3 v4 v5 (by omega) (fun c hc => by rw [zuR_ne hc, fr c hc]) (fun k k1 k2 => by
          by_cases e : yun zs ws ap K k = m
          · have : k = i := yun_j h k1 i1 (e.trans i2.symm)
            subst this
            exact ⟨x, hxl, by rw [e, zu_at]⟩
          · obtain ⟨y, y1, y2⟩ := hx k k1 (by omega)
            exact ⟨y, y1, by rw [zu_nj e]; exact y2⟩)
      have nm1 : ¬ (0 : Int32) ≤ -1 := by decide
      have kid : ∃ kk : Nat, kk < 13 ∧ I1 4944 m = nI kk ∧ (yKd Ks ap K i < 7 → kk = yKd Ks ap K i) ∧ (7 ≤ yKd Ks ap K i → 7 ≤ kk) := by
        by_cases hd : i < ap + K
        · exact ⟨yKd Ks ap K i, by omega, (f1 hd).1, fun _ => rfl, id⟩
        · have e : yKd Ks ap K i = 11 := by unfold yKd; rw [if_neg (by omega), if_neg hd]
          exact ⟨12, by omega, (f2 (by omega)).1, fun h => by omega, fun _ => by omega⟩
      obtain ⟨kk, kk0, kk1, kk2, kk3⟩ := kid
      rw [zo187_1]
      by_cases k2 : yKd Ks ap K i = 2
      · obtain ⟨d1, d2, d3, d4⟩ := c6 k2
        obtain ⟨e1, e2⟩ := f3 (Or.inr (Or.inl k2))
        obtain ⟨e3, e4⟩ := f5 k2
        obtain ⟨x, x1, x2⟩ := hx (i + 1) d1 e2
        obtain ⟨y, y1, y2⟩ := hx _ d3 e4
        have ek : kk = 2 := by rw [kk2 (by omega), k2]
        rw [ek] at kk1
        have kk1 : I1 4944 m = 2 := kk1
        have ul1 := yun_l h d1
        have ul2 := yun_l h d3
        have bx : x < 2 ^ 20 := by omega
        have by' : y < 2 ^ 20 := by omega
        by_cases hxy : x ≤ y
        · have q := next y (some (.int (nI x))) (some (.int (nI y))) (some (.int (nI y))) (by omega)
          simp (decide := true) (disch := omega) only [t1, e1, e3, x2, y2, kk1, zi187, zt187, zo187_0, zo187_2, zo187_3, zo187_4, zo187_5, zo187_6, zo187_7, zo187_8, zo187_9, zo187_10, zo187_11, zy_ldI, zy_ldL, zy_ldA, zy_stI, zy_stL, zy_stA, zy_cI, zy_cL, zy_nul, zy_inc, zy_bI, zy_bL, zy_sL, zy_un, zy_cmp, zy_dup, zy_dup2, zy_pop, zy_pop2, zy_jn, zy_jnn, zy_go, zy_fal, zy_tsw, zy_lsw, zy_get, zy_put, zy_ald, zy_ast, zy_len, zy_newa, zy_new, zy_cal, zy_ret, zy_tak, zy_cst, zy_acp, zy_oini, zy_cln, zy_thr, zy_bad, zy_lco, zy_if0, zy_ic0, zy_if1, zy_ic1, zy_if2, zy_ic2, zy_if3, zy_ic3, zy_if4, zy_ic4, zy_if5, zy_ic5, zK_go, zK_to, zK_end, zK_callH, zK_iteC, zK_none, zsLd, zsSt, zsInc, zsBI, zsBL, zsSL, zsUn, zsCmp, zsDup, zsDup2, zsPop, zsPop2, zsJn, zsTsw, zsLsw, zsGet, zsPut, zsAld, zsAst, zsLen, zsNewa, zsCal, zsRet, zsCst, zsAcp, zsOini, zsCln, zsLco, zsThr, zxBI, zxBL, zxSL, zxU, zset1, zset2, zclr, zcat, zmake_mk, zcomp, zH_i, zH_l, zH_r, zH_u, zH_n, List.set_cons_zero, List.set_cons_succ, List.getElem?_cons_zero, List.getElem?_cons_succ, List.length_cons, List.length_nil, List.take_succ_cons, List.take_zero, List.drop_succ_cons, List.drop_zero, List.reverse_cons, List.reverse_nil, List.nil_append, List.cons_append, List.map_cons, List.map_nil, List.sum_cons, List.sum_nil, Option.toList_some, Option.toList_none, Value.category, Nat.reduceAdd, Nat.reduceMul, Nat.reduceMod, Nat.reduceDiv, Nat.reduceSub, Nat.reduceLT, Nat.reduceLeDiff, Nat.reduceEqDiff, Nat.zero_le, Nat.le_refl, Int32.reduceToNatClampNeg, Int32.reduceLT, Int32.reduceLE, Int32.reduceAdd, Int32.reduceSub, Int32.reduceMul, ↓reduceIte, reduceCtorEq, Nat.add_zero, Nat.zero_add, true_or, or_true, false_or, or_false, true_and, and_true, false_and, and_false, not_true_eq_false, not_false_eq_true, if_true, if_false, true_implies, false_implies, implies_true, forall_const, false_imp_iff, true_imp_iff, va_rf, zlay, zent, List.replicate_zero, List.append_nil, List.replicate_succ, List.length_append, ne_eq, Option.some.injEq, Value.int.injEq, Value.long.injEq, Int32.reduceOfNat, Int32.reduceToInt, Int.reduceLT, Int.reduceLE, Int.reduceSub, Int.reduceToNat, Int.reduceAdd, Int.reduceNeg, Int32.reduceDiv, Int64.reduceAdd, Int64.reduceSub, lg_cmp_ge, lg_cmp_le, lg_cmp_gt, lg_cmp_lt, lg_cmp_eq, wlt_t, wlt_f, wle_t, wle_f, wmod, wI_lt, wI_le, wI_eq, wI_neg, wI_pos, wI_cl, wI_ge, wI_po, w64_lt, w64_le, w64_eq, w64_lt0, w64_le0, w64_eq0, w64_32, zc317, zc319, wI_add, wI_a1, wI_s1, wI_e0, wI_m8, wI_m128, wI_m64, wI_m190, not_true_eq_false, not_false_eq_true, sP_4908_1 hS, sP_4908_2 hS, sP_4908_3 hS, sP_4908_4 hS, sP_4908_5 hS, sP_4908_8 hS, sP_4908_55 hS, sN_4944 hS, sN_4977 hS, sN_5008 hS, sN_5040 hS, sN_5072 hS, sN_5136 hS, sN_6064 hS, sN_6417 hS]
          exact q
        · have q := next x (some (.int (nI x))) (some (.int (nI y))) (some (.int (nI x))) (by omega)
          simp (decide := true) (disch := omega) only [t1, e1, e3, x2, y2, kk1, zi187, zt187, zo187_0, zo187_2, zo187_3, zo187_4, zo187_5, zo187_6, zo187_7, zo187_8, zo187_9, zo187_10, zo187_11, zy_ldI, zy_ldL, zy_ldA, zy_stI, zy_stL, zy_stA, zy_cI, zy_cL, zy_nul, zy_inc, zy_bI, zy_bL, zy_sL, zy_un, zy_cmp, zy_dup, zy_dup2, zy_pop, zy_pop2, zy_jn, zy_jnn, zy_go, zy_fal, zy_tsw, zy_lsw, zy_get, zy_put, zy_ald, zy_ast, zy_len, zy_newa, zy_new, zy_cal, zy_ret, zy_tak, zy_cst, zy_acp, zy_oini, zy_cln, zy_thr, zy_bad, zy_lco, zy_if0, zy_ic0, zy_if1, zy_ic1, zy_if2, zy_ic2, zy_if3, zy_ic3, zy_if4, zy_ic4, zy_if5, zy_ic5, zK_go, zK_to, zK_end, zK_callH, zK_iteC, zK_none, zsLd, zsSt, zsInc, zsBI, zsBL, zsSL, zsUn, zsCmp, zsDup, zsDup2, zsPop, zsPop2, zsJn, zsTsw, zsLsw, zsGet, zsPut, zsAld, zsAst, zsLen, zsNewa, zsCal, zsRet, zsCst, zsAcp, zsOini, zsCln, zsLco, zsThr, zxBI, zxBL, zxSL, zxU, zset1, zset2, zclr, zcat, zmake_mk, zcomp, zH_i, zH_l, zH_r, zH_u, zH_n, List.set_cons_zero, List.set_cons_succ, List.getElem?_cons_zero, List.getElem?_cons_succ, List.length_cons, List.length_nil, List.take_succ_cons, List.take_zero, List.drop_succ_cons, List.drop_zero, List.reverse_cons, List.reverse_nil, List.nil_append, List.cons_append, List.map_cons, List.map_nil, List.sum_cons, List.sum_nil, Option.toList_some, Option.toList_none, Value.category, Nat.reduceAdd, Nat.reduceMul, Nat.reduceMod, Nat.reduceDiv, Nat.reduceSub, Nat.reduceLT, Nat.reduceLeDiff, Nat.reduceEqDiff, Nat.zero_le, Nat.le_refl, Int32.reduceToNatClampNeg, Int32.reduceLT, Int32.reduceLE, Int32.reduceAdd, Int32.reduceSub, Int32.reduceMul, ↓reduceIte, reduceCtorEq, Nat.add_zero, Nat.zero_add, true_or, or_true, false_or, or_false, true_and, and_true, false_and, and_false, not_true_eq_false, not_false_eq_true, if_true, if_false, true_implies, false_implies, implies_true, forall_const, false_imp_iff, true_imp_iff, va_rf, zlay, zent, List.replicate_zero, List.append_nil, List.replicate_succ, List.length_append, ne_eq, Option.some.injEq, Value.int.injEq, Value.long.injEq, Int32.reduceOfNat, Int32.reduceToInt, Int.reduceLT, Int.reduceLE, Int.reduceSub, Int.reduceToNat, Int.reduceAdd, Int.reduceNeg, Int32.reduceDiv, Int64.reduceAdd, Int64.reduceSub, lg_cmp_ge, lg_cmp_le, lg_cmp_gt, lg_cmp_lt, lg_cmp_eq, wlt_t, wlt_f, wle_t, wle_f, wmod, wI_lt, wI_le, wI_eq, wI_neg, wI_pos, wI_cl, wI_ge, wI_po, w64_lt, w64_le, w64_eq, w64_lt0, w64_le0, w64_eq0, w64_32, zc317, zc319, wI_add, wI_a1, wI_s1, wI_e0, wI_m8, wI_m128, wI_m64, wI_m190, not_true_eq_false, not_false_eq_true, sP_4908_1 hS, sP_4908_2 hS, sP_4908_3 hS, sP_4908_4 hS, sP_4908_5 hS, sP_4908_8 hS, sP_4908_55 hS, sN_4944 hS, sN_4977 hS, sN_5008 hS, sN_5040 hS, sN_5072 hS, sN_5136 hS, sN_6064 hS, sN_6417 hS]
          exact q
      · have s1 := f6 k2
        by_cases k1 : yKd Ks ap K i = 1
        · obtain ⟨d1, d2⟩ := c4 k1
          obtain ⟨e1, e2⟩ := f3 (Or.inl k1)
          obtain ⟨x, x1, x2⟩ := hx (i + 1) d1 e2
          have ek : kk = 1 := by rw [kk2 (by omega), k1]
          rw [ek] at kk1
          have kk1 : I1 4944 m = 1 := kk1
          have ul1 := yun_l h d1
          by_cases hx0 : x = 0
          · have q := next 0 (some (.int (nI x))) (some (.int 0)) (some (.int 0)) (by omega)
            subst hx0
            have x2 : I1 6064 (yun zs ws ap K (i + 1)) = 0 := x2
            have e00 : nI 0 = 0 := rfl
            rw [e00] at q
            simp (decide := true) (disch := omega) only [t1, e1, s1, nm1, x2, kk1, zi187, zt187, zo187_0, zo187_2, zo187_3, zo187_4, zo187_5, zo187_6, zo187_7, zo187_8, zo187_9, zo187_10, zo187_11, zy_ldI, zy_ldL, zy_ldA, zy_stI, zy_stL, zy_stA, zy_cI, zy_cL, zy_nul, zy_inc, zy_bI, zy_bL, zy_sL, zy_un, zy_cmp, zy_dup, zy_dup2, zy_pop, zy_pop2, zy_jn, zy_jnn, zy_go, zy_fal, zy_tsw, zy_lsw, zy_get, zy_put, zy_ald, zy_ast, zy_len, zy_newa, zy_new, zy_cal, zy_ret, zy_tak, zy_cst, zy_acp, zy_oini, zy_cln, zy_thr, zy_bad, zy_lco, zy_if0, zy_ic0, zy_if1, zy_ic1, zy_if2, zy_ic2, zy_if3, zy_ic3, zy_if4, zy_ic4, zy_if5, zy_ic5, zK_go, zK_to, zK_end, zK_callH, zK_iteC, zK_none, zsLd, zsSt, zsInc, zsBI, zsBL, zsSL, zsUn, zsCmp, zsDup, zsDup2, zsPop, zsPop2, zsJn, zsTsw, zsLsw, zsGet, zsPut, zsAld, zsAst, zsLen, zsNewa, zsCal, zsRet, zsCst, zsAcp, zsOini, zsCln, zsLco, zsThr, zxBI, zxBL, zxSL, zxU, zset1, zset2, zclr, zcat, zmake_mk, zcomp, zH_i, zH_l, zH_r, zH_u, zH_n, List.set_cons_zero, List.set_cons_succ, List.getElem?_cons_zero, List.getElem?_cons_succ, List.length_cons, List.length_nil, List.take_succ_cons, List.take_zero, List.drop_succ_cons, List.drop_zero, List.reverse_cons, List.reverse_nil, List.nil_append, List.cons_append, List.map_cons, List.map_nil, List.sum_cons, List.sum_nil, Option.toList_some, Option.toList_none, Value.category, Nat.reduceAdd, Nat.reduceMul, Nat.reduceMod, Nat.reduceDiv, Nat.reduceSub, Nat.reduceLT, Nat.reduceLeDiff, Nat.reduceEqDiff, Nat.zero_le, Nat.le_refl, Int32.reduceToNatClampNeg, Int32.reduceLT, Int32.reduceLE, Int32.reduceAdd, Int32.reduceSub, Int32.reduceMul, ↓reduceIte, reduceCtorEq, Nat.add_zero, Nat.zero_add, true_or, or_true, false_or, or_false, true_and, and_true, false_and, and_false, not_true_eq_false, not_false_eq_true, if_true, if_false, true_implies, false_implies, implies_true, forall_const, false_imp_iff, true_imp_iff, va_rf, zlay, zent, List.replicate_zero, List.append_nil, List.replicate_succ, List.length_append, ne_eq, Option.some.injEq, Value.int.injEq, Value.long.injEq, Int32.reduceOfNat, Int32.reduceToInt, Int.reduceLT, Int.reduceLE, Int.reduceSub, Int.reduceToNat, Int.reduceAdd, Int.reduceNeg, Int32.reduceDiv, Int64.reduceAdd, Int64.reduceSub, lg_cmp_ge, lg_cmp_le, lg_cmp_gt, lg_cmp_lt, lg_cmp_eq, wlt_t, wlt_f, wle_t, wle_f, wmod, wI_lt, wI_le, wI_eq, wI_neg, wI_pos, wI_cl, wI_ge, wI_po, w64_lt, w64_le, w64_eq, w64_lt0, w64_le0, w64_eq0, w64_32, zc317, zc319, wI_add, wI_a1, wI_s1, wI_e0, wI_m8, wI_m128, wI_m64, wI_m190, not_true_eq_false, not_false_eq_true, sP_4908_1 hS, sP_4908_2 hS, sP_4908_3 hS, sP_4908_4 hS, sP_4908_5 hS, sP_4908_8 hS, sP_4908_55 hS, sN_4944 hS, sN_4977 hS, sN_5008 hS, sN_5040 hS, sN_5072 hS, sN_5136 hS, sN_6064 hS, sN_6417 hS]
            exact q
          · have q := next (x - 1) (some (.int (nI x))) (some (.int 0)) (some (.int (nI x))) (by omega)
            have e5 : nI x - 1 = nI (x - 1) := wI_sub (b := 1) (by omega)
            have t0 : ¬ nI x ≤ 0 := by rw [wI_po (by omega)]; omega
            simp (decide := true) (disch := omega) only [t1, e1, s1, nm1, x2, kk1, t0, e5, zi187, zt187, zo187_0, zo187_2, zo187_3, zo187_4, zo187_5, zo187_6, zo187_7, zo187_8, zo187_9, zo187_10, zo187_11, zy_ldI, zy_ldL, zy_ldA, zy_stI, zy_stL, zy_stA, zy_cI, zy_cL, zy_nul, zy_inc, zy_bI, zy_bL, zy_sL, zy_un, zy_cmp, zy_dup, zy_dup2, zy_pop, zy_pop2, zy_jn, zy_jnn, zy_go, zy_fal, zy_tsw, zy_lsw, zy_get, zy_put, zy_ald, zy_ast, zy_len, zy_newa, zy_new, zy_cal, zy_ret, zy_tak, zy_cst, zy_acp, zy_oini, zy_cln, zy_thr, zy_bad, zy_lco, zy_if0, zy_ic0, zy_if1, zy_ic1, zy_if2, zy_ic2, zy_if3, zy_ic3, zy_if4, zy_ic4, zy_if5, zy_ic5, zK_go, zK_to, zK_end, zK_callH, zK_iteC, zK_none, zsLd, zsSt, zsInc, zsBI, zsBL, zsSL, zsUn, zsCmp, zsDup, zsDup2, zsPop, zsPop2, zsJn, zsTsw, zsLsw, zsGet, zsPut, zsAld, zsAst, zsLen, zsNewa, zsCal, zsRet, zsCst, zsAcp, zsOini, zsCln, zsLco, zsThr, zxBI, zxBL, zxSL, zxU, zset1, zset2, zclr, zcat, zmake_mk, zcomp, zH_i, zH_l, zH_r, zH_u, zH_n, List.set_cons_zero, List.set_cons_succ, List.getElem?_cons_zero, List.getElem?_cons_succ, List.length_cons, List.length_nil, List.take_succ_cons, List.take_zero, List.drop_succ_cons, List.drop_zero, List.reverse_cons, List.reverse_nil, List.nil_append, List.cons_append, List.map_cons, List.map_nil, List.sum_cons, List.sum_nil, Option.toList_some, Option.toList_none, Value.category, Nat.reduceAdd, Nat.reduceMul, Nat.reduceMod, Nat.reduceDiv, Nat.reduceSub, Nat.reduceLT, Nat.reduceLeDiff, Nat.reduceEqDiff, Nat.zero_le, Nat.le_refl, Int32.reduceToNatClampNeg, Int32.reduceLT, Int32.reduceLE, Int32.reduceAdd, Int32.reduceSub, Int32.reduceMul, ↓reduceIte, reduceCtorEq, Nat.add_zero, Nat.zero_add, true_or, or_true, false_or, or_false, true_and, and_true, false_and, and_false, not_true_eq_false, not_false_eq_true, if_true, if_false, true_implies, false_implies, implies_true, forall_const, false_imp_iff, true_imp_iff, va_rf, zlay, zent, List.replicate_zero, List.append_nil, List.replicate_succ, List.length_append, ne_eq, Option.some.injEq, Value.int.injEq, Value.long.injEq, Int32.reduceOfNat, Int32.reduceToInt, Int.reduceLT, Int.reduceLE, Int.reduceSub, Int.reduceToNat, Int.reduceAdd, Int.reduceNeg, Int32.reduceDiv, Int64.reduceAdd, Int64.reduceSub, lg_cmp_ge, lg_cmp_le, lg_cmp_gt, lg_cmp_lt, lg_cmp_eq, wlt_t, wlt_f, wle_t, wle_f, wmod, wI_lt, wI_le, wI_eq, wI_neg, wI_pos, wI_cl, wI_ge, wI_po, w64_lt, w64_le, w64_eq, w64_lt0, w64_le0, w64_eq0, w64_32, zc317, zc319, wI_add, wI_a1, wI_s1, wI_e0, wI_m8, wI_m128, wI_m64, wI_m190, not_true_eq_false, not_false_eq_true, sP_4908_1 hS, sP_4908_2 hS, sP_4908_3 hS, sP_4908_4 hS, sP_4908_5 hS, sP_4908_8 hS, sP_4908_55 hS, sN_4944 hS, sN_4977 hS, sN_5008 hS, sN_5040 hS, sN_5072 hS, sN_5136 hS, sN_6064 hS, sN_6417 hS]
            exact q
        · by_cases k34 : yKd Ks ap K i = 3 ∨ yKd Ks ap K i = 4
          · obtain ⟨d1, d2⟩ := c5 k34
            obtain ⟨e1, e2⟩ := f3 (by omega)
            obtain ⟨x, x1, x2⟩ := hx (i + 1) d1 e2
            have n0 : ¬ nI kk = 0 := by rw [wI_e0 (by omega), kk2 (by omega)]; omega
            have n1 : ¬ nI kk = 1 := by rw [wI_eqc (c := 1), kk2 (by omega)]; exact k1
            have ul1 := yun_l h d1
            by_cases hx0 : x = 0
            · have q := next 0 (some (.int (nI x))) (some (.int 0)) (some (.int 0)) (by omega)
              subst hx0
              have x2 : I1 6064 (yun zs ws ap K (i + 1)) = 0 := x2
              have e00 : nI 0 = 0 := rfl
              rw [e00] at q
              simp (decide := true) (disch := omega) only [t1, e1, s1, nm1, x2, kk1, n0, n1, zi187, zt187, zo187_0, zo187_2, zo187_3, zo187_4, zo187_5, zo187_6, zo187_7, zo187_8, zo187_9, zo187_10, zo187_11, zy_ldI, zy_ldL, zy_ldA, zy_stI, zy_stL, zy_stA, zy_cI, zy_cL, zy_nul, zy_inc, zy_bI, zy_bL, zy_sL, zy_un, zy_cmp, zy_dup, zy_dup2, zy_pop, zy_pop2, zy_jn, zy_jnn, zy_go, zy_fal, zy_tsw, zy_lsw, zy_get, zy_put, zy_ald, zy_ast, zy_len, zy_newa, zy_new, zy_cal, zy_ret, zy_tak, zy_cst, zy_acp, zy_oini, zy_cln, zy_thr, zy_bad, zy_lco, zy_if0, zy_ic0, zy_if1, zy_ic1, zy_if2, zy_ic2, zy_if3, zy_ic3, zy_if4, zy_ic4, zy_if5, zy_ic5, zK_go, zK_to, zK_end, zK_callH, zK_iteC, zK_none, zsLd, zsSt, zsInc, zsBI, zsBL, zsSL, zsUn, zsCmp, zsDup, zsDup2, zsPop, zsPop2, zsJn, zsTsw, zsLsw, zsGet, zsPut, zsAld, zsAst, zsLen, zsNewa, zsCal, zsRet, zsCst, zsAcp, zsOini, zsCln, zsLco, zsThr, zxBI, zxBL, zxSL, zxU, zset1, zset2, zclr, zcat, zmake_mk, zcomp, zH_i, zH_l, zH_r, zH_u, zH_n, List.set_cons_zero, List.set_cons_succ, List.getElem?_cons_zero, List.getElem?_cons_succ, List.length_cons, List.length_nil, List.take_succ_cons, List.take_zero, List.drop_succ_cons, List.drop_zero, List.reverse_cons, List.reverse_nil, List.nil_append, List.cons_append, List.map_cons, List.map_nil, List.sum_cons, List.sum_nil, Option.toList_some, Option.toList_none, Value.category, Nat.reduceAdd, Nat.reduceMul, Nat.reduceMod, Nat.reduceDiv, Nat.reduceSub, Nat.reduceLT, Nat.reduceLeDiff, Nat.reduceEqDiff, Nat.zero_le, Nat.le_refl, Int32.reduceToNatClampNeg, Int32.reduceLT, Int32.reduceLE, Int32.reduceAdd, Int32.reduceSub, Int32.reduceMul, ↓reduceIte, reduceCtorEq, Nat.add_zero, Nat.zero_add, true_or, or_true, false_or, or_false, true_and, and_true, false_and, and_false, not_true_eq_false, not_false_eq_true, if_true, if_false, true_implies, false_implies, implies_true, forall_const, false_imp_iff, true_imp_iff, va_rf, zlay, zent, List.replicate_zero, List.append_nil, List.replicate_succ, List.length_append, ne_eq, Option.some.injEq, Value.int.injEq, Value.long.injEq, Int32.reduceOfNat, Int32.reduceToInt, Int.reduceLT, Int.reduceLE, Int.reduceSub, Int.reduceToNat, Int.reduceAdd, Int.reduceNeg, Int32.reduceDiv, Int64.reduceAdd, Int64.reduceSub, lg_cmp_ge, lg_cmp_le, lg_cmp_gt, lg_cmp_lt, lg_cmp_eq, wlt_t, wlt_f, wle_t, wle_f, wmod, wI_lt, wI_le, wI_eq, wI_neg, wI_pos, wI_cl, wI_ge, wI_po, w64_lt, w64_le, w64_eq, w64_lt0, w64_le0, w64_eq0, w64_32, zc317, zc319, wI_add, wI_a1, wI_s1, wI_e0, wI_m8, wI_m128, wI_m64, wI_m190, not_true_eq_false, not_false_eq_true, sP_4908_1 hS, sP_4908_2 hS, sP_4908_3 hS, sP_4908_4 hS, sP_4908_5 hS, sP_4908_8 hS, sP_4908_55 hS, sN_4944 hS, sN_4977 hS, sN_5008 hS, sN_5040 hS, sN_5072 hS, sN_5136 hS, sN_6064 hS, sN_6417 hS]
              exact q
            · have q := next x (some (.int (nI x))) (some (.int 0)) (some (.int (nI x))) (by omega)
              have t0 : ¬ nI x ≤ 0 := by rw [wI_po (by omega)]; omega
              simp (decide := true) (disch := omega) only [t1, e1, s1, nm1, x2, kk1, t0, n0, n1, zi187, zt187, zo187_0, zo187_2, zo187_3, zo187_4, zo187_5, zo187_6, zo187_7, zo187_8, zo187_9, zo187_10, zo187_11, zy_ldI, zy_ldL, zy_ldA, zy_stI, zy_stL, zy_stA, zy_cI, zy_cL, zy_nul, zy_inc, zy_bI, zy_bL, zy_sL, zy_un, zy_cmp, zy_dup, zy_dup2, zy_pop, zy_pop2, zy_jn, zy_jnn, zy_go, zy_fal, zy_tsw, zy_lsw, zy_get, zy_put, zy_ald, zy_ast, zy_len, zy_newa, zy_new, zy_cal, zy_ret, zy_tak, zy_cst, zy_acp, zy_oini, zy_cln, zy_thr, zy_bad, zy_lco, zy_if0, zy_ic0, zy_if1, zy_ic1, zy_if2, zy_ic2, zy_if3, zy_ic3, zy_if4, zy_ic4, zy_if5, zy_ic5, zK_go, zK_to, zK_end, zK_callH, zK_iteC, zK_none, zsLd, zsSt, zsInc, zsBI, zsBL, zsSL, zsUn, zsCmp, zsDup, zsDup2, zsPop, zsPop2, zsJn, zsTsw, zsLsw, zsGet, zsPut, zsAld, zsAst, zsLen, zsNewa, zsCal, zsRet, zsCst, zsAcp, zsOini, zsCln, zsLco, zsThr, zxBI, zxBL, zxSL, zxU, zset1, zset2, zclr, zcat, zmake_mk, zcomp, zH_i, zH_l, zH_r, zH_u, zH_n, List.set_cons_zero, List.set_cons_succ, List.getElem?_cons_zero, List.getElem?_cons_succ, List.length_cons, List.length_nil, List.take_succ_cons, List.take_zero, List.drop_succ_cons, List.drop_zero, List.reverse_cons, List.reverse_nil, List.nil_append, List.cons_append, List.map_cons, List.map_nil, List.sum_cons, List.sum_nil, Option.toList_some, Option.toList_none, Value.category, Nat.reduceAdd, Nat.reduceMul, Nat.reduceMod, Nat.reduceDiv, Nat.reduceSub, Nat.reduceLT, Nat.reduceLeDiff, Nat.reduceEqDiff, Nat.zero_le, Nat.le_refl, Int32.reduceToNatClampNeg, Int32.reduceLT, Int32.reduceLE, Int32.reduceAdd, Int32.reduceSub, Int32.reduceMul, ↓reduceIte, reduceCtorEq, Nat.add_zero, Nat.zero_add, true_or, or_true, false_or, or_false, true_and, and_true, false_and, and_false, not_true_eq_false, not_false_eq_true, if_true, if_false, true_implies, false_implies, implies_true, forall_const, false_imp_iff, true_imp_iff, va_rf, zlay, zent, List.replicate_zero, List.append_nil, List.replicate_succ, List.length_append, ne_eq, Option.some.injEq, Value.int.injEq, Value.long.injEq, Int32.reduceOfNat, Int32.reduceToInt, Int.reduceLT, Int.reduceLE, Int.reduceSub, Int.reduceToNat, Int.reduceAdd, Int.reduceNeg, Int32.reduceDiv, Int64.reduceAdd, Int64.reduceSub, lg_cmp_ge, lg_cmp_le, lg_cmp_gt, lg_cmp_lt, lg_cmp_eq, wlt_t, wlt_f, wle_t, wle_f, wmod, wI_lt, wI_le, wI_eq, wI_neg, wI_pos, wI_cl, wI_ge, wI_po, w64_lt, w64_le, w64_eq, w64_lt0, w64_le0, w64_eq0, w64_32, zc317, zc319, wI_add, wI_a1, wI_s1, wI_e0, wI_m8, wI_m128, wI_m64, wI_m190, not_true_eq_false, not_false_eq_true, sP_4908_1 hS, sP_4908_2 hS, sP_4908_3 hS, sP_4908_4 hS, sP_4908_5 hS, sP_4908_8 hS, sP_4908_55 hS, sN_4944 hS, sN_4977 hS, sN_5008 hS, sN_5040 hS, sN_5072 hS, sN_5136 hS, sN_6064 hS, sN_6417 hS]
              exact q
          · have g1 := f4 (by omega)
            by_cases k0 : yKd Ks ap K i = 0
            · obtain ⟨x, x1, x2, x3⟩ := c3 k0
              have hd : i < ap + K := Nat.lt_of_not_le fun hh => by
                have e : yKd Ks ap K i = 11 := by unfold yKd; rw [if_neg (by omega), if_neg (by omega)]
                omega
              have ek : kk = 0 := by rw [kk2 (by omega), k0]
              rw [ek] at kk1
              have kk1 : I1 4944 m = 0 := kk1
              have j1 : J 4977 m = (nI x).toInt64 := (f1 hd).2.trans x3
              have e3 : (nI x).toInt64.toInt32 = nI x := w64_32
              have q := next x (some (.int 0)) (some (.int 0)) (some (.int 0)) x2
              simp (decide := true) (disch := omega) only [t1, g1, s1, nm1, kk1, j1, e3, zi187, zt187, zo187_0, zo187_2, zo187_3, zo187_4, zo187_5, zo187_6, zo187_7, zo187_8, zo187_9, zo187_10, zo187_11, zy_ldI, zy_ldL, zy_ldA, zy_stI, zy_stL, zy_stA, zy_cI, zy_cL, zy_nul, zy_inc, zy_bI, zy_bL, zy_sL, zy_un, zy_cmp, zy_dup, zy_dup2, zy_pop, zy_pop2, zy_jn, zy_jnn, zy_go, zy_fal, zy_tsw, zy_lsw, zy_get, zy_put, zy_ald, zy_ast, zy_len, zy_newa, zy_new, zy_cal, zy_ret, zy_tak, zy_cst, zy_acp, zy_oini, zy_cln, zy_thr, zy_bad, zy_lco, zy_if0, zy_ic0, zy_if1, zy_ic1, zy_if2, zy_ic2, zy_if3, zy_ic3, zy_if4, zy_ic4, zy_if5, zy_ic5, zK_go, zK_to, zK_end, zK_callH, zK_iteC, zK_none, zsLd, zsSt, zsInc, zsBI, zsBL, zsSL, zsUn, zsCmp, zsDup, zsDup2, zsPop, zsPop2, zsJn, zsTsw, zsLsw, zsGet, zsPut, zsAld, zsAst, zsLen, zsNewa, zsCal, zsRet, zsCst, zsAcp, zsOini, zsCln, zsLco, zsThr, zxBI, zxBL, zxSL, zxU, zset1, zset2, zclr, zcat, zmake_mk, zcomp, zH_i, zH_l, zH_r, zH_u, zH_n, List.set_cons_zero, List.set_cons_succ, List.getElem?_cons_zero, List.getElem?_cons_succ, List.length_cons, List.length_nil, List.take_succ_cons, List.take_zero, List.drop_succ_cons, List.drop_zero, List.reverse_cons, List.reverse_nil, List.nil_append, List.cons_append, List.map_cons, List.map_nil, List.sum_cons, List.sum_nil, Option.toList_some, Option.toList_none, Value.category, Nat.reduceAdd, Nat.reduceMul, Nat.reduceMod, Nat.reduceDiv, Nat.reduceSub, Nat.reduceLT, Nat.reduceLeDiff, Nat.reduceEqDiff, Nat.zero_le, Nat.le_refl, Int32.reduceToNatClampNeg, Int32.reduceLT, Int32.reduceLE, Int32.reduceAdd, Int32.reduceSub, Int32.reduceMul, ↓reduceIte, reduceCtorEq, Nat.add_zero, Nat.zero_add, true_or, or_true, false_or, or_false, true_and, and_true, false_and, and_false, not_true_eq_false, not_false_eq_true, if_true, if_false, true_implies, false_implies, implies_true, forall_const, false_imp_iff, true_imp_iff, va_rf, zlay, zent, List.replicate_zero, List.append_nil, List.replicate_succ, List.length_append, ne_eq, Option.some.injEq, Value.int.injEq, Value.long.injEq, Int32.reduceOfNat, Int32.reduceToInt, Int.reduceLT, Int.reduceLE, Int.reduceSub, Int.reduceToNat, Int.reduceAdd, Int.reduceNeg, Int32.reduceDiv, Int64.reduceAdd, Int64.reduceSub, lg_cmp_ge, lg_cmp_le, lg_cmp_gt, lg_cmp_lt, lg_cmp_eq, wlt_t, wlt_f, wle_t, wle_f, wmod, wI_lt, wI_le, wI_eq, wI_neg, wI_pos, wI_cl, wI_ge, wI_po, w64_lt, w64_le, w64_eq, w64_lt0, w64_le0, w64_eq0, w64_32, zc317, zc319, wI_add, wI_a1, wI_s1, wI_e0, wI_m8, wI_m128, wI_m64, wI_m190, not_true_eq_false, not_false_eq_true, sP_4908_1 hS, sP_4908_2 hS, sP_4908_3 hS, sP_4908_4 hS, sP_4908_5 hS, sP_4908_8 hS, sP_4908_55 hS, sN_4944 hS, sN_4977 hS, sN_5008 hS, sN_5040 hS, sN_5072 hS, sN_5136 hS, sN_6064 hS, sN_6417 hS]
              exact q
            · have n0 : ¬ nI kk = 0 := by
                rw [wI_e0 (by omega)]
                by_cases h7 : yKd Ks ap K i < 7
                · rw [kk2 h7]; exact k0
                · have := kk3 (by omega); omega
              have n1 : ¬ nI kk = 1 := by
                rw [wI_eqc (c := 1)]
                by_cases h7 : yKd Ks ap K i < 7
                · rw [kk2 h7]; exact k1
                · have := kk3 (by omega); omega
              have q := next 0 (some (.int 0)) (some (.int 0)) (some (.int 0)) (by omega)
              have e00 : nI 0 = 0 := rfl
              rw [e00] at q
              simp (decide := true) (disch := omega) only [t1, g1, s1, nm1, kk1, n0, n1, zi187, zt187, zo187_0, zo187_2, zo187_3, zo187_4, zo187_5, zo187_6, zo187_7, zo187_8, zo187_9, zo187_10, zo187_11, zy_ldI, zy_ldL, zy_ldA, zy_stI, zy_stL, zy_stA, zy_cI, zy_cL, zy_nul, zy_inc, zy_bI, zy_bL, zy_sL, zy_un, zy_cmp, zy_dup, zy_dup2, zy_pop, zy_pop2, zy_jn, zy_jnn, zy_go, zy_fal, zy_tsw, zy_lsw, zy_get, zy_put, zy_ald, zy_ast, zy_len, zy_newa, zy_new, zy_cal, zy_ret, zy_tak, zy_cst, zy_acp, zy_oini, zy_cln, zy_thr, zy_bad, zy_lco, zy_if0, zy_ic0, zy_if1, zy_ic1, zy_if2, zy_ic2, zy_if3, zy_ic3, zy_if4, zy_ic4, zy_if5, zy_ic5, zK_go, zK_to, zK_end, zK_callH, zK_iteC, zK_none, zsLd, zsSt, zsInc, zsBI, zsBL, zsSL, zsUn, zsCmp, zsDup, zsDup2, zsPop, zsPop2, zsJn, zsTsw, zsLsw, zsGet, zsPut, zsAld, zsAst, zsLen, zsNewa, zsCal, zsRet, zsCst, zsAcp, zsOini, zsCln, zsLco, zsThr, zxBI, zxBL, zxSL, zxU, zset1, zset2, zclr, zcat, zmake_mk, zcomp, zH_i, zH_l, zH_r, zH_u, zH_n, List.set_cons_zero, List.set_cons_succ, List.getElem?_cons_zero, List.getElem?_cons_succ, List.length_cons, List.length_nil, List.take_succ_cons, List.take_zero, List.drop_succ_cons, List.drop_zero, List.reverse_cons, List.reverse_nil, List.nil_append, List.cons_append, List.map_cons, List.map_nil, List.sum_cons, List.sum_nil, Option.toList_some, Option.toList_none, Value.category, Nat.reduceAdd, Nat.reduceMul, Nat.reduceMod, Nat.reduceDiv, Nat.reduceSub, Nat.reduceLT, Nat.reduceLeDiff, Nat.reduceEqDiff, Nat.zero_le, Nat.le_refl, Int32.reduceToNatClampNeg, Int32.reduceLT, Int32.reduceLE, Int32.reduceAdd, Int32.reduceSub, Int32.reduceMul, ↓reduceIte, reduceCtorEq, Nat.add_zero, Nat.zero_add, true_or, or_true, false_or, or_false, true_and, and_true, false_and, and_false, not_true_eq_false, not_false_eq_true, if_true, if_false, true_implies, false_implies, implies_true, forall_const, false_imp_iff, true_imp_iff, va_rf, zlay, zent, List.replicate_zero, List.append_nil, List.replicate_succ, List.length_append, ne_eq, Option.some.injEq, Value.int.injEq, Value.long.injEq, Int32.reduceOfNat, Int32.reduceToInt, Int.reduceLT, Int.reduceLE, Int.reduceSub, Int.reduceToNat, Int.reduceAdd, Int.reduceNeg, Int32.reduceDiv, Int64.reduceAdd, Int64.reduceSub, lg_cmp_ge, lg_cmp_le, lg_cmp_gt, lg_cmp_lt, lg_cmp_eq, wlt_t, wlt_f, wle_t, wle_f, wmod, wI_lt, wI_le, wI_eq, wI_neg, wI_pos, wI_cl, wI_ge, wI_po, w64_lt, w64_le, w64_eq, w64_lt0, w64_le0, w64_eq0, w64_32, zc317, zc319, wI_add, wI_a1, wI_s1, wI_e0, wI_m8, wI_m128, wI_m64, wI_m190, not_true_eq_false, not_false_eq_true, sP_4908_1 hS, sP_4908_2 hS, sP_4908_3 hS, sP_4908_4 hS, sP_4908_5 hS, sP_4908_8 hS, sP_4908_55 hS, sN_4944 hS, sN_4977 hS, sN_5008 hS, sN_5040 hS, sN_5072 hS, sN_5136 hS, sN_6064 hS, sN_6417 hS]
              exact q
  have q := li (ap + K + ap) 0 I none none none (by omega) (fun _ _ => rfl) (fun i _ hh => by omega)
  have e1 : (1 : Int32) - 1 = 0 := by decide
  have m200 : ap + K + ap ≤ 200 := hc.1
  have e2 : nI (ap + K + ap - 1) - nI (ap + K + ap) = -1 := by
    rw [← Int32.toInt_inj, Int32.toInt_sub, nI_toInt (by omega), nI_toInt (by omega), show (-1 : Int32).toInt = -1 from rfl, Int.bmod_eq_of_le (by omega) (by omega)]
    omega
  have e3 : (-1 : Int32) + 1 = 0 := by decide
  have e00 : nI 0 = 0 := rfl
  rw [e00] at q
  simp (decide := true) (disch := omega) only [h9, e1, h5, h6, e2, e3, zi187, zt187, zo187_0, zo187_2, zo187_3, zo187_4, zo187_5, zo187_6, zo187_7, zo187_8, zo187_9, zo187_10, zo187_11, zy_ldI, zy_ldL, zy_ldA, zy_stI, zy_stL, zy_stA, zy_cI, zy_cL, zy_nul, zy_inc, zy_bI, zy_bL, zy_sL, zy_un, zy_cmp, zy_dup, zy_dup2, zy_pop, zy_pop2, zy_jn, zy_jnn, zy_go, zy_fal, zy_tsw, zy_lsw, zy_get, zy_put, zy_ald, zy_ast, zy_len, zy_newa, zy_new, zy_cal, zy_ret, zy_tak, zy_cst, zy_acp, zy_oini, zy_cln, zy_thr, zy_bad, zy_lco, zy_if0, zy_ic0, zy_if1, zy_ic1, zy_if2, zy_ic2, zy_if3, zy_ic3, zy_if4, zy_ic4, zy_if5, zy_ic5, zK_go, zK_to, zK_end, zK_callH, zK_iteC, zK_none, zsLd, zsSt, zsInc, zsBI, zsBL, zsSL, zsUn, zsCmp, zsDup, zsDup2, zsPop, zsPop2, zsJn, zsTsw, zsLsw, zsGet, zsPut, zsAld, zsAst, zsLen, zsNewa, zsCal, zsRet, zsCst, zsAcp, zsOini, zsCln, zsLco, zsThr, zxBI, zxBL, zxSL, zxU, zset1, zset2, zclr, zcat, zmake_mk, zcomp, zH_i, zH_l, zH_r, zH_u, zH_n, List.set_cons_zero, List.set_cons_succ, List.getElem?_cons_zero, List.getElem?_cons_succ, List.length_cons, List.length_nil, List.take_succ_cons, List.take_zero, List.drop_succ_cons, List.drop_zero, List.reverse_cons, List.reverse_nil, List.nil_append, List.cons_append, List.map_cons, List.map_nil, List.sum_cons, List.sum_nil, Option.toList_some, Option.toList_none, Value.category, Nat.reduceAdd, Nat.reduceMul, Nat.reduceMod, Nat.reduceDiv, Nat.reduceSub, Nat.reduceLT, Nat.reduceLeDiff, Nat.reduceEqDiff, Nat.zero_le, Nat.le_refl, Int32.reduceToNatClampNeg, Int32.reduceLT, Int32.reduceLE, Int32.reduceAdd, Int32.reduceSub, Int32.reduceMul, ↓reduceIte, reduceCtorEq, Nat.add_zero, Nat.zero_add, true_or, or_true, false_or, or_false, true_and, and_true, false_and, and_false, not_true_eq_false, not_false_eq_true, if_true, if_false, true_implies, false_implies, implies_true, forall_const, false_imp_iff, true_imp_iff, va_rf, zlay, zent, List.replicate_zero, List.append_nil, List.replicate_succ, List.length_append, ne_eq, Option.some.injEq, Value.int.injEq, Value.long.injEq, Int32.reduceOfNat, Int32.reduceToInt, Int.reduceLT, Int.reduceLE, Int.reduceSub, Int.reduceToNat, Int.reduceAdd, Int.reduceNeg, Int32.reduceDiv, Int64.reduceAdd, Int64.reduceSub, lg_cmp_ge, lg_cmp_le, lg_cmp_gt, lg_cmp_lt, lg_cmp_eq, wlt_t, wlt_f, wle_t, wle_f, wmod, wI_lt, wI_le, wI_eq, wI_neg, wI_pos, wI_cl, wI_ge, wI_po, w64_lt, w64_le, w64_eq, w64_lt0, w64_le0, w64_eq0, w64_32, zc317, zc319, wI_add, wI_a1, wI_s1, wI_e0, wI_m8, wI_m128, wI_m64, wI_m190, not_true_eq_false, not_false_eq_true, sP_4908_1 hS, sP_4908_2 hS, sP_4908_3 hS, sP_4908_4 hS, sP_4908_5 hS, sP_4908_8 hS, sP_4908_55 hS, sN_4944 hS, sN_4977 hS, sN_5008 hS, sN_5040 hS, sN_5072 hS, sN_5136 hS, sN_6064 hS, sN_6417 hS]
  exact q
end
