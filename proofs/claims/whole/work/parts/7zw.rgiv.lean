-- needs: 01 02.names 03 04 05 18 19 20 22 23 24 25 30 31 32 33 35 36 37 40 42 43 44 45 46 47 60 61 62 63 64 65 66 67 68 69 79f 79g 79h 79i 79j 79k 79l 79m 79n 79o 79p 79q 79r 79s 79t 79u 79v 79w 79x 79y 79z. 79za 79zb 79zc 79zd 79ze 79zf 79zg 79zh 79zi 79zj 79zk 79zl 79zm 79zn 79zo 79zp 79zq 79zr 79zs 79zt 79zu 79zv 7a 7b 7c 7d 7e 7f 7g 7zl 7zm 7zn 7zo 7h 7i 7j 7k 7l 7m 7n 7o 7p 7q 7r 7zj 7zk 7zp 7zq 7zr 7zs 7zt 7zu 79zw 7s 7t 7u 7v 7w 7x 7y 7z. 7za 7zb 7zc 7zd 7ze 7zf 7zg 7zh 7zi 7zv
/-! What a run is given, by the reference -/
/-- what lies at a place of those given as number t, its bytes on the tape of sz -/
def yEg (I : zI) (J : zJ) (t sz p f c : Nat) (x : Int64) (z : Nat) (y : Nat → Int32) : Prop := I 5872 (200 * t + p) = nI (zFo f) ∧ J 5905 (200 * t + p) = x ∧ I 5936 (200 * t + p) = nI (zCq f c) ∧ (f = 2 → ∃ q, I 5968 (200 * t + p) = nI q ∧ q + c ≤ sz ∧ ∀ i, i < c → I 3151 (q + i) = y i)
/-- more was given -/
def yGg (I : zI) (J : zJ) (I' : zI) (J' : zJ) (t gv gv' : Nat) : Prop := ((∀ c, c ≠ 3118 → c ≠ 5872 → c ≠ 5936 → c ≠ 5968 → I' c = I c) ∧ (∀ j, j ≠ 66 → I' 3118 j = I 3118 j) ∧ ∀ c, c ≠ 5905 → J' c = J c) ∧ (I' 3118 66 = nI gv' ∧ gv ≤ gv') ∧ ∀ i, i < 200 * t + gv ∨ 200 * t + 200 ≤ i → I' 5872 i = I 5872 i ∧ J' 5905 i = J 5905 i ∧ I' 5936 i = I 5936 i ∧ I' 5968 i = I 5968 i
/-- one node is given -/
def yGv (I : zI) (i gv : Nat) (fo ct : Int32) : zI := zu (zu (zu (zu I 5872 i fo) 5936 i ct) 5968 i 0) 3118 66 (nI (gv + 1))
section
variable {I I' I'' I0 : zI} {J J' J'' J0 : zJ} {P : zP} {N : Nat → Nat} {n z t sz gv gv' gv'' b : Nat} {Q : Option Value → zS → Prop}
theorem yGg_r (h : I 3118 66 = nI gv) : yGg I J I J t gv gv := ⟨⟨fun _ _ _ _ _ => rfl, fun _ _ => rfl, fun _ _ => rfl⟩, ⟨h, Nat.le_refl _⟩, fun _ _ => ⟨rfl, rfl, rfl, rfl⟩⟩
theorem yGg_t (h : yGg I J I' J' t gv gv') (h' : yGg I' J' I'' J'' t gv' gv'') : yGg I J I'' J'' t gv gv'' := by
  obtain ⟨⟨a1, a2, a3⟩, ⟨a4, a5⟩, a6⟩ := h
  obtain ⟨⟨b1, b2, b3⟩, ⟨b4, b5⟩, b6⟩ := h'
  refine ⟨⟨fun c x1 x2 x3 x4 => (b1 c x1 x2 x3 x4).trans (a1 c x1 x2 x3 x4), fun j x => (b2 j x).trans (a2 j x), fun c x => (b3 c x).trans (a3 c x)⟩, ⟨b4, by omega⟩, fun i hi => ?_⟩
  obtain ⟨c1, c2, c3, c4⟩ := a6 i hi
  obtain ⟨d1, d2, d3, d4⟩ := b6 i (by omega)
  exact ⟨d1.trans c1, d2.trans c2, d3.trans c3, d4.trans c4⟩
theorem yEg_g {p f c zz : Nat} {x : Int64} {y : Nat → Int32} (h : yGg I J I' J' t gv gv') (hp : p < gv) (he : yEg I J t sz p f c x zz y) : yEg I' J' t sz p f c x zz y := by
  obtain ⟨a1, a2, a3, a4⟩ := he
  obtain ⟨d1, d2, d3, d4⟩ := h.2.2 (200 * t + p) (by omega)
  refine ⟨d1.trans a1, d2.trans a2, d3.trans a3, fun hf => ?_⟩
  obtain ⟨q, q1, q2, q3⟩ := a4 hf
  exact ⟨q, d4.trans q1, q2, fun i hi => by rw [h.1.1 3151 (by decide) (by decide) (by decide) (by decide)]; exact q3 i hi⟩
theorem yEtg {d : yD} (h : yGg I J I' J' t gv gv') (hb : b + d.1 ≤ gv) (he : yEt (yEg I J t sz) b d) : yEt (yEg I' J' t sz) b d := yEt_m (fun p f c x zz y _ h2 => yEg_g h (by omega)) he
theorem yElg {ds : List yD} (h : yGg I J I' J' t gv gv') (hb : b + yll ds ≤ gv) (he : yEl (yEg I J t sz) b ds) : yEl (yEg I' J' t sz) b ds := yEl_m ds b (fun p f c x zz y _ h2 => yEg_g h (by omega)) he
theorem yGv_g {fo ct : Int32} {x : Int64} (hg : gv < 200) : yGg I J (yGv I (200 * t + gv) gv fo ct) (zu J 5905 (200 * t + gv) x) t gv (gv + 1) := by
  unfold yGv
  refine ⟨⟨fun c x1 x2 x3 x4 => ?_, fun j x => ?_, fun c x => zuR_ne x⟩, ⟨zu_at, Nat.le_succ _⟩, fun i hi => ⟨?_, ?_, ?_, ?_⟩⟩
  · simp only [zuR_ne x1, zuR_ne x2, zuR_ne x3, zuR_ne x4]
  · rw [zu_nj x, zuR_ne (by decide), zuR_ne (by decide), zuR_ne (by decide)]
  all_goals simp (disch := omega) only [zuR_ne, zu_nj]
theorem yGv_at {i : Nat} {fo ct : Int32} : yGv I i gv fo ct 5872 i = fo ∧ yGv I i gv fo ct 5936 i = ct ∧ yGv I i gv fo ct 5968 i = 0 ∧ yGv I i gv fo ct 3118 66 = nI (gv + 1) := by
  unfold yGv
  simp (disch := omega) only [zuR_ne, zu_nj, zu_at, and_self]
/-- an INTEGER is given -/
theorem yGv_i {x : Int64} : yEt (yEg (yGv I (200 * t + gv) gv 3 0) (zu J 5905 (200 * t + gv) x) t sz) gv (yint x) := by
  intro j hj
  have hj : j < 1 := hj
  obtain rfl : j = 0 := by omega
  obtain ⟨a1, a2, -, -⟩ := yGv_at (I := I) (i := 200 * t + gv) (gv := gv) (fo := 3) (ct := 0)
  exact ⟨a1, zu_at, a2, fun h => by cases h⟩
set_option maxRecDepth 20000 in
theorem m290 {tt fo ct : Int32} {x : Int64} (hS : zStat P N) (ht : tt = nI t) (ht3 : t < 3) (hg : gv < 200) (h66 : I 3118 66 = nI gv) (Q : Option Value → zS → Prop) : zC 290 [.ref 3118, .int tt, .int fo, .long x, .int ct] (I, J, P, N, n, z) Q = Q none (yGv I (200 * t + gv) gv fo ct, zu J 5905 (200 * t + gv) x, P, N, n, z) := by
  refine zC_eq (fun Q hQ => ?_) Q
  subst ht
  have e1 : (200 : Int32) * nI t = nI (200 * t) := wI_mul (i := 200)
  unfold yGv at hQ
  simp (decide := true) (disch := omega) only [h66, e1, zuR_ne, zi290, zt290, zo290_0, zy_ldI, zy_ldL, zy_ldA, zy_stI, zy_stL, zy_stA, zy_cI, zy_cL, zy_nul, zy_inc, zy_bI, zy_bL, zy_sL, zy_un, zy_cmp, zy_dup, zy_dup2, zy_pop, zy_pop2, zy_jn, zy_jnn, zy_go, zy_fal, zy_tsw, zy_lsw, zy_get, zy_put, zy_ald, zy_ast, zy_len, zy_newa, zy_new, zy_cal, zy_ret, zy_tak, zy_cst, zy_acp, zy_oini, zy_cln, zy_thr, zy_bad, zy_lco, zy_if0, zy_ic0, zy_if1, zy_ic1, zy_if2, zy_ic2, zy_if3, zy_ic3, zy_if4, zy_ic4, zy_if5, zy_ic5, zK_go, zK_to, zK_end, zK_callH, zK_iteC, zK_none, zsLd, zsSt, zsInc, zsBI, zsBL, zsSL, zsUn, zsCmp, zsDup, zsDup2, zsPop, zsPop2, zsJn, zsTsw, zsLsw, zsGet, zsPut, zsAld, zsAst, zsLen, zsNewa, zsCal, zsRet, zsCst, zsAcp, zsOini, zsCln, zsLco, zsThr, zxBI, zxBL, zxSL, zxU, zset1, zset2, zclr, zcat, zmake_mk, zcomp, zH_i, zH_l, zH_r, zH_u, zH_n, List.set_cons_zero, List.set_cons_succ, List.getElem?_cons_zero, List.getElem?_cons_succ, List.length_cons, List.length_nil, List.take_succ_cons, List.take_zero, List.drop_succ_cons, List.drop_zero, List.reverse_cons, List.reverse_nil, List.nil_append, List.cons_append, List.map_cons, List.map_nil, List.sum_cons, List.sum_nil, Option.toList_some, Option.toList_none, Value.category, Nat.reduceAdd, Nat.reduceMul, Nat.reduceMod, Nat.reduceDiv, Nat.reduceSub, Nat.reduceLT, Nat.reduceLeDiff, Nat.reduceEqDiff, Nat.zero_le, Nat.le_refl, Int32.reduceToNatClampNeg, Int32.reduceLT, Int32.reduceLE, Int32.reduceAdd, Int32.reduceSub, Int32.reduceMul, ↓reduceIte, reduceCtorEq, Nat.add_zero, Nat.zero_add, true_or, or_true, false_or, or_false, true_and, and_true, false_and, and_false, not_true_eq_false, not_false_eq_true, if_true, if_false, true_implies, false_implies, implies_true, forall_const, false_imp_iff, true_imp_iff, va_rf, zlay, zent, List.replicate_zero, List.append_nil, List.replicate_succ, List.length_append, ne_eq, Option.some.injEq, Value.int.injEq, Value.long.injEq, Int32.reduceOfNat, Int32.reduceToInt, Int.reduceLT, Int.reduceLE, Int.reduceSub, Int.reduceToNat, Int.reduceAdd, Int.reduceNeg, Int32.reduceDiv, Int64.reduceAdd, Int64.reduceSub, lg_cmp_ge, lg_cmp_le, lg_cmp_gt, lg_cmp_lt, lg_cmp_eq, wlt_t, wlt_f, wle_t, wle_f, wmod, wI_lt, wI_le, wI_eq, wI_neg, wI_pos, wI_cl, wI_ge, wI_po, w64_lt, w64_le, w64_eq, w64_lt0, w64_le0, w64_eq0, w64_32, zc317, zc319, wI_add, wI_a1, wI_s1, wI_e0, wI_m8, wI_m128, wI_m64, wI_m190, not_true_eq_false, not_false_eq_true, sP_3118_62 hS, sP_4908_39 hS, sP_4908_40 hS, sP_4908_41 hS, sP_4908_42 hS, sN_5872 hS, sN_5905 hS, sN_5936 hS, sN_5968 hS, sN_6417 hS]
  exact hQ
theorem m290z {tt fo ct fo' ct' : Int32} {x : Int64} {i : Nat} (hS : zStat P N) (ht : tt = nI t) (ht3 : t < 3) (hg : gv + 1 < 200) (Q : Option Value → zS → Prop) : zC 290 [.ref 3118, .int tt, .int fo, .long x, .int ct] (yGv I i gv fo' ct', J, P, N, n, z) Q = Q none (yGv (yGv I i gv fo' ct') (200 * t + (gv + 1)) (gv + 1) fo ct, zu J 5905 (200 * t + (gv + 1)) x, P, N, n, z) := m290 hS ht ht3 hg yGv_at.2.2.2 Q
variable {m K s : Nat} {F C Z X H L : Nat → Nat} {T : Nat → Int64} {Y : Nat → Nat → Int32}
set_option maxRecDepth 20000 in
set_option maxHeartbeats 2000000 in
theorem l291 {k : Nat} {tt : Int32} {u4 : Option Value} (hS : zStat P N) (ht : tt = nI t) (ht3 : t < 3) (hv : zMv I0 J0 F T C Z H X K) (hK : K ≤ 200) (hz : 1 ≤ Z k) (hk : k + Z k ≤ K) (hg : gv + Z k ≤ 200) (hX : ∀ j, j < K → F j = 2 → X j + C j ≤ sz ∧ ∀ i, i < C j → I0 3151 (X j + i) = Y j i)
    (hQ : ∀ I' J', yGg I0 J0 I' J' t gv (gv + Z k) → yEt (yEg I' J' t sz) gv (ysub k (K, F, C, T, Z, L, Y)) → Q none (I', J', P, N, n, z)) :
    ∀ r i (I : zI) (J : zJ) u4, i + r = Z k → yGg I0 J0 I J t gv (gv + i) → (∀ j, j < i → yEg I J t sz (gv + j) (F (k + j)) (C (k + j)) (T (k + j)) (Z (k + j)) (Y (k + j))) → zQ zt291 zo291_1 [some (.ref 3118), some (.int tt), some (.int (nI k)), some (.int (nI (k + i))), u4] [] (I, J, P, N, n, z) Q := by
  subst ht
  intro r
  induction r with
  | zero =>
    intro i I J u4 hi g he
    obtain rfl : i = Z k := by omega
    have q := hQ I J g he
    have v0 : I 3888 k = nI (Z k) := by rw [g.1.1 3888 (by decide) (by decide) (by decide) (by decide)]; exact (hv k (by omega)).2.2.2.1
    have t1 : (nI (k + Z k) ≤ nI (k + Z k)) = True := eq_true (Int32.le_refl _)
    rw [zo291_1]
    simp (decide := true) (disch := omega) only [v0, t1, zi291, zt291, zo291_0, zo291_2, zy_ldI, zy_ldL, zy_ldA, zy_stI, zy_stL, zy_stA, zy_cI, zy_cL, zy_nul, zy_inc, zy_bI, zy_bL, zy_sL, zy_un, zy_cmp, zy_dup, zy_dup2, zy_pop, zy_pop2, zy_jn, zy_jnn, zy_go, zy_fal, zy_tsw, zy_lsw, zy_get, zy_put, zy_ald, zy_ast, zy_len, zy_newa, zy_new, zy_cal, zy_ret, zy_tak, zy_cst, zy_acp, zy_oini, zy_cln, zy_thr, zy_bad, zy_lco, zy_if0, zy_ic0, zy_if1, zy_ic1, zy_if2, zy_ic2, zy_if3, zy_ic3, zy_if4, zy_ic4, zy_if5, zy_ic5, zK_go, zK_to, zK_end, zK_callH, zK_iteC, zK_none, zsLd, zsSt, zsInc, zsBI, zsBL, zsSL, zsUn, zsCmp, zsDup, zsDup2, zsPop, zsPop2, zsJn, zsTsw, zsLsw, zsGet, zsPut, zsAld, zsAst, zsLen, zsNewa, zsCal, zsRet, zsCst, zsAcp, zsOini, zsCln, zsLco, zsThr, zxBI, zxBL, zxSL, zxU, zset1, zset2, zclr, zcat, zmake_mk, zcomp, zH_i, zH_l, zH_r, zH_u, zH_n, List.set_cons_zero, List.set_cons_succ, List.getElem?_cons_zero, List.getElem?_cons_succ, List.length_cons, List.length_nil, List.take_succ_cons, List.take_zero, List.drop_succ_cons, List.drop_zero, List.reverse_cons, List.reverse_nil, List.nil_append, List.cons_append, List.map_cons, List.map_nil, List.sum_cons, List.sum_nil, Option.toList_some, Option.toList_none, Value.category, Nat.reduceAdd, Nat.reduceMul, Nat.reduceMod, Nat.reduceDiv, Nat.reduceSub, Nat.reduceLT, Nat.reduceLeDiff, Nat.reduceEqDiff, Nat.zero_le, Nat.le_refl, Int32.reduceToNatClampNeg, Int32.reduceLT, Int32.reduceLE, Int32.reduceAdd, Int32.reduceSub, Int32.reduceMul, ↓reduceIte, reduceCtorEq, Nat.add_zero, Nat.zero_add, true_or, or_true, false_or, or_false, true_and, and_true, false_and, and_false, not_true_eq_false, not_false_eq_true, if_true, if_false, true_implies, false_implies, implies_true, forall_const, false_imp_iff, true_imp_iff, va_rf, zlay, zent, List.replicate_zero, List.append_nil, List.replicate_succ, List.length_append, ne_eq, Option.some.injEq, Value.int.injEq, Value.long.injEq, Int32.reduceOfNat, Int32.reduceToInt, Int.reduceLT, Int.reduceLE, Int.reduceSub, Int.reduceToNat, Int.reduceAdd, Int.reduceNeg, Int32.reduceDiv, Int64.reduceAdd, Int64.reduceSub, lg_cmp_ge, lg_cmp_le, lg_cmp_gt, lg_cmp_lt, lg_cmp_eq, wlt_t, wlt_f, wle_t, wle_f, wmod, wI_lt, wI_le, wI_eq, wI_neg, wI_pos, wI_cl, wI_ge, wI_po, w64_lt, w64_le, w64_eq, w64_lt0, w64_le0, w64_eq0, w64_32, zc317, zc319, wI_add, wI_a1, wI_s1, wI_e0, wI_m8, wI_m128, wI_m64, wI_m190, not_true_eq_false, not_false_eq_true, sP_3118_39 hS, sP_3118_40 hS, sP_3118_41 hS, sP_3118_42 hS, sP_3118_44 hS, sP_3118_62 hS, sP_4908_42 hS, sN_3792 hS, sN_3825 hS, sN_3856 hS, sN_3888 hS, sN_3952 hS, sN_5968 hS, sN_6417 hS]
    exact q
  | succ r ih =>
    intro i I J u4 hi g he
    have fr := g.1.1
    have v0 : I 3888 k = nI (Z k) := by rw [fr 3888 (by decide) (by decide) (by decide) (by decide)]; exact (hv k (by omega)).2.2.2.1
    obtain ⟨a1, a2, a3, a4, a5, a6⟩ := hv (k + i) (by omega)
    have b1 : I 3792 (k + i) = nI (zFo (F (k + i))) := by rw [fr 3792 (by decide) (by decide) (by decide) (by decide)]; exact a1
    have b2 : J 3825 (k + i) = T (k + i) := by rw [g.1.2.2 3825 (by decide)]; exact a2
    have b3 : I 3856 (k + i) = nI (zCq (F (k + i)) (C (k + i))) := by rw [fr 3856 (by decide) (by decide) (by decide) (by decide)]; exact a3
    obtain ⟨tx, etx⟩ : ∃ tx, I 3952 (k + i) = tx := ⟨_, rfl⟩
    have p290 := fun (Q : Option Value → zS → Prop) => m290 (I := I) (J := J) (n := n) (z := z) (t := t) (gv := gv + i) (tt := nI t) (fo := nI (zFo (F (k + i)))) (ct := nI (zCq (F (k + i)) (C (k + i)))) (x := T (k + i)) hS rfl ht3 (by omega) g.2.1.1 Q
    have g1 := yGv_g (I := I) (J := J) (t := t) (gv := gv + i) (fo := nI (zFo (F (k + i)))) (ct := nI (zCq (F (k + i)) (C (k + i)))) (x := T (k + i)) (by omega)
    have o1 := yGv_at (I := I) (i := 200 * t + (gv + i)) (gv := gv + i) (fo := nI (zFo (F (k + i)))) (ct := nI (zCq (F (k + i)) (C (k + i))))
    obtain ⟨I1, hI1⟩ : ∃ I1, I1 = yGv I (200 * t + (gv + i)) (gv + i) (nI (zFo (F (k + i)))) (nI (zCq (F (k + i)) (C (k + i)))) := ⟨_, rfl⟩
    obtain ⟨J1, hJ1⟩ : ∃ J1, J1 = zu J 5905 (200 * t + (gv + i)) (T (k + i)) := ⟨_, rfl⟩
    have oj : J1 5905 (200 * t + (gv + i)) = T (k + i) := by rw [hJ1, zu_at]
    rw [← hI1] at o1
    rw [← hI1, ← hJ1] at p290 g1
    have etx1 : I1 3952 (k + i) = tx := by rw [g1.1.1 3952 (by decide) (by decide) (by decide) (by decide), etx]
    have gn : yGg I J (zu I1 5968 (200 * t + (gv + i)) tx) J1 t (gv + i) (gv + i + 1) := by
      obtain ⟨⟨c1, c2, c3⟩, ⟨c4, c5⟩, c6⟩ := g1
      refine ⟨⟨fun c x1 x2 x3 x4 => by rw [zuR_ne x4, c1 c x1 x2 x3 x4], fun j hj => by rw [zuR_ne (by decide), c2 j hj], c3⟩, ⟨by rw [zuR_ne (by decide), c4], c5⟩, fun j hj => ?_⟩
      obtain ⟨d1, d2, d3, d4⟩ := c6 j hj
      rw [zuR_ne (by decide), zuR_ne (by decide), zu_nj (by omega)]
      exact ⟨d1, d2, d3, d4⟩
    have q := ih (i + 1) (zu I1 5968 (200 * t + (gv + i)) tx) J1 (some (.int (nI (200 * t + (gv + i))))) (by omega) (by have := yGg_t g gn; rw [show gv + i + 1 = gv + (i + 1) by omega] at this; exact this) (fun j hj => by
      by_cases hji : j = i
      · subst hji
        refine ⟨by rw [zuR_ne (by decide)]; exact o1.1, oj, by rw [zuR_ne (by decide)]; exact o1.2.1, fun h2 => ⟨X (k + j), ?_, (hX (k + j) (by omega) h2).1, fun i' hi' => ?_⟩⟩
        · rw [zu_at, ← etx, fr 3952 (by decide) (by decide) (by decide) (by decide)]; exact a6 h2
        · rw [zuR_ne (by decide), g1.1.1 3151 (by decide) (by decide) (by decide) (by decide), fr 3151 (by decide) (by decide) (by decide) (by decide)]
          exact (hX (k + j) (by omega) h2).2 i' hi'
      · exact yEg_g gn (by omega) (he j (by omega)))
    rw [show k + (i + 1) = k + i + 1 by omega] at q
    have e1 : (200 : Int32) * nI t = nI (200 * t) := wI_mul (i := 200)
    have e2 : nI (200 * t) + nI (gv + i) = nI (200 * t + (gv + i)) := wI_add
    have h66 := g.2.1.1
    rw [zo291_1]
    simp (decide := true) (disch := omega) only [v0, e1, h66, e2, b1, b2, b3, p290, etx1, zi291, zt291, zo291_0, zo291_2, zy_ldI, zy_ldL, zy_ldA, zy_stI, zy_stL, zy_stA, zy_cI, zy_cL, zy_nul, zy_inc, zy_bI, zy_bL, zy_sL, zy_un, zy_cmp, zy_dup, zy_dup2, zy_pop, zy_pop2, zy_jn, zy_jnn, zy_go, zy_fal, zy_tsw, zy_lsw, zy_get, zy_put, zy_ald, zy_ast, zy_len, zy_newa, zy_new, zy_cal, zy_ret, zy_tak, zy_cst, zy_acp, zy_oini, zy_cln, zy_thr, zy_bad, zy_lco, zy_if0, zy_ic0, zy_if1, zy_ic1, zy_if2, zy_ic2, zy_if3, zy_ic3, zy_if4, zy_ic4, zy_if5, zy_ic5, zK_go, zK_to, zK_end, zK_callH, zK_iteC, zK_none, zsLd, zsSt, zsInc, zsBI, zsBL, zsSL, zsUn, zsCmp, zsDup, zsDup2, zsPop, zsPop2, zsJn, zsTsw, zsLsw, zsGet, zsPut, zsAld, zsAst, zsLen, zsNewa, zsCal, zsRet, zsCst, zsAcp, zsOini, zsCln, zsLco, zsThr, zxBI, zxBL, zxSL, zxU, zset1, zset2, zclr, zcat, zmake_mk, zcomp, zH_i, zH_l, zH_r, zH_u, zH_n, List.set_cons_zero, List.set_cons_succ, List.getElem?_cons_zero, List.getElem?_cons_succ, List.length_cons, List.length_nil, List.take_succ_cons, List.take_zero, List.drop_succ_cons, List.drop_zero, List.reverse_cons, List.reverse_nil, List.nil_append, List.cons_append, List.map_cons, List.map_nil, List.sum_cons, List.sum_nil, Option.toList_some, Option.toList_none, Value.category, Nat.reduceAdd, Nat.reduceMul, Nat.reduceMod, Nat.reduceDiv, Nat.reduceSub, Nat.reduceLT, Nat.reduceLeDiff, Nat.reduceEqDiff, Nat.zero_le, Nat.le_refl, Int32.reduceToNatClampNeg, Int32.reduceLT, Int32.reduceLE, Int32.reduceAdd, Int32.reduceSub, Int32.reduceMul, ↓reduceIte, reduceCtorEq, Nat.add_zero, Nat.zero_add, true_or, or_true, false_or, or_false, true_and, and_true, false_and, and_false, not_true_eq_false, not_false_eq_true, if_true, if_false, true_implies, false_implies, implies_true, forall_const, false_imp_iff, true_imp_iff, va_rf, zlay, zent, List.replicate_zero, List.append_nil, List.replicate_succ, List.length_append, ne_eq, Option.some.injEq, Value.int.injEq, Value.long.injEq, Int32.reduceOfNat, Int32.reduceToInt, Int.reduceLT, Int.reduceLE, Int.reduceSub, Int.reduceToNat, Int.reduceAdd, Int.reduceNeg, Int32.reduceDiv, Int64.reduceAdd, Int64.reduceSub, lg_cmp_ge, lg_cmp_le, lg_cmp_gt, lg_cmp_lt, lg_cmp_eq, wlt_t, wlt_f, wle_t, wle_f, wmod, wI_lt, wI_le, wI_eq, wI_neg, wI_pos, wI_cl, wI_ge, wI_po, w64_lt, w64_le, w64_eq, w64_lt0, w64_le0, w64_eq0, w64_32, zc317, zc319, wI_add, wI_a1, wI_s1, wI_e0, wI_m8, wI_m128, wI_m64, wI_m190, not_true_eq_false, not_false_eq_true, sP_3118_39 hS, sP_3118_40 hS, sP_3118_41 hS, sP_3118_42 hS, sP_3118_44 hS, sP_3118_62 hS, sP_4908_42 hS, sN_3792 hS, sN_3825 hS, sN_3856 hS, sN_3888 hS, sN_3952 hS, sN_5968 hS, sN_6417 hS]
    exact q
/-- what is given behind what was given -/
def yGp (I : zI) (J : zJ) (P : zP) (N : Nat → Nat) (n z t sz gv : Nat) (ds : List yD) (Q : Option Value → zS → Prop) : Prop := ∀ I' J', yGg I J I' J' t gv (gv + yll ds) → yEl (yEg I' J' t sz) gv ds → Q none (I', J', P, N, n, z)
set_option maxRecDepth 20000 in
theorem e291 {k : Nat} {tt : Int32} (hS : zStat P N) (ht : tt = nI t) (ht3 : t < 3) (hv : zMv I J F T C Z H X K) (hK : K ≤ 200) (hz : 1 ≤ Z k) (hk : k + Z k ≤ K) (hg : gv + Z k ≤ 200) (h66 : I 3118 66 = nI gv) (hX : ∀ j, j < K → F j = 2 → X j + C j ≤ sz ∧ ∀ i, i < C j → I 3151 (X j + i) = Y j i) (hQ : yGp I J P N n z t sz gv [ysub k (K, F, C, T, Z, L, Y)] Q) : zC 291 [.ref 3118, .int tt, .int (nI k)] (I, J, P, N, n, z) Q := by
  have q := l291 (I0 := I) (J0 := J) (n := n) (z := z) (Q := Q) (L := L) (u4 := none) hS ht ht3 hv hK hz hk hg hX (fun I' J' g e => hQ I' J' g ⟨e, trivial⟩) (Z k) 0 I J none (by omega) (yGg_r h66) (fun j hj => by omega)
  simp (decide := true) (disch := omega) only [zi291, zt291, zo291_0, zo291_2, zy_ldI, zy_ldL, zy_ldA, zy_stI, zy_stL, zy_stA, zy_cI, zy_cL, zy_nul, zy_inc, zy_bI, zy_bL, zy_sL, zy_un, zy_cmp, zy_dup, zy_dup2, zy_pop, zy_pop2, zy_jn, zy_jnn, zy_go, zy_fal, zy_tsw, zy_lsw, zy_get, zy_put, zy_ald, zy_ast, zy_len, zy_newa, zy_new, zy_cal, zy_ret, zy_tak, zy_cst, zy_acp, zy_oini, zy_cln, zy_thr, zy_bad, zy_lco, zy_if0, zy_ic0, zy_if1, zy_ic1, zy_if2, zy_ic2, zy_if3, zy_ic3, zy_if4, zy_ic4, zy_if5, zy_ic5, zK_go, zK_to, zK_end, zK_callH, zK_iteC, zK_none, zsLd, zsSt, zsInc, zsBI, zsBL, zsSL, zsUn, zsCmp, zsDup, zsDup2, zsPop, zsPop2, zsJn, zsTsw, zsLsw, zsGet, zsPut, zsAld, zsAst, zsLen, zsNewa, zsCal, zsRet, zsCst, zsAcp, zsOini, zsCln, zsLco, zsThr, zxBI, zxBL, zxSL, zxU, zset1, zset2, zclr, zcat, zmake_mk, zcomp, zH_i, zH_l, zH_r, zH_u, zH_n, List.set_cons_zero, List.set_cons_succ, List.getElem?_cons_zero, List.getElem?_cons_succ, List.length_cons, List.length_nil, List.take_succ_cons, List.take_zero, List.drop_succ_cons, List.drop_zero, List.reverse_cons, List.reverse_nil, List.nil_append, List.cons_append, List.map_cons, List.map_nil, List.sum_cons, List.sum_nil, Option.toList_some, Option.toList_none, Value.category, Nat.reduceAdd, Nat.reduceMul, Nat.reduceMod, Nat.reduceDiv, Nat.reduceSub, Nat.reduceLT, Nat.reduceLeDiff, Nat.reduceEqDiff, Nat.zero_le, Nat.le_refl, Int32.reduceToNatClampNeg, Int32.reduceLT, Int32.reduceLE, Int32.reduceAdd, Int32.reduceSub, Int32.reduceMul, ↓reduceIte, reduceCtorEq, Nat.add_zero, Nat.zero_add, true_or, or_true, false_or, or_false, true_and, and_true, false_and, and_false, not_true_eq_false, not_false_eq_true, if_true, if_false, true_implies, false_implies, implies_true, forall_const, false_imp_iff, true_imp_iff, va_rf, zlay, zent, List.replicate_zero, List.append_nil, List.replicate_succ, List.length_append, ne_eq, Option.some.injEq, Value.int.injEq, Value.long.injEq, Int32.reduceOfNat, Int32.reduceToInt, Int.reduceLT, Int.reduceLE, Int.reduceSub, Int.reduceToNat, Int.reduceAdd, Int.reduceNeg, Int32.reduceDiv, Int64.reduceAdd, Int64.reduceSub, lg_cmp_ge, lg_cmp_le, lg_cmp_gt, lg_cmp_lt, lg_cmp_eq, wlt_t, wlt_f, wle_t, wle_f, wmod, wI_lt, wI_le, wI_eq, wI_neg, wI_pos, wI_cl, wI_ge, wI_po, w64_lt, w64_le, w64_eq, w64_lt0, w64_le0, w64_eq0, w64_32, zc317, zc319, wI_add, wI_a1, wI_s1, wI_e0, wI_m8, wI_m128, wI_m64, wI_m190, not_true_eq_false, not_false_eq_true, sP_3118_39 hS, sP_3118_40 hS, sP_3118_41 hS, sP_3118_42 hS, sP_3118_44 hS, sP_3118_62 hS, sP_4908_42 hS, sN_3792 hS, sN_3825 hS, sN_3856 hS, sN_3888 hS, sN_3952 hS, sN_5968 hS, sN_6417 hS]
  exact q
/-- the tape is given, too -/
def yGx (I : zI) (I' : zI) (t sz : Nat) : Prop := (∀ c, c ≠ 5999 → I' c = I c) ∧ (∀ k, k < sz → I' 5999 (4096 * t + k) = I 3151 k) ∧ ∀ k, k < 4096 * t ∨ 4096 * t + 4096 ≤ k → I' 5999 k = I 5999 k
set_option maxRecDepth 20000 in
theorem e292 {tt : Int32} (hS : zStat P N) (ht : tt = nI t) (ht3 : t < 3) (h2 : I 3118 2 = nI sz) (hs : sz ≤ 4096) (hb : ∀ k, k < sz → (I 3151 k).toInt8.toInt32 = I 3151 k) (hQ : ∀ I', yGx I I' t sz → Q none (I', J, P, N, n, z)) : zC 292 [.ref 3118, .int tt] (I, J, P, N, n, z) Q := by
  subst ht
  have e1 : (4096 : Int32) * nI t = nI (4096 * t) := wI_mul (i := 4096)
  have li : ∀ r k (I' : zI), k + r = sz → (∀ c, c ≠ 5999 → I' c = I c) → (∀ j, j < k → I' 5999 (4096 * t + j) = I 3151 j) → (∀ j, j < 4096 * t ∨ 4096 * t + 4096 ≤ j → I' 5999 j = I 5999 j) → zQ zt292 zo292_1 [some (.ref 3118), some (.int (nI t)), some (.int (nI k))] [] (I', J, P, N, n, z) Q := by
    intro r
    induction r with
    | zero =>
      intro k I' hk a b c
      obtain rfl : k = sz := by omega
      have q := hQ I' ⟨a, b, c⟩
      have v2 : I' 3118 2 = nI k := by rw [a 3118 (by decide)]; exact h2
      have t1 : (nI k ≤ nI k) = True := eq_true (Int32.le_refl _)
      rw [zo292_1]
      simp (decide := true) (disch := omega) only [v2, t1, zi292, zt292, zo292_0, zo292_2, zy_ldI, zy_ldL, zy_ldA, zy_stI, zy_stL, zy_stA, zy_cI, zy_cL, zy_nul, zy_inc, zy_bI, zy_bL, zy_sL, zy_un, zy_cmp, zy_dup, zy_dup2, zy_pop, zy_pop2, zy_jn, zy_jnn, zy_go, zy_fal, zy_tsw, zy_lsw, zy_get, zy_put, zy_ald, zy_ast, zy_len, zy_newa, zy_new, zy_cal, zy_ret, zy_tak, zy_cst, zy_acp, zy_oini, zy_cln, zy_thr, zy_bad, zy_lco, zy_if0, zy_ic0, zy_if1, zy_ic1, zy_if2, zy_ic2, zy_if3, zy_ic3, zy_if4, zy_ic4, zy_if5, zy_ic5, zK_go, zK_to, zK_end, zK_callH, zK_iteC, zK_none, zsLd, zsSt, zsInc, zsBI, zsBL, zsSL, zsUn, zsCmp, zsDup, zsDup2, zsPop, zsPop2, zsJn, zsTsw, zsLsw, zsGet, zsPut, zsAld, zsAst, zsLen, zsNewa, zsCal, zsRet, zsCst, zsAcp, zsOini, zsCln, zsLco, zsThr, zxBI, zxBL, zxSL, zxU, zset1, zset2, zclr, zcat, zmake_mk, zcomp, zH_i, zH_l, zH_r, zH_u, zH_n, List.set_cons_zero, List.set_cons_succ, List.getElem?_cons_zero, List.getElem?_cons_succ, List.length_cons, List.length_nil, List.take_succ_cons, List.take_zero, List.drop_succ_cons, List.drop_zero, List.reverse_cons, List.reverse_nil, List.nil_append, List.cons_append, List.map_cons, List.map_nil, List.sum_cons, List.sum_nil, Option.toList_some, Option.toList_none, Value.category, Nat.reduceAdd, Nat.reduceMul, Nat.reduceMod, Nat.reduceDiv, Nat.reduceSub, Nat.reduceLT, Nat.reduceLeDiff, Nat.reduceEqDiff, Nat.zero_le, Nat.le_refl, Int32.reduceToNatClampNeg, Int32.reduceLT, Int32.reduceLE, Int32.reduceAdd, Int32.reduceSub, Int32.reduceMul, ↓reduceIte, reduceCtorEq, Nat.add_zero, Nat.zero_add, true_or, or_true, false_or, or_false, true_and, and_true, false_and, and_false, not_true_eq_false, not_false_eq_true, if_true, if_false, true_implies, false_implies, implies_true, forall_const, false_imp_iff, true_imp_iff, va_rf, zlay, zent, List.replicate_zero, List.append_nil, List.replicate_succ, List.length_append, ne_eq, Option.some.injEq, Value.int.injEq, Value.long.injEq, Int32.reduceOfNat, Int32.reduceToInt, Int.reduceLT, Int.reduceLE, Int.reduceSub, Int.reduceToNat, Int.reduceAdd, Int.reduceNeg, Int32.reduceDiv, Int64.reduceAdd, Int64.reduceSub, lg_cmp_ge, lg_cmp_le, lg_cmp_gt, lg_cmp_lt, lg_cmp_eq, wlt_t, wlt_f, wle_t, wle_f, wmod, wI_lt, wI_le, wI_eq, wI_neg, wI_pos, wI_cl, wI_ge, wI_po, w64_lt, w64_le, w64_eq, w64_lt0, w64_le0, w64_eq0, w64_32, zc317, zc319, wI_add, wI_a1, wI_s1, wI_e0, wI_m8, wI_m128, wI_m64, wI_m190, not_true_eq_false, not_false_eq_true, sP_3118_1 hS, sP_3118_62 hS, sP_4908_43 hS, sN_3151 hS, sN_5999 hS, sN_6417 hS]
      exact q
    | succ r ih =>
      intro k I' hk a b c
      have v2 : I' 3118 2 = nI sz := by rw [a 3118 (by decide)]; exact h2
      have v3 : (I' 3151 k).toInt8.toInt32 = I 3151 k := by rw [a 3151 (by decide)]; exact hb k (by omega)
      have q := ih (k + 1) (zu I' 5999 (4096 * t + k) (I 3151 k)) (by omega) (fun c hc => by rw [zuR_ne hc, a c hc]) (fun j hj => by
        by_cases hjk : j = k
        · rw [hjk, zu_at]
        · rw [zu_nj (by omega), b j (by omega)]) (fun j hj => by rw [zu_nj (by omega), c j hj])
      rw [zo292_1]
      simp (decide := true) (disch := omega) only [v2, e1, v3, zi292, zt292, zo292_0, zo292_2, zy_ldI, zy_ldL, zy_ldA, zy_stI, zy_stL, zy_stA, zy_cI, zy_cL, zy_nul, zy_inc, zy_bI, zy_bL, zy_sL, zy_un, zy_cmp, zy_dup, zy_dup2, zy_pop, zy_pop2, zy_jn, zy_jnn, zy_go, zy_fal, zy_tsw, zy_lsw, zy_get, zy_put, zy_ald, zy_ast, zy_len, zy_newa, zy_new, zy_cal, zy_ret, zy_tak, zy_cst, zy_acp, zy_oini, zy_cln, zy_thr, zy_bad, zy_lco, zy_if0, zy_ic0, zy_if1, zy_ic1, zy_if2, zy_ic2, zy_if3, zy_ic3, zy_if4, zy_ic4, zy_if5, zy_ic5, zK_go, zK_to, zK_end, zK_callH, zK_iteC, zK_none, zsLd, zsSt, zsInc, zsBI, zsBL, zsSL, zsUn, zsCmp, zsDup, zsDup2, zsPop, zsPop2, zsJn, zsTsw, zsLsw, zsGet, zsPut, zsAld, zsAst, zsLen, zsNewa, zsCal, zsRet, zsCst, zsAcp, zsOini, zsCln, zsLco, zsThr, zxBI, zxBL, zxSL, zxU, zset1, zset2, zclr, zcat, zmake_mk, zcomp, zH_i, zH_l, zH_r, zH_u, zH_n, List.set_cons_zero, List.set_cons_succ, List.getElem?_cons_zero, List.getElem?_cons_succ, List.length_cons, List.length_nil, List.take_succ_cons, List.take_zero, List.drop_succ_cons, List.drop_zero, List.reverse_cons, List.reverse_nil, List.nil_append, List.cons_append, List.map_cons, List.map_nil, List.sum_cons, List.sum_nil, Option.toList_some, Option.toList_none, Value.category, Nat.reduceAdd, Nat.reduceMul, Nat.reduceMod, Nat.reduceDiv, Nat.reduceSub, Nat.reduceLT, Nat.reduceLeDiff, Nat.reduceEqDiff, Nat.zero_le, Nat.le_refl, Int32.reduceToNatClampNeg, Int32.reduceLT, Int32.reduceLE, Int32.reduceAdd, Int32.reduceSub, Int32.reduceMul, ↓reduceIte, reduceCtorEq, Nat.add_zero, Nat.zero_add, true_or, or_true, false_or, or_false, true_and, and_true, false_and, and_false, not_true_eq_false, not_false_eq_true, if_true, if_false, true_implies, false_implies, implies_true, forall_const, false_imp_iff, true_imp_iff, va_rf, zlay, zent, List.replicate_zero, List.append_nil, List.replicate_succ, List.length_append, ne_eq, Option.some.injEq, Value.int.injEq, Value.long.injEq, Int32.reduceOfNat, Int32.reduceToInt, Int.reduceLT, Int.reduceLE, Int.reduceSub, Int.reduceToNat, Int.reduceAdd, Int.reduceNeg, Int32.reduceDiv, Int64.reduceAdd, Int64.reduceSub, lg_cmp_ge, lg_cmp_le, lg_cmp_gt, lg_cmp_lt, lg_cmp_eq, wlt_t, wlt_f, wle_t, wle_f, wmod, wI_lt, wI_le, wI_eq, wI_neg, wI_pos, wI_cl, wI_ge, wI_po, w64_lt, w64_le, w64_eq, w64_lt0, w64_le0, w64_eq0, w64_32, zc317, zc319, wI_add, wI_a1, wI_s1, wI_e0, wI_m8, wI_m128, wI_m64, wI_m190, not_true_eq_false, not_false_eq_true, sP_3118_1 hS, sP_3118_62 hS, sP_4908_43 hS, sN_3151 hS, sN_5999 hS, sN_6417 hS]
      exact q
  have q := li sz 0 I (by omega) (fun _ _ => rfl) (fun j hj => by omega) (fun _ _ => rfl)
  have e0 : nI 0 = 0 := rfl
  rw [e0] at q
  simp (decide := true) (disch := omega) only [zi292, zt292, zo292_0, zo292_2, zy_ldI, zy_ldL, zy_ldA, zy_stI, zy_stL, zy_stA, zy_cI, zy_cL, zy_nul, zy_inc, zy_bI, zy_bL, zy_sL, zy_un, zy_cmp, zy_dup, zy_dup2, zy_pop, zy_pop2, zy_jn, zy_jnn, zy_go, zy_fal, zy_tsw, zy_lsw, zy_get, zy_put, zy_ald, zy_ast, zy_len, zy_newa, zy_new, zy_cal, zy_ret, zy_tak, zy_cst, zy_acp, zy_oini, zy_cln, zy_thr, zy_bad, zy_lco, zy_if0, zy_ic0, zy_if1, zy_ic1, zy_if2, zy_ic2, zy_if3, zy_ic3, zy_if4, zy_ic4, zy_if5, zy_ic5, zK_go, zK_to, zK_end, zK_callH, zK_iteC, zK_none, zsLd, zsSt, zsInc, zsBI, zsBL, zsSL, zsUn, zsCmp, zsDup, zsDup2, zsPop, zsPop2, zsJn, zsTsw, zsLsw, zsGet, zsPut, zsAld, zsAst, zsLen, zsNewa, zsCal, zsRet, zsCst, zsAcp, zsOini, zsCln, zsLco, zsThr, zxBI, zxBL, zxSL, zxU, zset1, zset2, zclr, zcat, zmake_mk, zcomp, zH_i, zH_l, zH_r, zH_u, zH_n, List.set_cons_zero, List.set_cons_succ, List.getElem?_cons_zero, List.getElem?_cons_succ, List.length_cons, List.length_nil, List.take_succ_cons, List.take_zero, List.drop_succ_cons, List.drop_zero, List.reverse_cons, List.reverse_nil, List.nil_append, List.cons_append, List.map_cons, List.map_nil, List.sum_cons, List.sum_nil, Option.toList_some, Option.toList_none, Value.category, Nat.reduceAdd, Nat.reduceMul, Nat.reduceMod, Nat.reduceDiv, Nat.reduceSub, Nat.reduceLT, Nat.reduceLeDiff, Nat.reduceEqDiff, Nat.zero_le, Nat.le_refl, Int32.reduceToNatClampNeg, Int32.reduceLT, Int32.reduceLE, Int32.reduceAdd, Int32.reduceSub, Int32.reduceMul, ↓reduceIte, reduceCtorEq, Nat.add_zero, Nat.zero_add, true_or, or_true, false_or, or_false, true_and, and_true, false_and, and_false, not_true_eq_false, not_false_eq_true, if_true, if_false, true_implies, false_implies, implies_true, forall_const, false_imp_iff, true_imp_iff, va_rf, zlay, zent, List.replicate_zero, List.append_nil, List.replicate_succ, List.length_append, ne_eq, Option.some.injEq, Value.int.injEq, Value.long.injEq, Int32.reduceOfNat, Int32.reduceToInt, Int.reduceLT, Int.reduceLE, Int.reduceSub, Int.reduceToNat, Int.reduceAdd, Int.reduceNeg, Int32.reduceDiv, Int64.reduceAdd, Int64.reduceSub, lg_cmp_ge, lg_cmp_le, lg_cmp_gt, lg_cmp_lt, lg_cmp_eq, wlt_t, wlt_f, wle_t, wle_f, wmod, wI_lt, wI_le, wI_eq, wI_neg, wI_pos, wI_cl, wI_ge, wI_po, w64_lt, w64_le, w64_eq, w64_lt0, w64_le0, w64_eq0, w64_32, zc317, zc319, wI_add, wI_a1, wI_s1, wI_e0, wI_m8, wI_m128, wI_m64, wI_m190, not_true_eq_false, not_false_eq_true, sP_3118_1 hS, sP_3118_62 hS, sP_4908_43 hS, sN_3151 hS, sN_5999 hS, sN_6417 hS]
  exact q
/-- DATA that are given as number t -/
def yEh (I : zI) (J : zJ) (t p f c : Nat) (x : Int64) (z : Nat) (y : Nat → Int32) : Prop := I 5872 (200 * t + p) = nI (zFo f) ∧ J 5905 (200 * t + p) = x ∧ I 5936 (200 * t + p) = nI (zCq f c) ∧ (f = 2 → ∃ q, I 5968 (200 * t + p) = nI q ∧ q + c ≤ 4096 ∧ ∀ i, i < c → I 5999 (4096 * t + (q + i)) = y i)
def yGn (I : zI) (J : zJ) (t : Nat) (d : yD) : Prop := I 5840 t = nI d.1 ∧ d.1 ≤ 200 ∧ yEt (yEh I J t) 0 d
theorem yEh_x {p f c zz : Nat} {x : Int64} {y : Nat → Int32} (hs : sz ≤ 4096) (g : yGx I I' t sz) (h : yEg I J t sz p f c x zz y) : yEh I' J t p f c x zz y := by
  obtain ⟨a1, a2, a3, a4⟩ := h
  refine ⟨by rw [g.1 5872 (by decide)]; exact a1, a2, by rw [g.1 5936 (by decide)]; exact a3, fun h2 => ?_⟩
  obtain ⟨q, q1, q2, q3⟩ := a4 h2
  exact ⟨q, by rw [g.1 5968 (by decide)]; exact q1, by omega, fun i hi => by rw [g.2.1 _ (by omega)]; exact q3 i hi⟩
end
