/-! endowOwner -/
theorem zrr_at {α : Type} {F : Nat → Nat → α} {a j : Nat} {v : α} : zrow F a v a j = v := if_pos rfl
theorem zrr_ne {α : Type} {F : Nat → Nat → α} {a a' : Nat} {v : α} (h : a' ≠ a) : zrow F a v a' = F a' := by
  funext j
  exact if_neg h
theorem zl1_at {N : Nat → Nat} {a v : Nat} : zlen1 N a v a = v := if_pos rfl
theorem zl1_ne {N : Nat → Nat} {a a' v : Nat} (h : a' ≠ a) : zlen1 N a v a' = N a' := if_neg h
section
variable {L i : Nat} {xs : Nat → Int32} {I : zI} {J : zJ} {P : zP} {N : Nat → Nat} {n z : Nat} {a b c : Int32} {v : Int64}
theorem acc_iff {T v : Int64} (hT : 0 ≤ T.toInt ∧ T.toInt ≤ 4611686018427387904) (hv : 2 ≤ v) (hv2 : v ≤ 4611686018427387904) : (T ≤ 4611686018427387904 - v) = ¬ (4611686018427387904 - T < v) := by
  rw [Int64.le_iff_toInt_le] at hv hv2 ⊢
  rw [Int64.lt_iff_toInt_lt]
  have e1 : (4611686018427387904 : Int64).toInt = 4611686018427387904 := rfl
  have e2 : (2 : Int64).toInt = 2 := rfl
  rw [e1] at hv2
  rw [e2] at hv
  rw [Int64.toInt_sub, Int64.toInt_sub, e1, Int.bmod_eq_of_le (by omega) (by omega), Int.bmod_eq_of_le (by omega) (by omega)]
  exact propext (by omega)
/-- the class has made an output of one coin: its cells are n (coins) .. n + 5 (datum) -/
def zEc (I : zI) (J : zJ) (P : zP) (N : Nat → Nat) (n m h : Nat) (a : Int32) (v : Int64) (I' : zI) (J' : zJ) (P' : zP) (N' : Nat → Nat) : Prop :=
  (∀ x, 6432 ≤ x → x < 32 * n → I' x = I x ∧ J' x = J x ∧ P' x = P x ∧ N' x = N x) ∧
  ((∀ x, x < 6432 → x ≠ 2115 → I' x = I x) ∧ (∀ j, j ≠ 2 → j ≠ 3 → I' 2115 j = I 2115 j) ∧ I' 2115 2 = nI (m + 1) ∧ I' 2115 3 = nI (m + 1)) ∧
  ((∀ x, x < 6432 → J' x = J x) ∧ (∀ x, x < 6432 → N' x = N x) ∧ (∀ x, x < 6432 → x ≠ 2164 → P' x = P x) ∧ (∀ k, k ≠ m → P' 2164 k = P 2164 k)) ∧
  (P' 2164 m = some (32 * (n + 4) + 6) ∧ P' (32 * (n + 4) + 6) 1 = some (32 * n + 1) ∧ P' (32 * (n + 4) + 6) 2 = some (32 * (n + 5) + 15) ∧ P' (32 * n + 1) 0 = some (32 * (n + 1) + 16) ∧ P' (32 * n + 1) 1 = some (32 * (n + 2) + 17) ∧ P' (32 * n + 1) 2 = some (32 * (n + 3) + 17)) ∧
  (I' (32 * (n + 4) + 6) 0 = a ∧ I' (32 * (n + 4) + 6) 3 = nI h ∧ I' (32 * (n + 4) + 6) 4 = -1 ∧ I' (32 * n + 1) 3 = 1) ∧
  (N' (32 * (n + 5) + 15) = 1 ∧ N' (32 * (n + 1) + 16) = 1 ∧ N' (32 * (n + 2) + 17) = 1 ∧ N' (32 * (n + 3) + 17) = 1) ∧
  I' (32 * (n + 1) + 16) 0 = 0 ∧ J' (32 * (n + 2) + 17) 0 = 0 ∧ J' (32 * (n + 3) + 17) 0 = v ∧ I' (32 * (n + 5) + 15) 0 = 0
set_option maxRecDepth 20000 in
set_option maxHeartbeats 4000000 in
theorem e159 {m h k : Nat} {TT : Int64} {Q : Option Value → zS → Prop} (hS : zStat P N) (hn : 201 ≤ n) (x1 : I 11 10 = 0) (e1 : (nI k < 256) = True) (hk : k < 2 ^ 31) (hv : ¬ v < 2) (hv2 : ¬ 4611686018427387904 < v) (v1 : I 2115 2 = nI m) (hm : m < 1024) (e7 : (nI m < 1024) = True) (q1 : ∀ Q, zC 46 [.ref 2115, .int 0, .long 0] (I, J, P, N, n, z) Q = Q (some (.long TT)) (I, J, P, N, n, z)) (hc2 : TT ≤ 4611686018427387904 - v) (v3 : I 2115 4 = nI h)
    (hQ : ∀ I' J' P' N', zEc I J P N n m h (nI k) v I' J' P' N' → Q (some (.int (nI m))) (I', J', P', N', n + 6, z + 13)) : zC 159 [.ref 11, .int (nI k), .long v] (I, J, P, N, n, z) Q := by
  have e9 : nI (m + 1) - 1 = nI m := nI_pred m
  simp (decide := true) (disch := omega) only [x1, e1, hv, hv2, v1, e7, q1, hc2, v3, e9, zuR_ne, zu_nj, zu_at, zrr_ne, zrr_at, zl1_at, zl1_ne, zi19, zt19, zo19_0, zi21, zt21, zo21_0, zo21_1, zo21_2, zo21_3, zo21_4, zi26, zt26, zo26_0, zo26_1, zo26_2, zi45, zt45, zo45_0, zo45_1, zo45_2, zo45_3, zi104, zt104, zo104_0, zi159, zt159, zo159_0, zo159_1, zo159_2, zy_ldI, zy_ldL, zy_ldA, zy_stI, zy_stL, zy_stA, zy_cI, zy_cL, zy_nul, zy_inc, zy_bI, zy_bL, zy_sL, zy_un, zy_cmp, zy_dup, zy_dup2, zy_pop, zy_pop2, zy_jn, zy_jnn, zy_go, zy_fal, zy_tsw, zy_lsw, zy_get, zy_put, zy_ald, zy_ast, zy_len, zy_newa, zy_new, zy_cal, zy_ret, zy_tak, zy_cst, zy_acp, zy_oini, zy_cln, zy_thr, zy_bad, zy_lco, zy_if0, zy_ic0, zy_if1, zy_ic1, zy_if2, zy_ic2, zy_if3, zy_ic3, zy_if4, zy_ic4, zy_if5, zy_ic5, zK_go, zK_to, zK_end, zK_callH, zK_iteC, zK_none, zsLd, zsSt, zsInc, zsBI, zsBL, zsSL, zsUn, zsCmp, zsDup, zsDup2, zsPop, zsPop2, zsJn, zsTsw, zsLsw, zsGet, zsPut, zsAld, zsAst, zsLen, zsNewa, zsCal, zsRet, zsCst, zsAcp, zsOini, zsCln, zsLco, zsThr, zxBI, zxBL, zxSL, zxU, zset1, zset2, zclr, zcat, zmake_mk, zcomp, zH_i, zH_l, zH_r, zH_u, zH_n, List.set_cons_zero, List.set_cons_succ, List.getElem?_cons_zero, List.getElem?_cons_succ, List.length_cons, List.length_nil, List.take_succ_cons, List.take_zero, List.drop_succ_cons, List.drop_zero, List.reverse_cons, List.reverse_nil, List.nil_append, List.cons_append, List.map_cons, List.map_nil, List.sum_cons, List.sum_nil, Option.toList_some, Option.toList_none, Value.category, Nat.reduceAdd, Nat.reduceMul, Nat.reduceMod, Nat.reduceDiv, Nat.reduceSub, Nat.reduceLT, Nat.reduceLeDiff, Nat.reduceEqDiff, Nat.zero_le, Nat.le_refl, Int32.reduceToNatClampNeg, Int32.reduceLT, Int32.reduceLE, Int32.reduceAdd, Int32.reduceSub, Int32.reduceMul, ↓reduceIte, reduceCtorEq, Nat.add_zero, Nat.zero_add, true_or, or_true, false_or, or_false, true_and, and_true, false_and, and_false, not_true_eq_false, not_false_eq_true, if_true, if_false, true_implies, false_implies, implies_true, forall_const, false_imp_iff, true_imp_iff, va_rf, zlay, zent, List.replicate_zero, List.append_nil, List.replicate_succ, List.length_append, ne_eq, Option.some.injEq, Value.int.injEq, Value.long.injEq, Int32.reduceOfNat, Int32.reduceToInt, Int.reduceLT, Int.reduceLE, Int.reduceSub, Int.reduceToNat, Int.reduceAdd, Int.reduceNeg, Int32.reduceDiv, Int64.reduceAdd, Int64.reduceSub, lg_cmp_ge, lg_cmp_le, lg_cmp_gt, lg_cmp_lt, lg_cmp_eq, wlt_t, wlt_f, wle_t, wle_f, wmod, wI_lt, wI_le, wI_eq, wI_neg, wI_pos, wI_cl, wI_ge, wI_po, w64_lt, w64_le, w64_eq, w64_lt0, w64_le0, w64_eq0, w64_32, zc317, zc319, wI_add, wI_a1, wI_s1, wI_e0, wI_m8, wI_m128, wI_m64, wI_m190, not_true_eq_false, not_false_eq_true, sP_11_4 hS, sP_897_0 hS, sP_897_1 hS, sP_897_2 hS, sP_1089_0 hS, sP_1089_1 hS, sP_1089_2 hS, sP_1217_0 hS, sP_1217_1 hS, sP_1217_2 hS, sP_1345_0 hS, sP_1345_1 hS, sP_1345_2 hS, sP_1473_0 hS, sP_1473_1 hS, sP_1473_2 hS, sP_1601_0 hS, sP_1601_1 hS, sP_1601_2 hS, sP_1729_0 hS, sP_1729_1 hS, sP_1729_2 hS, sP_1857_0 hS, sP_1857_1 hS, sP_1857_2 hS, sP_1985_0 hS, sP_1985_1 hS, sP_1985_2 hS, sP_2115_0 hS, sP_2273_0 hS, sP_2273_1 hS, sP_2273_2 hS, sP_2401_0 hS, sP_2401_1 hS, sP_2401_2 hS, sN_944 hS, sN_977 hS, sN_1009 hS, sN_1136 hS, sN_1169 hS, sN_1201 hS, sN_1264 hS, sN_1297 hS, sN_1329 hS, sN_1392 hS, sN_1425 hS, sN_1457 hS, sN_1520 hS, sN_1553 hS, sN_1585 hS, sN_1648 hS, sN_1681 hS, sN_1713 hS, sN_1776 hS, sN_1809 hS, sN_1841 hS, sN_1904 hS, sN_1937 hS, sN_1969 hS, sN_2032 hS, sN_2065 hS, sN_2097 hS, sN_2164 hS, sN_2320 hS, sN_2353 hS, sN_2385 hS, sN_2448 hS, sN_2481 hS, sN_2513 hS, sN_6417 hS]
  refine hQ _ _ _ _ ⟨fun x h1 h2 => ⟨?_, ?_, ?_, ?_⟩, ⟨fun x h1 h2 => ?_, fun j h1 h2 => ?_, ?_, ?_⟩, ⟨fun x h1 => ?_, fun x h1 => ?_, fun x h1 h2 => ?_, fun k hk => ?_⟩, ⟨?_, ?_, ?_, ?_, ?_, ?_⟩, ⟨?_, ?_, ?_, ?_⟩, ⟨?_, ?_, ?_, ?_⟩, ?_, ?_, ?_, ?_⟩
  all_goals simp (disch := omega) only [zuR_ne, zu_nj, zu_at, zrr_ne, zrr_at, zl1_at, zl1_ne]
/-- the reference has made that output -/
def zEm (I : zI) (J : zJ) (m e h : Nat) (a : Int32) (v : Int64) (I' : zI) (J' : zJ) : Prop :=
  ((∀ x, x ≠ 3118 → x ≠ 3408 → x ≠ 3440 → x ≠ 3472 → x ≠ 3567 → x ≠ 3600 → x ≠ 3632 → x ≠ 3664 → I' x = I x) ∧ (∀ x, x ≠ 3505 → x ≠ 3537 → J' x = J x)) ∧
  ((∀ j, j ≠ 63 → j ≠ 11 → j ≠ 12 → I' 3118 j = I 3118 j) ∧ I' 3118 11 = nI (m + 1) ∧ I' 3118 12 = nI (e + 1)) ∧
  (∀ k, k ≠ m → I' 3408 k = I 3408 k ∧ I' 3440 k = I 3440 k ∧ I' 3600 k = I 3600 k ∧ I' 3632 k = I 3632 k ∧ I' 3664 k = I 3664 k) ∧
  (∀ k, k ≠ 8 * m → I' 3472 k = I 3472 k ∧ J' 3505 k = J 3505 k ∧ J' 3537 k = J 3537 k) ∧ (∀ k, k ≠ 128 * m → I' 3567 k = I 3567 k) ∧
  I' 3408 m = a ∧ I' 3440 m = 1 ∧ I' 3600 m = 1 ∧ I' 3632 m = nI h ∧ I' 3664 m = -1 ∧ I' 3472 (8 * m) = 0 ∧ J' 3505 (8 * m) = 0 ∧ J' 3537 (8 * m) = v ∧ I' 3567 (128 * m) = 0
set_option maxRecDepth 20000 in
set_option maxHeartbeats 4000000 in
theorem e255 {m e h k : Nat} {TT : Int64} {Q : Option Value → zS → Prop} (hS : zStat P N) (hb : I 3118 13 = 0) (e2 : (255 < nI k) = False) (hk : k < 2 ^ 31) (hv : ¬ v < 2) (hv2 : ¬ 4611686018427387904 < v) (w1 : I 3118 11 = nI m) (w2 : I 3118 12 = nI e) (w3 : I 3118 23 = nI h) (hm : m < 1024) (e8 : (nI m = 1024) = False) (q2 : ∀ Q, zC 252 [.ref 3118, .int 0, .long 0] (zu I 3118 63 0, J, P, N, n, z) Q = Q (some (.long TT)) (zu I 3118 63 0, J, P, N, n, z)) (hc : ¬ 4611686018427387904 - TT < v)
    (hQ : ∀ I' J', zEm I J m e h (nI k) v I' J' → Q (some (.int (nI m))) (I', J', P, N, n, z)) : zC 255 [.ref 3118, .int (nI k), .long v] (I, J, P, N, n, z) Q := by
  have e9 : (0 : Int32) + 1 = 1 := rfl
  have e10 : nI (8 * m) + 0 = nI (8 * m) := Int32.add_zero _
  simp (decide := true) (disch := omega) only [hb, e2, hv, hv2, q2, hc, w1, w2, w3, e8, e9, e10, zuR_ne, zu_nj, zu_at, zi253, zt253, zo253_0, zi254, zt254, zo254_0, zi255, zt255, zo255_0, zo255_1, zo255_2, zy_ldI, zy_ldL, zy_ldA, zy_stI, zy_stL, zy_stA, zy_cI, zy_cL, zy_nul, zy_inc, zy_bI, zy_bL, zy_sL, zy_un, zy_cmp, zy_dup, zy_dup2, zy_pop, zy_pop2, zy_jn, zy_jnn, zy_go, zy_fal, zy_tsw, zy_lsw, zy_get, zy_put, zy_ald, zy_ast, zy_len, zy_newa, zy_new, zy_cal, zy_ret, zy_tak, zy_cst, zy_acp, zy_oini, zy_cln, zy_thr, zy_bad, zy_lco, zy_if0, zy_ic0, zy_if1, zy_ic1, zy_if2, zy_ic2, zy_if3, zy_ic3, zy_if4, zy_ic4, zy_if5, zy_ic5, zK_go, zK_to, zK_end, zK_callH, zK_iteC, zK_none, zsLd, zsSt, zsInc, zsBI, zsBL, zsSL, zsUn, zsCmp, zsDup, zsDup2, zsPop, zsPop2, zsJn, zsTsw, zsLsw, zsGet, zsPut, zsAld, zsAst, zsLen, zsNewa, zsCal, zsRet, zsCst, zsAcp, zsOini, zsCln, zsLco, zsThr, zxBI, zxBL, zxSL, zxU, zset1, zset2, zclr, zcat, zmake_mk, zcomp, zH_i, zH_l, zH_r, zH_u, zH_n, List.set_cons_zero, List.set_cons_succ, List.getElem?_cons_zero, List.getElem?_cons_succ, List.length_cons, List.length_nil, List.take_succ_cons, List.take_zero, List.drop_succ_cons, List.drop_zero, List.reverse_cons, List.reverse_nil, List.nil_append, List.cons_append, List.map_cons, List.map_nil, List.sum_cons, List.sum_nil, Option.toList_some, Option.toList_none, Value.category, Nat.reduceAdd, Nat.reduceMul, Nat.reduceMod, Nat.reduceDiv, Nat.reduceSub, Nat.reduceLT, Nat.reduceLeDiff, Nat.reduceEqDiff, Nat.zero_le, Nat.le_refl, Int32.reduceToNatClampNeg, Int32.reduceLT, Int32.reduceLE, Int32.reduceAdd, Int32.reduceSub, Int32.reduceMul, ↓reduceIte, reduceCtorEq, Nat.add_zero, Nat.zero_add, true_or, or_true, false_or, or_false, true_and, and_true, false_and, and_false, not_true_eq_false, not_false_eq_true, if_true, if_false, true_implies, false_implies, implies_true, forall_const, false_imp_iff, true_imp_iff, va_rf, zlay, zent, List.replicate_zero, List.append_nil, List.replicate_succ, List.length_append, ne_eq, Option.some.injEq, Value.int.injEq, Value.long.injEq, Int32.reduceOfNat, Int32.reduceToInt, Int.reduceLT, Int.reduceLE, Int.reduceSub, Int.reduceToNat, Int.reduceAdd, Int.reduceNeg, Int32.reduceDiv, Int64.reduceAdd, Int64.reduceSub, lg_cmp_ge, lg_cmp_le, lg_cmp_gt, lg_cmp_lt, lg_cmp_eq, wlt_t, wlt_f, wle_t, wle_f, wmod, wI_lt, wI_le, wI_eq, wI_neg, wI_pos, wI_cl, wI_ge, wI_po, w64_lt, w64_le, w64_eq, w64_lt0, w64_le0, w64_eq0, w64_32, zc317, zc319, wI_add, wI_a1, wI_s1, wI_e0, wI_m8, wI_m128, wI_m64, wI_m190, not_true_eq_false, not_false_eq_true, sP_3118_14 hS, sP_3118_15 hS, sP_3118_16 hS, sP_3118_17 hS, sP_3118_18 hS, sP_3118_19 hS, sP_3118_20 hS, sP_3118_21 hS, sP_3118_22 hS, sN_3408 hS, sN_3440 hS, sN_3472 hS, sN_3505 hS, sN_3537 hS, sN_3567 hS, sN_3600 hS, sN_3632 hS, sN_3664 hS, sN_6417 hS]
  refine hQ _ _ ⟨⟨fun x h1 h2 h3 h4 h5 h6 h7 h8 => ?_, fun x h1 h2 => ?_⟩, ⟨fun j h1 h2 h3 => ?_, ?_, ?_⟩, fun k hk => ⟨?_, ?_, ?_, ?_, ?_⟩, fun k hk => ⟨?_, ?_, ?_⟩, fun k hk => ?_, ?_, ?_, ?_, ?_, ?_, ?_, ?_, ?_, ?_⟩
  all_goals try simp (disch := omega) only [zuR_ne, zu_nj, zu_at]
  all_goals try rfl
theorem zAmt_c {A A' : zI} {B B' : zJ} {k : Nat} {p : Int32} {x : Int64} : ∀ c, (∀ j, j < c → A' 3472 (8 * k + j) = A 3472 (8 * k + j) ∧ B' 3505 (8 * k + j) = B 3505 (8 * k + j) ∧ B' 3537 (8 * k + j) = B 3537 (8 * k + j)) → zAmt A' B' k p x c = zAmt A B k p x c := by
  intro c
  induction c with
  | zero => intro _; rfl
  | succ c ih =>
    intro h
    obtain ⟨h1, h2, h3⟩ := h c (by omega)
    unfold zAmt
    rw [ih (fun j hj => h j (by omega)), h1, h2, h3]
theorem zTot_c {A A' : zI} {B B' : zJ} {g g' : Nat → Nat → Nat} {e e' : Nat} {t t' : Int} {p : Int32} {x : Int64} : ∀ m, (∀ k, k < m → zAlv A' e' k t' = zAlv A e k t ∧ zAmt A' B' k p x (g' 6 k) = zAmt A B k p x (g 6 k)) → zTot A' B' g' e' t' p x m = zTot A B g e t p x m := by
  intro m
  induction m with
  | zero => intro _; rfl
  | succ m ih =>
    intro h
    obtain ⟨h1, h2⟩ := h m (by omega)
    unfold zTot
    rw [ih (fun j hj => h j (by omega)), h1, h2]
/-- the cells of a new output -/
def zgn (g : Nat → Nat → Nat) (n m q j : Nat) : Nat := if j = m then (match q with | 0 => n + 4 | 1 => n | 2 => n + 1 | 3 => n + 2 | 4 => n + 3 | 5 => n + 5 | _ => 1) else g q j
theorem zgn_at {g : Nat → Nat → Nat} {n m q : Nat} : zgn g n m q m = (match q with | 0 => n + 4 | 1 => n | 2 => n + 1 | 3 => n + 2 | 4 => n + 3 | 5 => n + 5 | _ => 1) := if_pos rfl
theorem zgn_ne {g : Nat → Nat → Nat} {n m q j : Nat} (h : j ≠ m) : zgn g n m q j = g q j := if_neg h
set_option maxRecDepth 20000 in
set_option maxHeartbeats 4000000 in
theorem fin2 {I1 I2 : zI} {J1 J2 : zJ} {P1 : zP} {N1 : Nat → Nat} {t m e h u s d k : Nat} {g f : Nat → Nat → Nat} (hs : zScr L xs (I, J, P, N, n, z)) (hS : zStat P N) (hk : I 54 = zTK0 ∧ N 54 = 32) (hr : 201 ≤ n ∧ n + N 31 ≤ 201 + 12 * i ∧ z ≤ 1542900 + 1200 * i) (X : zAll I J P N I J n i t m e h u s d g f)
    (hb : I 3118 13 = 0) (hm : m < 1024) (hk2 : k < 256) (hv : 2 ≤ v) (hv2 : v ≤ 4611686018427387904) (hsum : zTot I J g e 1 0 0 m + v.toInt ≤ 4611686018427387904) (E : zEc I J P N n m h (nI k) v I1 J1 P1 N1) (F : zEm I1 J1 m e h (nI k) v I2 J2) : zInv L xs (i + 4) (I2, J2, P1, N1, n + 6, z + 13) := by
  obtain ⟨s1, s2, s3⟩ := hs
  obtain ⟨k1, k2⟩ := hk
  obtain ⟨r1, r2, r3⟩ := hr
  obtain ⟨⟨⟨v0, v1, v2, v3, v4, v5, v6⟩, ⟨w0, w1, w2, w3, w4, w5, w6⟩, ⟨b1, b2, b3, b4, b5, b6, b7, b8⟩, ⟨x1, x2, x3, x4⟩⟩, Su, T, La, O, W, S, C, G⟩ := X
  obtain ⟨g1, g2, g3, g4⟩ := G hb
  subst g1
  have g2 := g2.symm
  subst g2
  obtain ⟨E1, ⟨E2, E3, E4, E5⟩, ⟨E6, E7, E8, E9⟩, ⟨P1', P2, P3, P4, P5, P6⟩, ⟨i1, i2, i3, i4⟩, ⟨n1, n2, n3, n4⟩, o1, o2, o3, o4⟩ := E
  obtain ⟨⟨F1, F2⟩, ⟨F3, F4, F5⟩, F6, F7, F8, f1, f2, f3, f4, f5, f6, f7, f8, f9⟩ := F
  have cI : ∀ x, x < 6432 → x ≠ 2115 → x ≠ 3118 → x ≠ 3408 → x ≠ 3440 → x ≠ 3472 → x ≠ 3567 → x ≠ 3600 → x ≠ 3632 → x ≠ 3664 → I2 x = I x := fun x h0 h1 h2 h3 h4 h5 h6 h7 h8 h9 => (F1 x h2 h3 h4 h5 h6 h7 h8 h9).trans (E2 x h0 h1)
  have cJ : ∀ x, x < 6432 → x ≠ 3505 → x ≠ 3537 → J2 x = J x := fun x h0 h1 h2 => (F2 x h1 h2).trans (E6 x h0)
  have bI : ∀ x, 6432 ≤ x → I2 x = I1 x := fun x h => F1 x (by omega) (by omega) (by omega) (by omega) (by omega) (by omega) (by omega) (by omega)
  have bJ : ∀ x, 6432 ≤ x → J2 x = J1 x := fun x h => F2 x (by omega) (by omega)
  have I2115 : I2 2115 = I1 2115 := F1 2115 (by decide) (by decide) (by decide) (by decide) (by decide) (by decide) (by decide) (by decide)
  have m3118 : ∀ j, j ≠ 63 → j ≠ 11 → j ≠ 12 → I2 3118 j = I 3118 j := fun j h1 h2 h3 => (F3 j h1 h2 h3).trans (congrFun (E2 3118 (by decide) (by decide)) j)
  have p8 : ∀ a, a ≠ 8 * m → I2 3472 a = I 3472 a ∧ J2 3505 a = J 3505 a ∧ J2 3537 a = J 3537 a := fun a ha => by
    obtain ⟨q1, q2, q3⟩ := F7 a ha
    rw [q1, q2, q3, E2 3472 (by decide) (by decide), E6 3505 (by decide), E6 3537 (by decide)]
    exact ⟨rfl, rfl, rfl⟩
  have p1 : ∀ a, a ≠ m → I2 3408 a = I 3408 a ∧ I2 3440 a = I 3440 a ∧ I2 3600 a = I 3600 a ∧ I2 3632 a = I 3632 a ∧ I2 3664 a = I 3664 a := fun a ha => by
    obtain ⟨q1, q2, q3, q4, q5⟩ := F6 a ha
    rw [q1, q2, q3, q4, q5, E2 3408 (by decide) (by decide), E2 3440 (by decide) (by decide), E2 3600 (by decide) (by decide), E2 3632 (by decide) (by decide), E2 3664 (by decide) (by decide)]
    exact ⟨rfl, rfl, rfl, rfl, rfl⟩
  have H : zSg n I J P N I2 J2 P1 N1 := fun a h1 h2 => by
    obtain ⟨q1, q3, q4, q5⟩ := E1 a h1 h2
    exact ⟨fun q => (bI a h1).trans q1, fun j hj => (congrFun (bI a h1) j).trans (congrFun q1 j), (bJ a h1).trans q3, q4, q5⟩
  have hamt : ∀ a, a < m → ∀ (p : Int32) (x : Int64), zAmt I2 J2 a p x (zgn g n m 6 a) = zAmt I J a p x (g 6 a) := fun a ha p x => by
    rw [zgn_ne (by omega)]
    have := (O.1 a ha).2.2.2.2.1.1
    exact zAmt_c (g 6 a) (fun j hj => p8 _ (by omega))
  refine ⟨⟨?_, fun j => ?_, ?_⟩, ?_, ⟨?_, ?_⟩, ⟨by omega, ?_, by omega⟩, t, m + 1, m + 1, 0, u, s, d, zgn g n m, f, ?_, ?_, ?_, ?_, ⟨fun a ha => ?_, fun a b hab hb => ?_⟩, fun a ha => ?_, ?_, ⟨fun a ha => ?_, fun a ha p x => ?_⟩, fun _ => ⟨rfl, rfl, ?_, fun a ha => ?_⟩⟩
  · show N1 22 = L
    rw [E7 22 (by decide)]
    exact s1
  · show I2 22 j = xs j
    rw [cI 22 (by decide) (by decide) (by decide) (by decide) (by decide) (by decide) (by decide) (by decide) (by decide) (by decide)]
    exact s2 j
  · show N1 6417 = 1
    rw [E7 6417 (by decide)]
    exact s3
  · exact zStat_c hS (fun a j h1 h2 _ _ => congrFun (E8 a h1 h2) j) (fun a _ h2 => E7 a h2)
  · rw [cI 54 (by decide) (by decide) (by decide) (by decide) (by decide) (by decide) (by decide) (by decide) (by decide) (by decide)]
    exact k1
  · rw [E7 54 (by decide)]
    exact k2
  · rw [E7 31 (by decide)]
    omega
  · unfold zVal
    rw [cI 11 (by decide) (by decide) (by decide) (by decide) (by decide) (by decide) (by decide) (by decide) (by decide) (by decide), I2115, E4, E5, E3 4 (by decide) (by decide), E3 5 (by decide) (by decide), E3 1 (by decide) (by decide), m3118 2 (by decide) (by decide) (by decide), F4, F5, m3118 23 (by decide) (by decide) (by decide), m3118 24 (by decide) (by decide) (by decide), m3118 3 (by decide) (by decide) (by decide), m3118 0 (by decide) (by decide) (by decide), m3118 13 (by decide) (by decide) (by decide), m3118 28 (by decide) (by decide) (by decide), cJ 11 (by decide) (by decide) (by decide), cJ 3118 (by decide) (by decide) (by decide)]
    exact ⟨⟨v0, rfl, rfl, v3, v4, v5, v6⟩, ⟨w0, rfl, rfl, w3, w4, w5, w6⟩, ⟨b1, by omega, by omega, b4, b5, b6, b7, b8⟩, ⟨x1, x2, x3, x4⟩⟩
  · refine zSum_cm ?_ ?_ ?_ ?_ ?_ ?_ ?_ ?_ ?_ (by omega) Su
    · rw [cJ 2115 (by decide) (by decide) (by decide)]
    · rw [I2115, E3 7 (by decide) (by decide)]
    · rw [I2115, E3 8 (by decide) (by decide)]
    · exact cJ 2193 (by decide) (by decide) (by decide)
    · exact cI 2224 (by decide) (by decide) (by decide) (by decide) (by decide) (by decide) (by decide) (by decide) (by decide) (by decide)
    · exact cI 2256 (by decide) (by decide) (by decide) (by decide) (by decide) (by decide) (by decide) (by decide) (by decide) (by decide)
    · exact cJ 3697 (by decide) (by decide) (by decide)
    · exact cI 3728 (by decide) (by decide) (by decide) (by decide) (by decide) (by decide) (by decide) (by decide) (by decide) (by decide)
    · exact cI 3760 (by decide) (by decide) (by decide) (by decide) (by decide) (by decide) (by decide) (by decide) (by decide) (by decide)
  · refine zTap_cm b1 (fun j hj => ?_) ?_ T
    · rw [cI 239 (by decide) (by decide) (by decide) (by decide) (by decide) (by decide) (by decide) (by decide) (by decide) (by decide)]
    · exact cI 3151 (by decide) (by decide) (by decide) (by decide) (by decide) (by decide) (by decide) (by decide) (by decide) (by decide)
  · refine zLat_cm ?_ (fun j hj => m3118 (30 + j) (by omega) (by omega) (by omega)) La
    exact cI 3088 (by decide) (by decide) (by decide) (by decide) (by decide) (by decide) (by decide) (by decide) (by decide) (by decide)
  · by_cases ham : a = m
    · subst ham
      unfold zO1
      simp only [zgn_at]
      refine ⟨⟨P1', P2, P3, P4, P5, P6⟩, ⟨?_, ?_, ?_, ?_⟩, ⟨f2, f3⟩, ⟨n1, n2, n3, n4⟩, ⟨by omega, by omega⟩, fun j hj => ?_, fun j hj => ?_, fun q hq => ?_⟩
      · rw [bI _ (by omega), f1]; exact i1
      · rw [bI _ (by omega), f4]; exact i2
      · rw [bI _ (by omega), f5]; exact i3
      · rw [bI _ (by omega)]; exact i4
      · obtain rfl : j = 0 := by omega
        exact ⟨((congrFun (bI (32 * (n + 1) + 16) (by omega)) 0).trans o1).trans f6.symm, ((congrFun (bJ (32 * (n + 2) + 17) (by omega)) 0).trans o2).trans f7.symm, ((congrFun (bJ (32 * (n + 3) + 17) (by omega)) 0).trans o3).trans f8.symm⟩
      · obtain rfl : j = 0 := by omega
        exact ((congrFun (bI (32 * (n + 5) + 15) (by omega)) 0).trans o4).trans f9.symm
      · have : q = 0 ∨ q = 1 ∨ q = 2 ∨ q = 3 ∨ q = 4 ∨ q = 5 := by omega
        rcases this with rfl | rfl | rfl | rfl | rfl | rfl
        all_goals simp only []
        all_goals omega
    · have oa := O.1 a (by omega)
      obtain ⟨q1, q2, q3, q4, q5⟩ := p1 a ham
      have c6 := oa.2.2.2.2.1
      have hg0 := oa.2.2.2.2.2.2.2 0 (by decide)
      refine zO1_g H ⟨⟨q1, q4, q2, q3⟩, fun j hj => p8 _ (by omega), fun j hj => ?_⟩ (fun q _ => zgn_ne ham) (by omega) (E9 a ham) ?_ oa
      · rw [F8 _ (by omega), E2 3567 (by decide) (by decide)]
      · rw [bI _ (by omega), q5, (E1 _ (by omega) (by omega)).1]
        exact oa.2.1.2.2.1
  · by_cases hbm : b = m
    · subst hbm
      rw [zgn_at, zgn_ne (by omega)]
      have := (O.1 a hab).2.2.2.2.2.2.2 0 (by decide)
      show g 0 a < n + 4
      omega
    · rw [zgn_ne hbm, zgn_ne (by omega)]
      exact O.2 a b hab (by omega)
  · by_cases ham : a = m
    · subst ham
      rw [zgn_at]
      refine ⟨⟨0, Nat.le_refl 0, f4⟩, Or.inl f5, ⟨k, by omega, f1⟩, fun j hj => ?_, fun q j h1 h2 => ?_, fun h1 h2 => by omega, fun _ => f4, by rw [zgn_at]; exact zDk_0 f9⟩
      · have hj : j < 1 := hj
        obtain rfl : j = 0 := by omega
        rw [Nat.add_zero, f6, f7, f8]
        refine ⟨⟨0, by omega, rfl⟩, ?_, hv2, fun _ => rfl⟩
        exact Int64.le_trans (by decide) hv
      · have h2 : j < 1 := h2
        omega
    · obtain ⟨q1, q2, q3, q4, q5⟩ := p1 a ham
      obtain ⟨z1, z2, z3, z4, z5, -, z7, z8⟩ := W a (by omega)
      have c6 := (O.1 a (by omega)).2.2.2.2.1
      rw [q1, q4, q5, zgn_ne ham]
      refine ⟨z1, z2, z3, fun j hj => ?_, fun q j h1 h2 => ?_, fun h1 h2 => by omega, fun _ => z7 (by omega), by rw [zgn_ne ham]; exact zDk_c (fun j hj => by rw [F8 _ (by omega), E2 3567 (by decide) (by decide)]) z8⟩
      · obtain ⟨u1, u2, u3⟩ := p8 (8 * a + j) (by omega)
        rw [u1, u2, u3]
        exact z4 j hj
      · obtain ⟨u1, u2, u3⟩ := p8 (8 * a + j) (by omega)
        obtain ⟨t1, t2, t3⟩ := p8 (8 * a + q) (by omega)
        rw [u1, u2, t1, t2]
        exact z5 q j h1 h2
  · refine zScs_ms ⟨?_, ?_, ?_, ?_, ?_, ?_, ?_⟩ (zScs_g H (by omega) (E8 3061 (by decide) (by decide)) S)
    · exact cI 3184 (by decide) (by decide) (by decide) (by decide) (by decide) (by decide) (by decide) (by decide) (by decide) (by decide)
    · exact cI 3216 (by decide) (by decide) (by decide) (by decide) (by decide) (by decide) (by decide) (by decide) (by decide) (by decide)
    · exact cI 3248 (by decide) (by decide) (by decide) (by decide) (by decide) (by decide) (by decide) (by decide) (by decide) (by decide)
    · exact cI 3280 (by decide) (by decide) (by decide) (by decide) (by decide) (by decide) (by decide) (by decide) (by decide) (by decide)
    · exact cI 3312 (by decide) (by decide) (by decide) (by decide) (by decide) (by decide) (by decide) (by decide) (by decide) (by decide)
    · exact cJ 3345 (by decide) (by decide) (by decide)
    · exact cI 3375 (by decide) (by decide) (by decide) (by decide) (by decide) (by decide) (by decide) (by decide) (by decide) (by decide)
  · rw [cJ 3697 (by decide) (by decide) (by decide)]
    exact C.1 a ha
  · have eP : zPts J2 a = 0 := by
      have e3697 := cJ 3697 (by decide) (by decide) (by decide)
      rcases Nat.lt_or_ge a 1 with h1 | h1
      · obtain rfl : a = 0 := by omega
        rfl
      · obtain rfl : a = 1 := by omega
        show 0 + (J2 3697 0).toInt = 0
        rw [e3697, g3]
        rfl
    have e1 : zTot I2 J2 (zgn g n m) (m + 1) a p x m = zTot I J g m 1 p x m := by
      refine zTot_c m (fun q hq => ⟨?_, hamt q hq p x⟩)
      unfold zAlv
      rw [(p1 q (by omega)).2.2.2.2, (p1 q (by omega)).2.2.2.1, g4 q hq, wn_toInt]
      refine propext ⟨fun _ => ⟨Or.inl hq, Or.inl (by omega)⟩, fun _ => ⟨Or.inl (by omega), Or.inl (by omega)⟩⟩
    have e2 : zAlv I2 (m + 1) m a := ⟨Or.inl (by omega), Or.inl (by rw [f5, wn_toInt]; omega)⟩
    have e3 : zAmt I2 J2 m p x (zgn g n m 6 m) = if (0 : Int32) = p ∧ (0 : Int64) = x then v.toInt else 0 := by
      rw [zgn_at]
      show 0 + (if I2 3472 (8 * m + 0) = p ∧ J2 3505 (8 * m + 0) = x then (J2 3537 (8 * m + 0)).toInt else 0) = _
      rw [Nat.add_zero, f6, f7, f8]
      omega
    have e4 : zTot I2 J2 (zgn g n m) (m + 1) a p x (m + 1) = zTot I J g m 1 p x m + if (0 : Int32) = p ∧ (0 : Int64) = x then v.toInt else 0 := by
      rw [← e1, ← e3]
      show zTot I2 J2 (zgn g n m) (m + 1) a p x m + _ = _
      rw [if_pos e2]
    rw [e4, eP]
    by_cases hp : p = 0 ∧ x = 0
    · obtain ⟨rfl, rfl⟩ := hp
      rw [if_pos ⟨rfl, rfl⟩, if_pos ⟨rfl, rfl⟩]
      omega
    · rw [if_neg (fun q => hp ⟨q.1.symm, q.2.symm⟩), if_neg hp]
      have := C.2 1 (by omega) p x
      rw [if_neg hp] at this
      have e5 : ((1 : Nat) : Int) = 1 := rfl
      rw [e5] at this
      omega
  · rw [cJ 3697 (by decide) (by decide) (by decide)]
    exact g3
  · by_cases ham : a = m
    · subst ham
      exact f5
    · rw [(p1 a ham).2.2.2.2]
      exact g4 a (by omega)
set_option maxRecDepth 20000 in
set_option maxHeartbeats 4000000 in
theorem c_2 (hi : i < 4190) (hI : zInv L xs i (I, J, P, N, n, z)) : zCall 2 a b c L xs (I, J, P, N, n, z) (zInv L xs (i + 4)) := by
  obtain ⟨hs, hS, hk, hr, t, m, e, h, u, s, d, g, f, X⟩ := id hI
  obtain ⟨⟨⟨v0, v1, v2, v3, v4, v5, v6⟩, ⟨w0, w1, w2, w3, w4, w5, w6⟩, ⟨b1, b2, b3, b4, b5, b6, b7, b8⟩, ⟨x1, x2, x3, x4⟩⟩, ⟨ap, tk, y1, y2, y3, y4, y5, y6, y7, y8⟩, T, La, O, W, S, C, G⟩ := id X
  show zTwoI 159 255 [.int a, .long (zlg b c)] L xs _ _
  generalize zlg b c = v
  rcases x2 with hb | hb
  · rw [hb] at x1
    obtain ⟨g1, g2, g3, g4⟩ := G hb
    by_cases ha : a < 0
    · exact zAskI_two ⟨-1, fun Q hQ => by
        simp (decide := true) (disch := omega) only [x1, ha, zi159, zt159, zo159_0, zo159_1, zo159_2, zy_ldI, zy_ldL, zy_ldA, zy_stI, zy_stL, zy_stA, zy_cI, zy_cL, zy_nul, zy_inc, zy_bI, zy_bL, zy_sL, zy_un, zy_cmp, zy_dup, zy_dup2, zy_pop, zy_pop2, zy_jn, zy_jnn, zy_go, zy_fal, zy_tsw, zy_lsw, zy_get, zy_put, zy_ald, zy_ast, zy_len, zy_newa, zy_new, zy_cal, zy_ret, zy_tak, zy_cst, zy_acp, zy_oini, zy_cln, zy_thr, zy_bad, zy_lco, zy_if0, zy_ic0, zy_if1, zy_ic1, zy_if2, zy_ic2, zy_if3, zy_ic3, zy_if4, zy_ic4, zy_if5, zy_ic5, zK_go, zK_to, zK_end, zK_callH, zK_iteC, zK_none, zsLd, zsSt, zsInc, zsBI, zsBL, zsSL, zsUn, zsCmp, zsDup, zsDup2, zsPop, zsPop2, zsJn, zsTsw, zsLsw, zsGet, zsPut, zsAld, zsAst, zsLen, zsNewa, zsCal, zsRet, zsCst, zsAcp, zsOini, zsCln, zsLco, zsThr, zxBI, zxBL, zxSL, zxU, zset1, zset2, zclr, zcat, zmake_mk, zcomp, zH_i, zH_l, zH_r, zH_u, zH_n, List.set_cons_zero, List.set_cons_succ, List.getElem?_cons_zero, List.getElem?_cons_succ, List.length_cons, List.length_nil, List.take_succ_cons, List.take_zero, List.drop_succ_cons, List.drop_zero, List.reverse_cons, List.reverse_nil, List.nil_append, List.cons_append, List.map_cons, List.map_nil, List.sum_cons, List.sum_nil, Option.toList_some, Option.toList_none, Value.category, Nat.reduceAdd, Nat.reduceMul, Nat.reduceMod, Nat.reduceDiv, Nat.reduceSub, Nat.reduceLT, Nat.reduceLeDiff, Nat.reduceEqDiff, Nat.zero_le, Nat.le_refl, Int32.reduceToNatClampNeg, Int32.reduceLT, Int32.reduceLE, Int32.reduceAdd, Int32.reduceSub, Int32.reduceMul, ↓reduceIte, reduceCtorEq, Nat.add_zero, Nat.zero_add, true_or, or_true, false_or, or_false, true_and, and_true, false_and, and_false, not_true_eq_false, not_false_eq_true, if_true, if_false, true_implies, false_implies, implies_true, forall_const, false_imp_iff, true_imp_iff, va_rf, zlay, zent, List.replicate_zero, List.append_nil, List.replicate_succ, List.length_append, ne_eq, Option.some.injEq, Value.int.injEq, Value.long.injEq, Int32.reduceOfNat, Int32.reduceToInt, Int.reduceLT, Int.reduceLE, Int.reduceSub, Int.reduceToNat, Int.reduceAdd, Int.reduceNeg, Int32.reduceDiv, Int64.reduceAdd, Int64.reduceSub, lg_cmp_ge, lg_cmp_le, lg_cmp_gt, lg_cmp_lt, lg_cmp_eq, wlt_t, wlt_f, wle_t, wle_f, wmod, wI_lt, wI_le, wI_eq, wI_neg, wI_pos, wI_cl, wI_ge, wI_po, w64_lt, w64_le, w64_eq, w64_lt0, w64_le0, w64_eq0, w64_32, zc317, zc319, wI_add, wI_a1, wI_s1, wI_e0, wI_m8, wI_m128, wI_m64, wI_m190, not_true_eq_false, not_false_eq_true, sP_11_4 hS, sN_6417 hS]
        exact hQ, fun Q hQ => by
        simp (decide := true) (disch := omega) only [hb, ha, zuR_ne, zu_nj, zi255, zt255, zo255_0, zo255_1, zo255_2, zy_ldI, zy_ldL, zy_ldA, zy_stI, zy_stL, zy_stA, zy_cI, zy_cL, zy_nul, zy_inc, zy_bI, zy_bL, zy_sL, zy_un, zy_cmp, zy_dup, zy_dup2, zy_pop, zy_pop2, zy_jn, zy_jnn, zy_go, zy_fal, zy_tsw, zy_lsw, zy_get, zy_put, zy_ald, zy_ast, zy_len, zy_newa, zy_new, zy_cal, zy_ret, zy_tak, zy_cst, zy_acp, zy_oini, zy_cln, zy_thr, zy_bad, zy_lco, zy_if0, zy_ic0, zy_if1, zy_ic1, zy_if2, zy_ic2, zy_if3, zy_ic3, zy_if4, zy_ic4, zy_if5, zy_ic5, zK_go, zK_to, zK_end, zK_callH, zK_iteC, zK_none, zsLd, zsSt, zsInc, zsBI, zsBL, zsSL, zsUn, zsCmp, zsDup, zsDup2, zsPop, zsPop2, zsJn, zsTsw, zsLsw, zsGet, zsPut, zsAld, zsAst, zsLen, zsNewa, zsCal, zsRet, zsCst, zsAcp, zsOini, zsCln, zsLco, zsThr, zxBI, zxBL, zxSL, zxU, zset1, zset2, zclr, zcat, zmake_mk, zcomp, zH_i, zH_l, zH_r, zH_u, zH_n, List.set_cons_zero, List.set_cons_succ, List.getElem?_cons_zero, List.getElem?_cons_succ, List.length_cons, List.length_nil, List.take_succ_cons, List.take_zero, List.drop_succ_cons, List.drop_zero, List.reverse_cons, List.reverse_nil, List.nil_append, List.cons_append, List.map_cons, List.map_nil, List.sum_cons, List.sum_nil, Option.toList_some, Option.toList_none, Value.category, Nat.reduceAdd, Nat.reduceMul, Nat.reduceMod, Nat.reduceDiv, Nat.reduceSub, Nat.reduceLT, Nat.reduceLeDiff, Nat.reduceEqDiff, Nat.zero_le, Nat.le_refl, Int32.reduceToNatClampNeg, Int32.reduceLT, Int32.reduceLE, Int32.reduceAdd, Int32.reduceSub, Int32.reduceMul, ↓reduceIte, reduceCtorEq, Nat.add_zero, Nat.zero_add, true_or, or_true, false_or, or_false, true_and, and_true, false_and, and_false, not_true_eq_false, not_false_eq_true, if_true, if_false, true_implies, false_implies, implies_true, forall_const, false_imp_iff, true_imp_iff, va_rf, zlay, zent, List.replicate_zero, List.append_nil, List.replicate_succ, List.length_append, ne_eq, Option.some.injEq, Value.int.injEq, Value.long.injEq, Int32.reduceOfNat, Int32.reduceToInt, Int.reduceLT, Int.reduceLE, Int.reduceSub, Int.reduceToNat, Int.reduceAdd, Int.reduceNeg, Int32.reduceDiv, Int64.reduceAdd, Int64.reduceSub, lg_cmp_ge, lg_cmp_le, lg_cmp_gt, lg_cmp_lt, lg_cmp_eq, wlt_t, wlt_f, wle_t, wle_f, wmod, wI_lt, wI_le, wI_eq, wI_neg, wI_pos, wI_cl, wI_ge, wI_po, w64_lt, w64_le, w64_eq, w64_lt0, w64_le0, w64_eq0, w64_32, zc317, zc319, wI_add, wI_a1, wI_s1, wI_e0, wI_m8, wI_m128, wI_m64, wI_m190, not_true_eq_false, not_false_eq_true, sP_3118_19 hS, sP_3118_20 hS, sN_3567 hS, sN_3600 hS, sN_6417 hS]
        exact hQ⟩ hs (zInv_thr hI)
    · obtain ⟨k, hk', rfl⟩ := wI_of ha
      by_cases hk2 : 256 ≤ k
      · have e1 : (nI k < 256) = False := by rw [show (256 : Int32) = nI 256 from rfl, wI_lt hk' (by decide)]; exact eq_false (by omega)
        have e2 : (255 < nI k) = True := by rw [show (255 : Int32) = nI 255 from rfl, wI_lt (by decide) hk']; exact eq_true (by omega)
        exact zAskI_two ⟨-1, fun Q hQ => by
          simp (decide := true) (disch := omega) only [x1, e1, zi159, zt159, zo159_0, zo159_1, zo159_2, zy_ldI, zy_ldL, zy_ldA, zy_stI, zy_stL, zy_stA, zy_cI, zy_cL, zy_nul, zy_inc, zy_bI, zy_bL, zy_sL, zy_un, zy_cmp, zy_dup, zy_dup2, zy_pop, zy_pop2, zy_jn, zy_jnn, zy_go, zy_fal, zy_tsw, zy_lsw, zy_get, zy_put, zy_ald, zy_ast, zy_len, zy_newa, zy_new, zy_cal, zy_ret, zy_tak, zy_cst, zy_acp, zy_oini, zy_cln, zy_thr, zy_bad, zy_lco, zy_if0, zy_ic0, zy_if1, zy_ic1, zy_if2, zy_ic2, zy_if3, zy_ic3, zy_if4, zy_ic4, zy_if5, zy_ic5, zK_go, zK_to, zK_end, zK_callH, zK_iteC, zK_none, zsLd, zsSt, zsInc, zsBI, zsBL, zsSL, zsUn, zsCmp, zsDup, zsDup2, zsPop, zsPop2, zsJn, zsTsw, zsLsw, zsGet, zsPut, zsAld, zsAst, zsLen, zsNewa, zsCal, zsRet, zsCst, zsAcp, zsOini, zsCln, zsLco, zsThr, zxBI, zxBL, zxSL, zxU, zset1, zset2, zclr, zcat, zmake_mk, zcomp, zH_i, zH_l, zH_r, zH_u, zH_n, List.set_cons_zero, List.set_cons_succ, List.getElem?_cons_zero, List.getElem?_cons_succ, List.length_cons, List.length_nil, List.take_succ_cons, List.take_zero, List.drop_succ_cons, List.drop_zero, List.reverse_cons, List.reverse_nil, List.nil_append, List.cons_append, List.map_cons, List.map_nil, List.sum_cons, List.sum_nil, Option.toList_some, Option.toList_none, Value.category, Nat.reduceAdd, Nat.reduceMul, Nat.reduceMod, Nat.reduceDiv, Nat.reduceSub, Nat.reduceLT, Nat.reduceLeDiff, Nat.reduceEqDiff, Nat.zero_le, Nat.le_refl, Int32.reduceToNatClampNeg, Int32.reduceLT, Int32.reduceLE, Int32.reduceAdd, Int32.reduceSub, Int32.reduceMul, ↓reduceIte, reduceCtorEq, Nat.add_zero, Nat.zero_add, true_or, or_true, false_or, or_false, true_and, and_true, false_and, and_false, not_true_eq_false, not_false_eq_true, if_true, if_false, true_implies, false_implies, implies_true, forall_const, false_imp_iff, true_imp_iff, va_rf, zlay, zent, List.replicate_zero, List.append_nil, List.replicate_succ, List.length_append, ne_eq, Option.some.injEq, Value.int.injEq, Value.long.injEq, Int32.reduceOfNat, Int32.reduceToInt, Int.reduceLT, Int.reduceLE, Int.reduceSub, Int.reduceToNat, Int.reduceAdd, Int.reduceNeg, Int32.reduceDiv, Int64.reduceAdd, Int64.reduceSub, lg_cmp_ge, lg_cmp_le, lg_cmp_gt, lg_cmp_lt, lg_cmp_eq, wlt_t, wlt_f, wle_t, wle_f, wmod, wI_lt, wI_le, wI_eq, wI_neg, wI_pos, wI_cl, wI_ge, wI_po, w64_lt, w64_le, w64_eq, w64_lt0, w64_le0, w64_eq0, w64_32, zc317, zc319, wI_add, wI_a1, wI_s1, wI_e0, wI_m8, wI_m128, wI_m64, wI_m190, not_true_eq_false, not_false_eq_true, sP_11_4 hS, sN_6417 hS]
          exact hQ, fun Q hQ => by
          simp (decide := true) (disch := omega) only [hb, e2, zuR_ne, zu_nj, zi255, zt255, zo255_0, zo255_1, zo255_2, zy_ldI, zy_ldL, zy_ldA, zy_stI, zy_stL, zy_stA, zy_cI, zy_cL, zy_nul, zy_inc, zy_bI, zy_bL, zy_sL, zy_un, zy_cmp, zy_dup, zy_dup2, zy_pop, zy_pop2, zy_jn, zy_jnn, zy_go, zy_fal, zy_tsw, zy_lsw, zy_get, zy_put, zy_ald, zy_ast, zy_len, zy_newa, zy_new, zy_cal, zy_ret, zy_tak, zy_cst, zy_acp, zy_oini, zy_cln, zy_thr, zy_bad, zy_lco, zy_if0, zy_ic0, zy_if1, zy_ic1, zy_if2, zy_ic2, zy_if3, zy_ic3, zy_if4, zy_ic4, zy_if5, zy_ic5, zK_go, zK_to, zK_end, zK_callH, zK_iteC, zK_none, zsLd, zsSt, zsInc, zsBI, zsBL, zsSL, zsUn, zsCmp, zsDup, zsDup2, zsPop, zsPop2, zsJn, zsTsw, zsLsw, zsGet, zsPut, zsAld, zsAst, zsLen, zsNewa, zsCal, zsRet, zsCst, zsAcp, zsOini, zsCln, zsLco, zsThr, zxBI, zxBL, zxSL, zxU, zset1, zset2, zclr, zcat, zmake_mk, zcomp, zH_i, zH_l, zH_r, zH_u, zH_n, List.set_cons_zero, List.set_cons_succ, List.getElem?_cons_zero, List.getElem?_cons_succ, List.length_cons, List.length_nil, List.take_succ_cons, List.take_zero, List.drop_succ_cons, List.drop_zero, List.reverse_cons, List.reverse_nil, List.nil_append, List.cons_append, List.map_cons, List.map_nil, List.sum_cons, List.sum_nil, Option.toList_some, Option.toList_none, Value.category, Nat.reduceAdd, Nat.reduceMul, Nat.reduceMod, Nat.reduceDiv, Nat.reduceSub, Nat.reduceLT, Nat.reduceLeDiff, Nat.reduceEqDiff, Nat.zero_le, Nat.le_refl, Int32.reduceToNatClampNeg, Int32.reduceLT, Int32.reduceLE, Int32.reduceAdd, Int32.reduceSub, Int32.reduceMul, ↓reduceIte, reduceCtorEq, Nat.add_zero, Nat.zero_add, true_or, or_true, false_or, or_false, true_and, and_true, false_and, and_false, not_true_eq_false, not_false_eq_true, if_true, if_false, true_implies, false_implies, implies_true, forall_const, false_imp_iff, true_imp_iff, va_rf, zlay, zent, List.replicate_zero, List.append_nil, List.replicate_succ, List.length_append, ne_eq, Option.some.injEq, Value.int.injEq, Value.long.injEq, Int32.reduceOfNat, Int32.reduceToInt, Int.reduceLT, Int.reduceLE, Int.reduceSub, Int.reduceToNat, Int.reduceAdd, Int.reduceNeg, Int32.reduceDiv, Int64.reduceAdd, Int64.reduceSub, lg_cmp_ge, lg_cmp_le, lg_cmp_gt, lg_cmp_lt, lg_cmp_eq, wlt_t, wlt_f, wle_t, wle_f, wmod, wI_lt, wI_le, wI_eq, wI_neg, wI_pos, wI_cl, wI_ge, wI_po, w64_lt, w64_le, w64_eq, w64_lt0, w64_le0, w64_eq0, w64_32, zc317, zc319, wI_add, wI_a1, wI_s1, wI_e0, wI_m8, wI_m128, wI_m64, wI_m190, not_true_eq_false, not_false_eq_true, sP_3118_19 hS, sP_3118_20 hS, sN_3567 hS, sN_3600 hS, sN_6417 hS]
          exact hQ⟩ hs (zInv_thr hI)
      · have e1 : (nI k < 256) = True := by rw [show (256 : Int32) = nI 256 from rfl, wI_lt hk' (by decide)]; exact eq_true (by omega)
        have e2 : (255 < nI k) = False := by rw [show (255 : Int32) = nI 255 from rfl, wI_lt (by decide) hk']; exact eq_false (by omega)
        by_cases hv : v < 2
        · exact zAskI_two ⟨-1, fun Q hQ => by
            simp (decide := true) (disch := omega) only [x1, e1, hv, zi45, zt45, zo45_0, zo45_1, zo45_2, zo45_3, zi159, zt159, zo159_0, zo159_1, zo159_2, zy_ldI, zy_ldL, zy_ldA, zy_stI, zy_stL, zy_stA, zy_cI, zy_cL, zy_nul, zy_inc, zy_bI, zy_bL, zy_sL, zy_un, zy_cmp, zy_dup, zy_dup2, zy_pop, zy_pop2, zy_jn, zy_jnn, zy_go, zy_fal, zy_tsw, zy_lsw, zy_get, zy_put, zy_ald, zy_ast, zy_len, zy_newa, zy_new, zy_cal, zy_ret, zy_tak, zy_cst, zy_acp, zy_oini, zy_cln, zy_thr, zy_bad, zy_lco, zy_if0, zy_ic0, zy_if1, zy_ic1, zy_if2, zy_ic2, zy_if3, zy_ic3, zy_if4, zy_ic4, zy_if5, zy_ic5, zK_go, zK_to, zK_end, zK_callH, zK_iteC, zK_none, zsLd, zsSt, zsInc, zsBI, zsBL, zsSL, zsUn, zsCmp, zsDup, zsDup2, zsPop, zsPop2, zsJn, zsTsw, zsLsw, zsGet, zsPut, zsAld, zsAst, zsLen, zsNewa, zsCal, zsRet, zsCst, zsAcp, zsOini, zsCln, zsLco, zsThr, zxBI, zxBL, zxSL, zxU, zset1, zset2, zclr, zcat, zmake_mk, zcomp, zH_i, zH_l, zH_r, zH_u, zH_n, List.set_cons_zero, List.set_cons_succ, List.getElem?_cons_zero, List.getElem?_cons_succ, List.length_cons, List.length_nil, List.take_succ_cons, List.take_zero, List.drop_succ_cons, List.drop_zero, List.reverse_cons, List.reverse_nil, List.nil_append, List.cons_append, List.map_cons, List.map_nil, List.sum_cons, List.sum_nil, Option.toList_some, Option.toList_none, Value.category, Nat.reduceAdd, Nat.reduceMul, Nat.reduceMod, Nat.reduceDiv, Nat.reduceSub, Nat.reduceLT, Nat.reduceLeDiff, Nat.reduceEqDiff, Nat.zero_le, Nat.le_refl, Int32.reduceToNatClampNeg, Int32.reduceLT, Int32.reduceLE, Int32.reduceAdd, Int32.reduceSub, Int32.reduceMul, ↓reduceIte, reduceCtorEq, Nat.add_zero, Nat.zero_add, true_or, or_true, false_or, or_false, true_and, and_true, false_and, and_false, not_true_eq_false, not_false_eq_true, if_true, if_false, true_implies, false_implies, implies_true, forall_const, false_imp_iff, true_imp_iff, va_rf, zlay, zent, List.replicate_zero, List.append_nil, List.replicate_succ, List.length_append, ne_eq, Option.some.injEq, Value.int.injEq, Value.long.injEq, Int32.reduceOfNat, Int32.reduceToInt, Int.reduceLT, Int.reduceLE, Int.reduceSub, Int.reduceToNat, Int.reduceAdd, Int.reduceNeg, Int32.reduceDiv, Int64.reduceAdd, Int64.reduceSub, lg_cmp_ge, lg_cmp_le, lg_cmp_gt, lg_cmp_lt, lg_cmp_eq, wlt_t, wlt_f, wle_t, wle_f, wmod, wI_lt, wI_le, wI_eq, wI_neg, wI_pos, wI_cl, wI_ge, wI_po, w64_lt, w64_le, w64_eq, w64_lt0, w64_le0, w64_eq0, w64_32, zc317, zc319, wI_add, wI_a1, wI_s1, wI_e0, wI_m8, wI_m128, wI_m64, wI_m190, not_true_eq_false, not_false_eq_true, sP_11_4 hS, sP_2115_0 hS, sN_2164 hS, sN_6417 hS]
            exact hQ, fun Q hQ => by
            simp (decide := true) (disch := omega) only [hb, e2, hv, zuR_ne, zu_nj, zi255, zt255, zo255_0, zo255_1, zo255_2, zy_ldI, zy_ldL, zy_ldA, zy_stI, zy_stL, zy_stA, zy_cI, zy_cL, zy_nul, zy_inc, zy_bI, zy_bL, zy_sL, zy_un, zy_cmp, zy_dup, zy_dup2, zy_pop, zy_pop2, zy_jn, zy_jnn, zy_go, zy_fal, zy_tsw, zy_lsw, zy_get, zy_put, zy_ald, zy_ast, zy_len, zy_newa, zy_new, zy_cal, zy_ret, zy_tak, zy_cst, zy_acp, zy_oini, zy_cln, zy_thr, zy_bad, zy_lco, zy_if0, zy_ic0, zy_if1, zy_ic1, zy_if2, zy_ic2, zy_if3, zy_ic3, zy_if4, zy_ic4, zy_if5, zy_ic5, zK_go, zK_to, zK_end, zK_callH, zK_iteC, zK_none, zsLd, zsSt, zsInc, zsBI, zsBL, zsSL, zsUn, zsCmp, zsDup, zsDup2, zsPop, zsPop2, zsJn, zsTsw, zsLsw, zsGet, zsPut, zsAld, zsAst, zsLen, zsNewa, zsCal, zsRet, zsCst, zsAcp, zsOini, zsCln, zsLco, zsThr, zxBI, zxBL, zxSL, zxU, zset1, zset2, zclr, zcat, zmake_mk, zcomp, zH_i, zH_l, zH_r, zH_u, zH_n, List.set_cons_zero, List.set_cons_succ, List.getElem?_cons_zero, List.getElem?_cons_succ, List.length_cons, List.length_nil, List.take_succ_cons, List.take_zero, List.drop_succ_cons, List.drop_zero, List.reverse_cons, List.reverse_nil, List.nil_append, List.cons_append, List.map_cons, List.map_nil, List.sum_cons, List.sum_nil, Option.toList_some, Option.toList_none, Value.category, Nat.reduceAdd, Nat.reduceMul, Nat.reduceMod, Nat.reduceDiv, Nat.reduceSub, Nat.reduceLT, Nat.reduceLeDiff, Nat.reduceEqDiff, Nat.zero_le, Nat.le_refl, Int32.reduceToNatClampNeg, Int32.reduceLT, Int32.reduceLE, Int32.reduceAdd, Int32.reduceSub, Int32.reduceMul, ↓reduceIte, reduceCtorEq, Nat.add_zero, Nat.zero_add, true_or, or_true, false_or, or_false, true_and, and_true, false_and, and_false, not_true_eq_false, not_false_eq_true, if_true, if_false, true_implies, false_implies, implies_true, forall_const, false_imp_iff, true_imp_iff, va_rf, zlay, zent, List.replicate_zero, List.append_nil, List.replicate_succ, List.length_append, ne_eq, Option.some.injEq, Value.int.injEq, Value.long.injEq, Int32.reduceOfNat, Int32.reduceToInt, Int.reduceLT, Int.reduceLE, Int.reduceSub, Int.reduceToNat, Int.reduceAdd, Int.reduceNeg, Int32.reduceDiv, Int64.reduceAdd, Int64.reduceSub, lg_cmp_ge, lg_cmp_le, lg_cmp_gt, lg_cmp_lt, lg_cmp_eq, wlt_t, wlt_f, wle_t, wle_f, wmod, wI_lt, wI_le, wI_eq, wI_neg, wI_pos, wI_cl, wI_ge, wI_po, w64_lt, w64_le, w64_eq, w64_lt0, w64_le0, w64_eq0, w64_32, zc317, zc319, wI_add, wI_a1, wI_s1, wI_e0, wI_m8, wI_m128, wI_m64, wI_m190, not_true_eq_false, not_false_eq_true, sP_3118_19 hS, sP_3118_20 hS, sN_3567 hS, sN_3600 hS, sN_6417 hS]
            exact hQ⟩ hs (zInv_thr hI)
        · by_cases hv2 : 4611686018427387904 < v
          · exact zAskI_two ⟨-1, fun Q hQ => by
              simp (decide := true) (disch := omega) only [x1, e1, hv, hv2, zi45, zt45, zo45_0, zo45_1, zo45_2, zo45_3, zi159, zt159, zo159_0, zo159_1, zo159_2, zy_ldI, zy_ldL, zy_ldA, zy_stI, zy_stL, zy_stA, zy_cI, zy_cL, zy_nul, zy_inc, zy_bI, zy_bL, zy_sL, zy_un, zy_cmp, zy_dup, zy_dup2, zy_pop, zy_pop2, zy_jn, zy_jnn, zy_go, zy_fal, zy_tsw, zy_lsw, zy_get, zy_put, zy_ald, zy_ast, zy_len, zy_newa, zy_new, zy_cal, zy_ret, zy_tak, zy_cst, zy_acp, zy_oini, zy_cln, zy_thr, zy_bad, zy_lco, zy_if0, zy_ic0, zy_if1, zy_ic1, zy_if2, zy_ic2, zy_if3, zy_ic3, zy_if4, zy_ic4, zy_if5, zy_ic5, zK_go, zK_to, zK_end, zK_callH, zK_iteC, zK_none, zsLd, zsSt, zsInc, zsBI, zsBL, zsSL, zsUn, zsCmp, zsDup, zsDup2, zsPop, zsPop2, zsJn, zsTsw, zsLsw, zsGet, zsPut, zsAld, zsAst, zsLen, zsNewa, zsCal, zsRet, zsCst, zsAcp, zsOini, zsCln, zsLco, zsThr, zxBI, zxBL, zxSL, zxU, zset1, zset2, zclr, zcat, zmake_mk, zcomp, zH_i, zH_l, zH_r, zH_u, zH_n, List.set_cons_zero, List.set_cons_succ, List.getElem?_cons_zero, List.getElem?_cons_succ, List.length_cons, List.length_nil, List.take_succ_cons, List.take_zero, List.drop_succ_cons, List.drop_zero, List.reverse_cons, List.reverse_nil, List.nil_append, List.cons_append, List.map_cons, List.map_nil, List.sum_cons, List.sum_nil, Option.toList_some, Option.toList_none, Value.category, Nat.reduceAdd, Nat.reduceMul, Nat.reduceMod, Nat.reduceDiv, Nat.reduceSub, Nat.reduceLT, Nat.reduceLeDiff, Nat.reduceEqDiff, Nat.zero_le, Nat.le_refl, Int32.reduceToNatClampNeg, Int32.reduceLT, Int32.reduceLE, Int32.reduceAdd, Int32.reduceSub, Int32.reduceMul, ↓reduceIte, reduceCtorEq, Nat.add_zero, Nat.zero_add, true_or, or_true, false_or, or_false, true_and, and_true, false_and, and_false, not_true_eq_false, not_false_eq_true, if_true, if_false, true_implies, false_implies, implies_true, forall_const, false_imp_iff, true_imp_iff, va_rf, zlay, zent, List.replicate_zero, List.append_nil, List.replicate_succ, List.length_append, ne_eq, Option.some.injEq, Value.int.injEq, Value.long.injEq, Int32.reduceOfNat, Int32.reduceToInt, Int.reduceLT, Int.reduceLE, Int.reduceSub, Int.reduceToNat, Int.reduceAdd, Int.reduceNeg, Int32.reduceDiv, Int64.reduceAdd, Int64.reduceSub, lg_cmp_ge, lg_cmp_le, lg_cmp_gt, lg_cmp_lt, lg_cmp_eq, wlt_t, wlt_f, wle_t, wle_f, wmod, wI_lt, wI_le, wI_eq, wI_neg, wI_pos, wI_cl, wI_ge, wI_po, w64_lt, w64_le, w64_eq, w64_lt0, w64_le0, w64_eq0, w64_32, zc317, zc319, wI_add, wI_a1, wI_s1, wI_e0, wI_m8, wI_m128, wI_m64, wI_m190, not_true_eq_false, not_false_eq_true, sP_11_4 hS, sP_2115_0 hS, sN_2164 hS, sN_6417 hS]
              exact hQ, fun Q hQ => by
              simp (decide := true) (disch := omega) only [hb, e2, hv, hv2, zuR_ne, zu_nj, zi255, zt255, zo255_0, zo255_1, zo255_2, zy_ldI, zy_ldL, zy_ldA, zy_stI, zy_stL, zy_stA, zy_cI, zy_cL, zy_nul, zy_inc, zy_bI, zy_bL, zy_sL, zy_un, zy_cmp, zy_dup, zy_dup2, zy_pop, zy_pop2, zy_jn, zy_jnn, zy_go, zy_fal, zy_tsw, zy_lsw, zy_get, zy_put, zy_ald, zy_ast, zy_len, zy_newa, zy_new, zy_cal, zy_ret, zy_tak, zy_cst, zy_acp, zy_oini, zy_cln, zy_thr, zy_bad, zy_lco, zy_if0, zy_ic0, zy_if1, zy_ic1, zy_if2, zy_ic2, zy_if3, zy_ic3, zy_if4, zy_ic4, zy_if5, zy_ic5, zK_go, zK_to, zK_end, zK_callH, zK_iteC, zK_none, zsLd, zsSt, zsInc, zsBI, zsBL, zsSL, zsUn, zsCmp, zsDup, zsDup2, zsPop, zsPop2, zsJn, zsTsw, zsLsw, zsGet, zsPut, zsAld, zsAst, zsLen, zsNewa, zsCal, zsRet, zsCst, zsAcp, zsOini, zsCln, zsLco, zsThr, zxBI, zxBL, zxSL, zxU, zset1, zset2, zclr, zcat, zmake_mk, zcomp, zH_i, zH_l, zH_r, zH_u, zH_n, List.set_cons_zero, List.set_cons_succ, List.getElem?_cons_zero, List.getElem?_cons_succ, List.length_cons, List.length_nil, List.take_succ_cons, List.take_zero, List.drop_succ_cons, List.drop_zero, List.reverse_cons, List.reverse_nil, List.nil_append, List.cons_append, List.map_cons, List.map_nil, List.sum_cons, List.sum_nil, Option.toList_some, Option.toList_none, Value.category, Nat.reduceAdd, Nat.reduceMul, Nat.reduceMod, Nat.reduceDiv, Nat.reduceSub, Nat.reduceLT, Nat.reduceLeDiff, Nat.reduceEqDiff, Nat.zero_le, Nat.le_refl, Int32.reduceToNatClampNeg, Int32.reduceLT, Int32.reduceLE, Int32.reduceAdd, Int32.reduceSub, Int32.reduceMul, ↓reduceIte, reduceCtorEq, Nat.add_zero, Nat.zero_add, true_or, or_true, false_or, or_false, true_and, and_true, false_and, and_false, not_true_eq_false, not_false_eq_true, if_true, if_false, true_implies, false_implies, implies_true, forall_const, false_imp_iff, true_imp_iff, va_rf, zlay, zent, List.replicate_zero, List.append_nil, List.replicate_succ, List.length_append, ne_eq, Option.some.injEq, Value.int.injEq, Value.long.injEq, Int32.reduceOfNat, Int32.reduceToInt, Int.reduceLT, Int.reduceLE, Int.reduceSub, Int.reduceToNat, Int.reduceAdd, Int.reduceNeg, Int32.reduceDiv, Int64.reduceAdd, Int64.reduceSub, lg_cmp_ge, lg_cmp_le, lg_cmp_gt, lg_cmp_lt, lg_cmp_eq, wlt_t, wlt_f, wle_t, wle_f, wmod, wI_lt, wI_le, wI_eq, wI_neg, wI_pos, wI_cl, wI_ge, wI_po, w64_lt, w64_le, w64_eq, w64_lt0, w64_le0, w64_eq0, w64_32, zc317, zc319, wI_add, wI_a1, wI_s1, wI_e0, wI_m8, wI_m128, wI_m64, wI_m190, not_true_eq_false, not_false_eq_true, sP_3118_19 hS, sP_3118_20 hS, sN_3567 hS, sN_3600 hS, sN_6417 hS]
              exact hQ⟩ hs (zInv_thr hI)
          · have q1 := m46 (z := z) (p := 0) (x := 0) hS (by omega) b2 v1 O W
            have q2 := m252 (I := zu I 3118 63 0) (J := J) (n := n) (z := z) (m := m) (h := h) (g := g) (p := 0) (x := 0) hS b2 (by omega) (by simp (decide := true) only [zu, w1, ↓reduceIte]) (by simp (decide := true) only [zu, w3, ↓reduceIte]) (fun k hk => by simp (decide := true) only [zuR_ne]; exact ⟨(O.1 k hk).2.2.1.1, (O.1 k hk).2.2.2.2.1.1⟩)
            simp (decide := true) only [zuR_ne] at q2
            have e5 : zsJ (J 3697) (h + 1) = 0 := by
              rw [g1]
              show 0 + J 3697 0 = 0
              rw [g3]
              rfl
            have hC := C.2 (h + 1) (Nat.le_refl _) 0 0
            rw [if_pos ⟨rfl, rfl⟩, g1] at hC
            have e6 : zPts J (0 + 1) = 0 := by
              show 0 + (J 3697 0).toInt = 0
              rw [g3]
              rfl
            rw [e6] at hC
            have hT := zLt_toInt (p := 0) (x := 0) (by omega) W (by rw [g1]; exact Int.le_trans (by rw [Int.add_zero]; exact Int.le_refl _) hC) m (Nat.le_refl m)
            have hT0 := (zTot_le (p := 0) (x := 0) (t := (h : Int) + 1) W 0 m (Nat.le_refl m)).1
            rw [g1] at hT hT0
            have hT1 : (zLt (I 3664) (zHd (I 3472) (J 3505) (J 3537) (g 6) 0 0) m).toInt ≤ 4611686018427387904 := by rw [hT]; exact Int.le_trans (by rw [Int.add_zero]; exact Int.le_refl _) hC
            rw [← hT] at hT0
            have hacc := acc_iff ⟨hT0, hT1⟩ (Int64.not_lt.1 hv) (Int64.not_lt.1 hv2)
            generalize hTT : zLt (I 3664) (zHd (I 3472) (J 3505) (J 3537) (g 6) 0 0) m = TT at q1 q2 hacc hT
            by_cases hm : m = 1024
            · have e7 : (nI m < 1024) = False := by rw [show (1024 : Int32) = nI 1024 from rfl, wI_lt (by omega) (by decide)]; exact eq_false (by omega)
              have e8 : (nI m = 1024) = True := by rw [hm]; exact eq_true rfl
              refine zAskI_two ⟨-1, fun Q hQ => by
                simp (decide := true) (disch := omega) only [x1, e1, hv, hv2, v1, e7, zi45, zt45, zo45_0, zo45_1, zo45_2, zo45_3, zi159, zt159, zo159_0, zo159_1, zo159_2, zy_ldI, zy_ldL, zy_ldA, zy_stI, zy_stL, zy_stA, zy_cI, zy_cL, zy_nul, zy_inc, zy_bI, zy_bL, zy_sL, zy_un, zy_cmp, zy_dup, zy_dup2, zy_pop, zy_pop2, zy_jn, zy_jnn, zy_go, zy_fal, zy_tsw, zy_lsw, zy_get, zy_put, zy_ald, zy_ast, zy_len, zy_newa, zy_new, zy_cal, zy_ret, zy_tak, zy_cst, zy_acp, zy_oini, zy_cln, zy_thr, zy_bad, zy_lco, zy_if0, zy_ic0, zy_if1, zy_ic1, zy_if2, zy_ic2, zy_if3, zy_ic3, zy_if4, zy_ic4, zy_if5, zy_ic5, zK_go, zK_to, zK_end, zK_callH, zK_iteC, zK_none, zsLd, zsSt, zsInc, zsBI, zsBL, zsSL, zsUn, zsCmp, zsDup, zsDup2, zsPop, zsPop2, zsJn, zsTsw, zsLsw, zsGet, zsPut, zsAld, zsAst, zsLen, zsNewa, zsCal, zsRet, zsCst, zsAcp, zsOini, zsCln, zsLco, zsThr, zxBI, zxBL, zxSL, zxU, zset1, zset2, zclr, zcat, zmake_mk, zcomp, zH_i, zH_l, zH_r, zH_u, zH_n, List.set_cons_zero, List.set_cons_succ, List.getElem?_cons_zero, List.getElem?_cons_succ, List.length_cons, List.length_nil, List.take_succ_cons, List.take_zero, List.drop_succ_cons, List.drop_zero, List.reverse_cons, List.reverse_nil, List.nil_append, List.cons_append, List.map_cons, List.map_nil, List.sum_cons, List.sum_nil, Option.toList_some, Option.toList_none, Value.category, Nat.reduceAdd, Nat.reduceMul, Nat.reduceMod, Nat.reduceDiv, Nat.reduceSub, Nat.reduceLT, Nat.reduceLeDiff, Nat.reduceEqDiff, Nat.zero_le, Nat.le_refl, Int32.reduceToNatClampNeg, Int32.reduceLT, Int32.reduceLE, Int32.reduceAdd, Int32.reduceSub, Int32.reduceMul, ↓reduceIte, reduceCtorEq, Nat.add_zero, Nat.zero_add, true_or, or_true, false_or, or_false, true_and, and_true, false_and, and_false, not_true_eq_false, not_false_eq_true, if_true, if_false, true_implies, false_implies, implies_true, forall_const, false_imp_iff, true_imp_iff, va_rf, zlay, zent, List.replicate_zero, List.append_nil, List.replicate_succ, List.length_append, ne_eq, Option.some.injEq, Value.int.injEq, Value.long.injEq, Int32.reduceOfNat, Int32.reduceToInt, Int.reduceLT, Int.reduceLE, Int.reduceSub, Int.reduceToNat, Int.reduceAdd, Int.reduceNeg, Int32.reduceDiv, Int64.reduceAdd, Int64.reduceSub, lg_cmp_ge, lg_cmp_le, lg_cmp_gt, lg_cmp_lt, lg_cmp_eq, wlt_t, wlt_f, wle_t, wle_f, wmod, wI_lt, wI_le, wI_eq, wI_neg, wI_pos, wI_cl, wI_ge, wI_po, w64_lt, w64_le, w64_eq, w64_lt0, w64_le0, w64_eq0, w64_32, zc317, zc319, wI_add, wI_a1, wI_s1, wI_e0, wI_m8, wI_m128, wI_m64, wI_m190, not_true_eq_false, not_false_eq_true, sP_11_4 hS, sP_2115_0 hS, sN_2164 hS, sN_6417 hS]
                exact hQ, fun Q hQ => ?_⟩ hs (zInv_thr hI)
              by_cases hc : 4611686018427387904 - TT < v
              · simp (decide := true) (disch := omega) only [hb, e2, hv, hv2, zuR_ne, zu_nj, q2, e5, Int64.zero_add, hc, zi255, zt255, zo255_0, zo255_1, zo255_2, zy_ldI, zy_ldL, zy_ldA, zy_stI, zy_stL, zy_stA, zy_cI, zy_cL, zy_nul, zy_inc, zy_bI, zy_bL, zy_sL, zy_un, zy_cmp, zy_dup, zy_dup2, zy_pop, zy_pop2, zy_jn, zy_jnn, zy_go, zy_fal, zy_tsw, zy_lsw, zy_get, zy_put, zy_ald, zy_ast, zy_len, zy_newa, zy_new, zy_cal, zy_ret, zy_tak, zy_cst, zy_acp, zy_oini, zy_cln, zy_thr, zy_bad, zy_lco, zy_if0, zy_ic0, zy_if1, zy_ic1, zy_if2, zy_ic2, zy_if3, zy_ic3, zy_if4, zy_ic4, zy_if5, zy_ic5, zK_go, zK_to, zK_end, zK_callH, zK_iteC, zK_none, zsLd, zsSt, zsInc, zsBI, zsBL, zsSL, zsUn, zsCmp, zsDup, zsDup2, zsPop, zsPop2, zsJn, zsTsw, zsLsw, zsGet, zsPut, zsAld, zsAst, zsLen, zsNewa, zsCal, zsRet, zsCst, zsAcp, zsOini, zsCln, zsLco, zsThr, zxBI, zxBL, zxSL, zxU, zset1, zset2, zclr, zcat, zmake_mk, zcomp, zH_i, zH_l, zH_r, zH_u, zH_n, List.set_cons_zero, List.set_cons_succ, List.getElem?_cons_zero, List.getElem?_cons_succ, List.length_cons, List.length_nil, List.take_succ_cons, List.take_zero, List.drop_succ_cons, List.drop_zero, List.reverse_cons, List.reverse_nil, List.nil_append, List.cons_append, List.map_cons, List.map_nil, List.sum_cons, List.sum_nil, Option.toList_some, Option.toList_none, Value.category, Nat.reduceAdd, Nat.reduceMul, Nat.reduceMod, Nat.reduceDiv, Nat.reduceSub, Nat.reduceLT, Nat.reduceLeDiff, Nat.reduceEqDiff, Nat.zero_le, Nat.le_refl, Int32.reduceToNatClampNeg, Int32.reduceLT, Int32.reduceLE, Int32.reduceAdd, Int32.reduceSub, Int32.reduceMul, ↓reduceIte, reduceCtorEq, Nat.add_zero, Nat.zero_add, true_or, or_true, false_or, or_false, true_and, and_true, false_and, and_false, not_true_eq_false, not_false_eq_true, if_true, if_false, true_implies, false_implies, implies_true, forall_const, false_imp_iff, true_imp_iff, va_rf, zlay, zent, List.replicate_zero, List.append_nil, List.replicate_succ, List.length_append, ne_eq, Option.some.injEq, Value.int.injEq, Value.long.injEq, Int32.reduceOfNat, Int32.reduceToInt, Int.reduceLT, Int.reduceLE, Int.reduceSub, Int.reduceToNat, Int.reduceAdd, Int.reduceNeg, Int32.reduceDiv, Int64.reduceAdd, Int64.reduceSub, lg_cmp_ge, lg_cmp_le, lg_cmp_gt, lg_cmp_lt, lg_cmp_eq, wlt_t, wlt_f, wle_t, wle_f, wmod, wI_lt, wI_le, wI_eq, wI_neg, wI_pos, wI_cl, wI_ge, wI_po, w64_lt, w64_le, w64_eq, w64_lt0, w64_le0, w64_eq0, w64_32, zc317, zc319, wI_add, wI_a1, wI_s1, wI_e0, wI_m8, wI_m128, wI_m64, wI_m190, not_true_eq_false, not_false_eq_true, sP_3118_19 hS, sP_3118_20 hS, sN_3567 hS, sN_3600 hS, sN_6417 hS]
                exact hQ
              · simp (decide := true) (disch := omega) only [hb, e2, hv, hv2, zuR_ne, zu_nj, q2, e5, Int64.zero_add, hc, w1, e8, zi255, zt255, zo255_0, zo255_1, zo255_2, zy_ldI, zy_ldL, zy_ldA, zy_stI, zy_stL, zy_stA, zy_cI, zy_cL, zy_nul, zy_inc, zy_bI, zy_bL, zy_sL, zy_un, zy_cmp, zy_dup, zy_dup2, zy_pop, zy_pop2, zy_jn, zy_jnn, zy_go, zy_fal, zy_tsw, zy_lsw, zy_get, zy_put, zy_ald, zy_ast, zy_len, zy_newa, zy_new, zy_cal, zy_ret, zy_tak, zy_cst, zy_acp, zy_oini, zy_cln, zy_thr, zy_bad, zy_lco, zy_if0, zy_ic0, zy_if1, zy_ic1, zy_if2, zy_ic2, zy_if3, zy_ic3, zy_if4, zy_ic4, zy_if5, zy_ic5, zK_go, zK_to, zK_end, zK_callH, zK_iteC, zK_none, zsLd, zsSt, zsInc, zsBI, zsBL, zsSL, zsUn, zsCmp, zsDup, zsDup2, zsPop, zsPop2, zsJn, zsTsw, zsLsw, zsGet, zsPut, zsAld, zsAst, zsLen, zsNewa, zsCal, zsRet, zsCst, zsAcp, zsOini, zsCln, zsLco, zsThr, zxBI, zxBL, zxSL, zxU, zset1, zset2, zclr, zcat, zmake_mk, zcomp, zH_i, zH_l, zH_r, zH_u, zH_n, List.set_cons_zero, List.set_cons_succ, List.getElem?_cons_zero, List.getElem?_cons_succ, List.length_cons, List.length_nil, List.take_succ_cons, List.take_zero, List.drop_succ_cons, List.drop_zero, List.reverse_cons, List.reverse_nil, List.nil_append, List.cons_append, List.map_cons, List.map_nil, List.sum_cons, List.sum_nil, Option.toList_some, Option.toList_none, Value.category, Nat.reduceAdd, Nat.reduceMul, Nat.reduceMod, Nat.reduceDiv, Nat.reduceSub, Nat.reduceLT, Nat.reduceLeDiff, Nat.reduceEqDiff, Nat.zero_le, Nat.le_refl, Int32.reduceToNatClampNeg, Int32.reduceLT, Int32.reduceLE, Int32.reduceAdd, Int32.reduceSub, Int32.reduceMul, ↓reduceIte, reduceCtorEq, Nat.add_zero, Nat.zero_add, true_or, or_true, false_or, or_false, true_and, and_true, false_and, and_false, not_true_eq_false, not_false_eq_true, if_true, if_false, true_implies, false_implies, implies_true, forall_const, false_imp_iff, true_imp_iff, va_rf, zlay, zent, List.replicate_zero, List.append_nil, List.replicate_succ, List.length_append, ne_eq, Option.some.injEq, Value.int.injEq, Value.long.injEq, Int32.reduceOfNat, Int32.reduceToInt, Int.reduceLT, Int.reduceLE, Int.reduceSub, Int.reduceToNat, Int.reduceAdd, Int.reduceNeg, Int32.reduceDiv, Int64.reduceAdd, Int64.reduceSub, lg_cmp_ge, lg_cmp_le, lg_cmp_gt, lg_cmp_lt, lg_cmp_eq, wlt_t, wlt_f, wle_t, wle_f, wmod, wI_lt, wI_le, wI_eq, wI_neg, wI_pos, wI_cl, wI_ge, wI_po, w64_lt, w64_le, w64_eq, w64_lt0, w64_le0, w64_eq0, w64_32, zc317, zc319, wI_add, wI_a1, wI_s1, wI_e0, wI_m8, wI_m128, wI_m64, wI_m190, not_true_eq_false, not_false_eq_true, sP_3118_19 hS, sP_3118_20 hS, sN_3567 hS, sN_3600 hS, sN_6417 hS]
                exact hQ
            · have e7 : (nI m < 1024) = True := by rw [show (1024 : Int32) = nI 1024 from rfl, wI_lt (by omega) (by decide)]; exact eq_true (by omega)
              have e8 : (nI m = 1024) = False := by rw [show (1024 : Int32) = nI 1024 from rfl, wI_eq (by omega) (by decide)]; exact eq_false hm
              by_cases hc : 4611686018427387904 - TT < v
              · have hc2 : ¬ TT ≤ 4611686018427387904 - v := by rw [hacc]; exact fun h => h hc
                refine zAskI_two ⟨-1, fun Q hQ => by
                  simp (decide := true) (disch := omega) only [x1, e1, hv, hv2, v1, e7, q1, hc2, zi45, zt45, zo45_0, zo45_1, zo45_2, zo45_3, zi159, zt159, zo159_0, zo159_1, zo159_2, zy_ldI, zy_ldL, zy_ldA, zy_stI, zy_stL, zy_stA, zy_cI, zy_cL, zy_nul, zy_inc, zy_bI, zy_bL, zy_sL, zy_un, zy_cmp, zy_dup, zy_dup2, zy_pop, zy_pop2, zy_jn, zy_jnn, zy_go, zy_fal, zy_tsw, zy_lsw, zy_get, zy_put, zy_ald, zy_ast, zy_len, zy_newa, zy_new, zy_cal, zy_ret, zy_tak, zy_cst, zy_acp, zy_oini, zy_cln, zy_thr, zy_bad, zy_lco, zy_if0, zy_ic0, zy_if1, zy_ic1, zy_if2, zy_ic2, zy_if3, zy_ic3, zy_if4, zy_ic4, zy_if5, zy_ic5, zK_go, zK_to, zK_end, zK_callH, zK_iteC, zK_none, zsLd, zsSt, zsInc, zsBI, zsBL, zsSL, zsUn, zsCmp, zsDup, zsDup2, zsPop, zsPop2, zsJn, zsTsw, zsLsw, zsGet, zsPut, zsAld, zsAst, zsLen, zsNewa, zsCal, zsRet, zsCst, zsAcp, zsOini, zsCln, zsLco, zsThr, zxBI, zxBL, zxSL, zxU, zset1, zset2, zclr, zcat, zmake_mk, zcomp, zH_i, zH_l, zH_r, zH_u, zH_n, List.set_cons_zero, List.set_cons_succ, List.getElem?_cons_zero, List.getElem?_cons_succ, List.length_cons, List.length_nil, List.take_succ_cons, List.take_zero, List.drop_succ_cons, List.drop_zero, List.reverse_cons, List.reverse_nil, List.nil_append, List.cons_append, List.map_cons, List.map_nil, List.sum_cons, List.sum_nil, Option.toList_some, Option.toList_none, Value.category, Nat.reduceAdd, Nat.reduceMul, Nat.reduceMod, Nat.reduceDiv, Nat.reduceSub, Nat.reduceLT, Nat.reduceLeDiff, Nat.reduceEqDiff, Nat.zero_le, Nat.le_refl, Int32.reduceToNatClampNeg, Int32.reduceLT, Int32.reduceLE, Int32.reduceAdd, Int32.reduceSub, Int32.reduceMul, ↓reduceIte, reduceCtorEq, Nat.add_zero, Nat.zero_add, true_or, or_true, false_or, or_false, true_and, and_true, false_and, and_false, not_true_eq_false, not_false_eq_true, if_true, if_false, true_implies, false_implies, implies_true, forall_const, false_imp_iff, true_imp_iff, va_rf, zlay, zent, List.replicate_zero, List.append_nil, List.replicate_succ, List.length_append, ne_eq, Option.some.injEq, Value.int.injEq, Value.long.injEq, Int32.reduceOfNat, Int32.reduceToInt, Int.reduceLT, Int.reduceLE, Int.reduceSub, Int.reduceToNat, Int.reduceAdd, Int.reduceNeg, Int32.reduceDiv, Int64.reduceAdd, Int64.reduceSub, lg_cmp_ge, lg_cmp_le, lg_cmp_gt, lg_cmp_lt, lg_cmp_eq, wlt_t, wlt_f, wle_t, wle_f, wmod, wI_lt, wI_le, wI_eq, wI_neg, wI_pos, wI_cl, wI_ge, wI_po, w64_lt, w64_le, w64_eq, w64_lt0, w64_le0, w64_eq0, w64_32, zc317, zc319, wI_add, wI_a1, wI_s1, wI_e0, wI_m8, wI_m128, wI_m64, wI_m190, not_true_eq_false, not_false_eq_true, sP_11_4 hS, sP_2115_0 hS, sN_2164 hS, sN_6417 hS]
                  exact hQ, fun Q hQ => by
                  simp (decide := true) (disch := omega) only [hb, e2, hv, hv2, zuR_ne, zu_nj, q2, e5, Int64.zero_add, hc, zi255, zt255, zo255_0, zo255_1, zo255_2, zy_ldI, zy_ldL, zy_ldA, zy_stI, zy_stL, zy_stA, zy_cI, zy_cL, zy_nul, zy_inc, zy_bI, zy_bL, zy_sL, zy_un, zy_cmp, zy_dup, zy_dup2, zy_pop, zy_pop2, zy_jn, zy_jnn, zy_go, zy_fal, zy_tsw, zy_lsw, zy_get, zy_put, zy_ald, zy_ast, zy_len, zy_newa, zy_new, zy_cal, zy_ret, zy_tak, zy_cst, zy_acp, zy_oini, zy_cln, zy_thr, zy_bad, zy_lco, zy_if0, zy_ic0, zy_if1, zy_ic1, zy_if2, zy_ic2, zy_if3, zy_ic3, zy_if4, zy_ic4, zy_if5, zy_ic5, zK_go, zK_to, zK_end, zK_callH, zK_iteC, zK_none, zsLd, zsSt, zsInc, zsBI, zsBL, zsSL, zsUn, zsCmp, zsDup, zsDup2, zsPop, zsPop2, zsJn, zsTsw, zsLsw, zsGet, zsPut, zsAld, zsAst, zsLen, zsNewa, zsCal, zsRet, zsCst, zsAcp, zsOini, zsCln, zsLco, zsThr, zxBI, zxBL, zxSL, zxU, zset1, zset2, zclr, zcat, zmake_mk, zcomp, zH_i, zH_l, zH_r, zH_u, zH_n, List.set_cons_zero, List.set_cons_succ, List.getElem?_cons_zero, List.getElem?_cons_succ, List.length_cons, List.length_nil, List.take_succ_cons, List.take_zero, List.drop_succ_cons, List.drop_zero, List.reverse_cons, List.reverse_nil, List.nil_append, List.cons_append, List.map_cons, List.map_nil, List.sum_cons, List.sum_nil, Option.toList_some, Option.toList_none, Value.category, Nat.reduceAdd, Nat.reduceMul, Nat.reduceMod, Nat.reduceDiv, Nat.reduceSub, Nat.reduceLT, Nat.reduceLeDiff, Nat.reduceEqDiff, Nat.zero_le, Nat.le_refl, Int32.reduceToNatClampNeg, Int32.reduceLT, Int32.reduceLE, Int32.reduceAdd, Int32.reduceSub, Int32.reduceMul, ↓reduceIte, reduceCtorEq, Nat.add_zero, Nat.zero_add, true_or, or_true, false_or, or_false, true_and, and_true, false_and, and_false, not_true_eq_false, not_false_eq_true, if_true, if_false, true_implies, false_implies, implies_true, forall_const, false_imp_iff, true_imp_iff, va_rf, zlay, zent, List.replicate_zero, List.append_nil, List.replicate_succ, List.length_append, ne_eq, Option.some.injEq, Value.int.injEq, Value.long.injEq, Int32.reduceOfNat, Int32.reduceToInt, Int.reduceLT, Int.reduceLE, Int.reduceSub, Int.reduceToNat, Int.reduceAdd, Int.reduceNeg, Int32.reduceDiv, Int64.reduceAdd, Int64.reduceSub, lg_cmp_ge, lg_cmp_le, lg_cmp_gt, lg_cmp_lt, lg_cmp_eq, wlt_t, wlt_f, wle_t, wle_f, wmod, wI_lt, wI_le, wI_eq, wI_neg, wI_pos, wI_cl, wI_ge, wI_po, w64_lt, w64_le, w64_eq, w64_lt0, w64_le0, w64_eq0, w64_32, zc317, zc319, wI_add, wI_a1, wI_s1, wI_e0, wI_m8, wI_m128, wI_m64, wI_m190, not_true_eq_false, not_false_eq_true, sP_3118_19 hS, sP_3118_20 hS, sN_3567 hS, sN_3600 hS, sN_6417 hS]
                  exact hQ⟩ hs (zInv_thr hI)
              · have hc2 : TT ≤ 4611686018427387904 - v := by rw [hacc]; exact hc
                refine zC_of (fun Q hQ => ?_)
                refine e159 (h := h) hS hr.1 x1 e1 hk' hv hv2 v1 (by omega) e7 q1 hc2 v3 (fun I1 J1 P1 N1 E => hQ _ _ ⟨_, rfl, ⟨?_, fun j => ?_, ?_⟩, ?_⟩)
                · exact (E.2.2.1.2.1 22 (by decide)).trans hs.1
                · exact (congrFun (E.2.1.1 22 (by decide) (by decide)) j).trans (hs.2.1 j)
                · exact (E.2.2.1.2.1 6417 (by decide)).trans hs.2.2
                · have hS' : zStat P1 N1 := zStat_c hS (fun a j h1 h2 _ _ => congrFun (E.2.2.1.2.2.1 a h1 h2) j) (fun a _ h2 => E.2.2.1.2.1 a h2)
                  have r0 := E.2.1.1 3118 (by decide) (by decide)
                  have r1 := E.2.1.1 3440 (by decide) (by decide)
                  have r2 := E.2.1.1 3664 (by decide) (by decide)
                  have r3 := E.2.1.1 3472 (by decide) (by decide)
                  have r4 := E.2.2.1.1 3505 (by decide)
                  have r5 := E.2.2.1.1 3537 (by decide)
                  have r6 := E.2.2.1.1 3697 (by decide)
                  have q3 := m252 (I := zu I1 3118 63 0) (J := J1) (P := P1) (N := N1) (n := n + 6) (z := z + 13) (m := m) (h := h) (g := g) (p := 0) (x := 0) hS' b2 (by omega) (by simp (decide := true) only [zu, r0, w1, ↓reduceIte]) (by simp (decide := true) only [zu, r0, w3, ↓reduceIte]) (fun k hk => by simp (decide := true) only [zuR_ne, r1]; exact ⟨(O.1 k hk).2.2.1.1, (O.1 k hk).2.2.2.2.1.1⟩)
                  simp (decide := true) only [zuR_ne, r2, r3, r4, r5, r6, hTT, e5, if_true, Int64.zero_add] at q3
                  refine zC_of (fun Q hQ => ?_)
                  refine e255 (e := e) (h := h) hS' (by rw [r0]; exact hb) e2 hk' hv hv2 (by rw [r0]; exact w1) (by rw [r0]; exact w2) (by rw [r0]; exact w3) (by omega) e8 q3 hc (fun I2 J2 F => hQ _ _ ⟨rfl, fin2 hs hS hk hr X hb (by omega) (by omega) (Int64.not_lt.1 hv) (Int64.not_lt.1 hv2) ?_ E F⟩)
                  have h9 := Int64.not_lt.1 hv
                  have h10 := Int64.not_lt.1 hv2
                  have hc9 := hc2
                  rw [Int64.le_iff_toInt_le] at h9 h10 hc9
                  have y1' : (4611686018427387904 : Int64).toInt = 4611686018427387904 := rfl
                  have y2' : (2 : Int64).toInt = 2 := rfl
                  rw [y1'] at h10
                  rw [y2'] at h9
                  rw [Int64.toInt_sub, y1', Int.bmod_eq_of_le (by omega) (by omega), hT] at hc9
                  have y3' : ((0 : Nat) : Int) + 1 = 1 := rfl
                  rw [y3'] at hc9
                  omega
  · have hb1 : ¬ I 11 10 = 0 := by rw [x1, hb]; decide
    have hb2 : ¬ I 3118 13 = 0 := by rw [hb]; decide
    exact zAskI_two ⟨-1, fun Q hQ => by
      simp (decide := true) (disch := omega) only [hb1, zi159, zt159, zo159_0, zo159_1, zo159_2, zy_ldI, zy_ldL, zy_ldA, zy_stI, zy_stL, zy_stA, zy_cI, zy_cL, zy_nul, zy_inc, zy_bI, zy_bL, zy_sL, zy_un, zy_cmp, zy_dup, zy_dup2, zy_pop, zy_pop2, zy_jn, zy_jnn, zy_go, zy_fal, zy_tsw, zy_lsw, zy_get, zy_put, zy_ald, zy_ast, zy_len, zy_newa, zy_new, zy_cal, zy_ret, zy_tak, zy_cst, zy_acp, zy_oini, zy_cln, zy_thr, zy_bad, zy_lco, zy_if0, zy_ic0, zy_if1, zy_ic1, zy_if2, zy_ic2, zy_if3, zy_ic3, zy_if4, zy_ic4, zy_if5, zy_ic5, zK_go, zK_to, zK_end, zK_callH, zK_iteC, zK_none, zsLd, zsSt, zsInc, zsBI, zsBL, zsSL, zsUn, zsCmp, zsDup, zsDup2, zsPop, zsPop2, zsJn, zsTsw, zsLsw, zsGet, zsPut, zsAld, zsAst, zsLen, zsNewa, zsCal, zsRet, zsCst, zsAcp, zsOini, zsCln, zsLco, zsThr, zxBI, zxBL, zxSL, zxU, zset1, zset2, zclr, zcat, zmake_mk, zcomp, zH_i, zH_l, zH_r, zH_u, zH_n, List.set_cons_zero, List.set_cons_succ, List.getElem?_cons_zero, List.getElem?_cons_succ, List.length_cons, List.length_nil, List.take_succ_cons, List.take_zero, List.drop_succ_cons, List.drop_zero, List.reverse_cons, List.reverse_nil, List.nil_append, List.cons_append, List.map_cons, List.map_nil, List.sum_cons, List.sum_nil, Option.toList_some, Option.toList_none, Value.category, Nat.reduceAdd, Nat.reduceMul, Nat.reduceMod, Nat.reduceDiv, Nat.reduceSub, Nat.reduceLT, Nat.reduceLeDiff, Nat.reduceEqDiff, Nat.zero_le, Nat.le_refl, Int32.reduceToNatClampNeg, Int32.reduceLT, Int32.reduceLE, Int32.reduceAdd, Int32.reduceSub, Int32.reduceMul, ↓reduceIte, reduceCtorEq, Nat.add_zero, Nat.zero_add, true_or, or_true, false_or, or_false, true_and, and_true, false_and, and_false, not_true_eq_false, not_false_eq_true, if_true, if_false, true_implies, false_implies, implies_true, forall_const, false_imp_iff, true_imp_iff, va_rf, zlay, zent, List.replicate_zero, List.append_nil, List.replicate_succ, List.length_append, ne_eq, Option.some.injEq, Value.int.injEq, Value.long.injEq, Int32.reduceOfNat, Int32.reduceToInt, Int.reduceLT, Int.reduceLE, Int.reduceSub, Int.reduceToNat, Int.reduceAdd, Int.reduceNeg, Int32.reduceDiv, Int64.reduceAdd, Int64.reduceSub, lg_cmp_ge, lg_cmp_le, lg_cmp_gt, lg_cmp_lt, lg_cmp_eq, wlt_t, wlt_f, wle_t, wle_f, wmod, wI_lt, wI_le, wI_eq, wI_neg, wI_pos, wI_cl, wI_ge, wI_po, w64_lt, w64_le, w64_eq, w64_lt0, w64_le0, w64_eq0, w64_32, zc317, zc319, wI_add, wI_a1, wI_s1, wI_e0, wI_m8, wI_m128, wI_m64, wI_m190, not_true_eq_false, not_false_eq_true, sP_11_4 hS, sN_6417 hS]
      exact hQ, fun Q hQ => by
      simp (decide := true) (disch := omega) only [hb2, zuR_ne, zu_nj, zi255, zt255, zo255_0, zo255_1, zo255_2, zy_ldI, zy_ldL, zy_ldA, zy_stI, zy_stL, zy_stA, zy_cI, zy_cL, zy_nul, zy_inc, zy_bI, zy_bL, zy_sL, zy_un, zy_cmp, zy_dup, zy_dup2, zy_pop, zy_pop2, zy_jn, zy_jnn, zy_go, zy_fal, zy_tsw, zy_lsw, zy_get, zy_put, zy_ald, zy_ast, zy_len, zy_newa, zy_new, zy_cal, zy_ret, zy_tak, zy_cst, zy_acp, zy_oini, zy_cln, zy_thr, zy_bad, zy_lco, zy_if0, zy_ic0, zy_if1, zy_ic1, zy_if2, zy_ic2, zy_if3, zy_ic3, zy_if4, zy_ic4, zy_if5, zy_ic5, zK_go, zK_to, zK_end, zK_callH, zK_iteC, zK_none, zsLd, zsSt, zsInc, zsBI, zsBL, zsSL, zsUn, zsCmp, zsDup, zsDup2, zsPop, zsPop2, zsJn, zsTsw, zsLsw, zsGet, zsPut, zsAld, zsAst, zsLen, zsNewa, zsCal, zsRet, zsCst, zsAcp, zsOini, zsCln, zsLco, zsThr, zxBI, zxBL, zxSL, zxU, zset1, zset2, zclr, zcat, zmake_mk, zcomp, zH_i, zH_l, zH_r, zH_u, zH_n, List.set_cons_zero, List.set_cons_succ, List.getElem?_cons_zero, List.getElem?_cons_succ, List.length_cons, List.length_nil, List.take_succ_cons, List.take_zero, List.drop_succ_cons, List.drop_zero, List.reverse_cons, List.reverse_nil, List.nil_append, List.cons_append, List.map_cons, List.map_nil, List.sum_cons, List.sum_nil, Option.toList_some, Option.toList_none, Value.category, Nat.reduceAdd, Nat.reduceMul, Nat.reduceMod, Nat.reduceDiv, Nat.reduceSub, Nat.reduceLT, Nat.reduceLeDiff, Nat.reduceEqDiff, Nat.zero_le, Nat.le_refl, Int32.reduceToNatClampNeg, Int32.reduceLT, Int32.reduceLE, Int32.reduceAdd, Int32.reduceSub, Int32.reduceMul, ↓reduceIte, reduceCtorEq, Nat.add_zero, Nat.zero_add, true_or, or_true, false_or, or_false, true_and, and_true, false_and, and_false, not_true_eq_false, not_false_eq_true, if_true, if_false, true_implies, false_implies, implies_true, forall_const, false_imp_iff, true_imp_iff, va_rf, zlay, zent, List.replicate_zero, List.append_nil, List.replicate_succ, List.length_append, ne_eq, Option.some.injEq, Value.int.injEq, Value.long.injEq, Int32.reduceOfNat, Int32.reduceToInt, Int.reduceLT, Int.reduceLE, Int.reduceSub, Int.reduceToNat, Int.reduceAdd, Int.reduceNeg, Int32.reduceDiv, Int64.reduceAdd, Int64.reduceSub, lg_cmp_ge, lg_cmp_le, lg_cmp_gt, lg_cmp_lt, lg_cmp_eq, wlt_t, wlt_f, wle_t, wle_f, wmod, wI_lt, wI_le, wI_eq, wI_neg, wI_pos, wI_cl, wI_ge, wI_po, w64_lt, w64_le, w64_eq, w64_lt0, w64_le0, w64_eq0, w64_32, zc317, zc319, wI_add, wI_a1, wI_s1, wI_e0, wI_m8, wI_m128, wI_m64, wI_m190, not_true_eq_false, not_false_eq_true, sP_3118_19 hS, sP_3118_20 hS, sN_3567 hS, sN_3600 hS, sN_6417 hS]
      exact hQ⟩ hs (zInv_thr hI)
end
