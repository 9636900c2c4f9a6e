-- needs: 01 02.names 03 04 05 18 19 20 22 23 24 25 30 31 32 33 35 36 37 40 42 43 44 45 46 47 60 61 62 63 64 65 66 67 68 69 79f 79g 79h 79i 79j 79k 79l 79m 79n 79o 79p 79q 79r 79s 79t 79u 79v 79w 79x 79y 79z. 79za 79zb 79zc 79zd 79ze 79zf 79zg 79zh 79zi 79zj 79zk 79zl 79zm 79zn 79zo 79zp 79zq 79zr 79zs 79zt 79zu 79zv 7a 7b 7c 7d 7e 7f 7g 7zl
/-! The CONTEXT, written by the class -/
/-- what the class has at a place -/
def yEc (I : zI) (J : zJ) (bt p f c : Nat) (t : Int64) (z : Nat) (y : Nat → Int32) : Prop := I 79 p = nI f ∧ I 112 p = nI c ∧ I 144 p = nI z ∧ J 209 p = t ∧ (f = 2 → ∃ q, I 176 p = nI q ∧ q + c ≤ bt ∧ ∀ i, i < c → I 239 (q + i) = y i)
theorem yCd_e {I : zI} {J : zJ} {nt bt b : Nat} {d : yD} (h : b + d.1 ≤ nt) (he : yEt (yEc I J bt) b d) : yCd I J nt bt b d := by
  obtain ⟨K, F, C, T, Z, L, Y⟩ := d
  refine ⟨h, fun j hj => ?_⟩
  obtain ⟨a1, a2, a3, a4, a5⟩ := he j hj
  exact ⟨⟨a1, a2, a3, a4⟩, a5⟩
/-- nodes have grown -/
def yNg (I : zI) (J : zJ) (I' : zI) (J' : zJ) (nt nt' : Nat) : Prop := ((∀ c, c ≠ 37 → c ≠ 79 → c ≠ 112 → c ≠ 144 → c ≠ 176 → I' c = I c) ∧ (∀ c, c ≠ 209 → J' c = J c) ∧ (∀ j, j ≠ 7 → I' 37 j = I 37 j)) ∧ (I' 37 7 = nI nt' ∧ nt ≤ nt') ∧ ∀ j, j < nt → I' 79 j = I 79 j ∧ I' 112 j = I 112 j ∧ I' 144 j = I 144 j ∧ I' 176 j = I 176 j ∧ J' 209 j = J 209 j
section
variable {I I' I'' I0 : zI} {J J' J'' J0 : zJ} {P : zP} {N : Nat → Nat} {n z nt nt' nt'' bt b : Nat} {Q : Option Value → zS → Prop}
theorem yNg_r (h7 : I 37 7 = nI nt) : yNg I J I J nt nt := ⟨⟨fun _ _ _ _ _ _ => rfl, fun _ _ => rfl, fun _ _ => rfl⟩, ⟨h7, Nat.le_refl _⟩, fun _ _ => ⟨rfl, rfl, rfl, rfl, rfl⟩⟩
theorem yNg_t (h : yNg I J I' J' nt nt') (h' : yNg I' J' I'' J'' nt' nt'') : yNg I J I'' J'' nt nt'' := by
  obtain ⟨⟨a1, a2, a3⟩, ⟨a4, a5⟩, a6⟩ := h
  obtain ⟨⟨b1, b2, b3⟩, ⟨b4, b5⟩, b6⟩ := h'
  refine ⟨⟨fun c x1 x2 x3 x4 x5 => (b1 c x1 x2 x3 x4 x5).trans (a1 c x1 x2 x3 x4 x5), fun c x => (b2 c x).trans (a2 c x), fun j x => (b3 j x).trans (a3 j x)⟩, ⟨b4, by omega⟩, fun j hj => ?_⟩
  obtain ⟨c1, c2, c3, c4, c5⟩ := a6 j hj
  obtain ⟨d1, d2, d3, d4, d5⟩ := b6 j (by omega)
  exact ⟨d1.trans c1, d2.trans c2, d3.trans c3, d4.trans c4, d5.trans c5⟩
theorem yEc_g {p f c : Nat} {t : Int64} {zz : Nat} {y : Nat → Int32} (h : yNg I J I' J' nt nt') (hp : p < nt) (he : yEc I J bt p f c t zz y) : yEc I' J' bt p f c t zz y := by
  obtain ⟨a1, a2, a3, a4, a5⟩ := he
  obtain ⟨d1, d2, d3, d4, d5⟩ := h.2.2 p hp
  refine ⟨d1.trans a1, d2.trans a2, d3.trans a3, d5.trans a4, fun hf => ?_⟩
  obtain ⟨q, q1, q2, q3⟩ := a5 hf
  exact ⟨q, d4.trans q1, q2, fun i hi => by rw [h.1.1 239 (by decide) (by decide) (by decide) (by decide) (by decide)]; exact q3 i hi⟩
theorem yEt_g {d : yD} (h : yNg I J I' J' nt nt') (hb : b + d.1 ≤ nt) (he : yEt (yEc I J bt) b d) : yEt (yEc I' J' bt) b d := yEt_m (fun p f c t zz y _ h2 => yEc_g h (by omega)) he
theorem yEl_g {ds : List yD} (h : yNg I J I' J' nt nt') (hb : b + yll ds ≤ nt) (he : yEl (yEc I J bt) b ds) : yEl (yEc I' J' bt) b ds := yEl_m ds b (fun p f c t zz y _ h2 => yEc_g h (by omega)) he
/-- one node more -/
theorem yNg_a {q ct pl : Int32} {nm : Int64} : yNg I J (zAd I nt q ct pl) (zu J 209 nt nm) nt (nt + 1) := by
  unfold zAd
  refine ⟨⟨fun c x1 x2 x3 x4 x5 => ?_, fun c x => zuR_ne x, fun j x => ?_⟩, ⟨zu_at, Nat.le_succ _⟩, fun j hj => ⟨?_, ?_, ?_, ?_, ?_⟩⟩
  · simp only [zuR_ne x1, zuR_ne x2, zuR_ne x3, zuR_ne x4, zuR_ne x5]
  · rw [zu_nj x, zuR_ne (by decide), zuR_ne (by decide), zuR_ne (by decide), zuR_ne (by decide)]
  all_goals simp (disch := omega) only [zuR_ne, zu_nj]
theorem zAd_at {q ct pl : Int32} : zAd I nt q ct pl 79 nt = q ∧ zAd I nt q ct pl 112 nt = ct ∧ zAd I nt q ct pl 144 nt = 1 ∧ zAd I nt q ct pl 37 7 = nI (nt + 1) := by
  unfold zAd
  simp (disch := omega) only [zuR_ne, zu_nj, zu_at, and_self]
/-- an INTEGER more -/
theorem yEt_i {x : Int64} {pl : Int32} : yEt (yEc (zAd I nt 0 0 pl) (zu J 209 nt x) bt) nt (yint x) := by
  intro j hj
  have hj : j < 1 := hj
  obtain rfl : j = 0 := by omega
  obtain ⟨a1, a2, a3, -⟩ := zAd_at (I := I) (nt := nt) (q := 0) (ct := 0) (pl := pl)
  exact ⟨a1, a2, a3, zu_at, fun h => by cases h⟩
/-- a node gets its size -/
theorem yNg_e {v : Int32} (h : yNg I J I' J' nt nt') : yNg I J (zu I' 144 nt v) J' nt nt' := by
  obtain ⟨⟨a1, a2, a3⟩, ⟨a4, a5⟩, a6⟩ := h
  refine ⟨⟨fun c x1 x2 x3 x4 x5 => by rw [zuR_ne x4, a1 c x1 x2 x3 x4 x5], a2, fun j x => by rw [zuR_ne (by decide), a3 j x]⟩, ⟨by rw [zuR_ne (by decide), a4], a5⟩, fun j hj => ?_⟩
  rw [zuR_ne (by decide), zuR_ne (by decide), zu_nj (by omega), zuR_ne (by decide)]
  exact a6 j hj
theorem yEl_e {v : Int32} {ds : List yD} (hb : nt < b) (he : yEl (yEc I J bt) b ds) : yEl (yEc (zu I 144 nt v) J bt) b ds := by
  refine yEl_m ds b (fun p f c t zz y h1 _ h => ?_) he
  obtain ⟨a1, a2, a3, a4, a5⟩ := h
  refine ⟨by rw [zuR_ne (by decide)]; exact a1, by rw [zuR_ne (by decide)]; exact a2, by rw [zu_nj (by omega)]; exact a3, a4, fun hf => ?_⟩
  obtain ⟨q, q1, q2, q3⟩ := a5 hf
  exact ⟨q, by rw [zuR_ne (by decide)]; exact q1, q2, fun i hi => by rw [zuR_ne (by decide)]; exact q3 i hi⟩
set_option maxRecDepth 20000 in
theorem m90 {tp : Nat} {x : Int64} (hS : zStat P N) (ht : tp < 3801) (h7 : I 37 7 = nI tp) (Q : Option Value → zS → Prop) : zC 90 [.ref 37, .long x] (I, J, P, N, n, z) Q = Q (some (.int (nI tp))) (zAd I tp 0 0 0, zu J 209 tp x, P, N, n, z) := by
  refine zC_eq (fun Q hQ => ?_) Q
  have q89 := fun (Q : Option Value → zS → Prop) => m89 (I := I) (J := J) (n := n) (z := z) (q := 0) (tp := tp) (ct := 0) (pl := 0) (nm := x) hS (by decide) ht h7 Q
  have q89 : ∀ Q, zC 89 [.ref 37, .int 0, .int 0, .long x, .int 0] (I, J, P, N, n, z) Q = Q (some (.int (nI tp))) (zAd I tp 0 0 0, zu J 209 tp x, P, N, n, z) := q89
  simp (decide := true) (disch := omega) only [q89, zi90, zt90, zo90_0, zy_ldI, zy_ldL, zy_ldA, zy_stI, zy_stL, zy_stA, zy_cI, zy_cL, zy_nul, zy_inc, zy_bI, zy_bL, zy_sL, zy_un, zy_cmp, zy_dup, zy_dup2, zy_pop, zy_pop2, zy_jn, zy_jnn, zy_go, zy_fal, zy_tsw, zy_lsw, zy_get, zy_put, zy_ald, zy_ast, zy_len, zy_newa, zy_new, zy_cal, zy_ret, zy_tak, zy_cst, zy_acp, zy_oini, zy_cln, zy_thr, zy_bad, zy_lco, zy_if0, zy_ic0, zy_if1, zy_ic1, zy_if2, zy_ic2, zy_if3, zy_ic3, zy_if4, zy_ic4, zy_if5, zy_ic5, zK_go, zK_to, zK_end, zK_callH, zK_iteC, zK_none, zsLd, zsSt, zsInc, zsBI, zsBL, zsSL, zsUn, zsCmp, zsDup, zsDup2, zsPop, zsPop2, zsJn, zsTsw, zsLsw, zsGet, zsPut, zsAld, zsAst, zsLen, zsNewa, zsCal, zsRet, zsCst, zsAcp, zsOini, zsCln, zsLco, zsThr, zxBI, zxBL, zxSL, zxU, zset1, zset2, zclr, zcat, zmake_mk, zcomp, zH_i, zH_l, zH_r, zH_u, zH_n, List.set_cons_zero, List.set_cons_succ, List.getElem?_cons_zero, List.getElem?_cons_succ, List.length_cons, List.length_nil, List.take_succ_cons, List.take_zero, List.drop_succ_cons, List.drop_zero, List.reverse_cons, List.reverse_nil, List.nil_append, List.cons_append, List.map_cons, List.map_nil, List.sum_cons, List.sum_nil, Option.toList_some, Option.toList_none, Value.category, Nat.reduceAdd, Nat.reduceMul, Nat.reduceMod, Nat.reduceDiv, Nat.reduceSub, Nat.reduceLT, Nat.reduceLeDiff, Nat.reduceEqDiff, Nat.zero_le, Nat.le_refl, Int32.reduceToNatClampNeg, Int32.reduceLT, Int32.reduceLE, Int32.reduceAdd, Int32.reduceSub, Int32.reduceMul, ↓reduceIte, reduceCtorEq, Nat.add_zero, Nat.zero_add, true_or, or_true, false_or, or_false, true_and, and_true, false_and, and_false, not_true_eq_false, not_false_eq_true, if_true, if_false, true_implies, false_implies, implies_true, forall_const, false_imp_iff, true_imp_iff, va_rf, zlay, zent, List.replicate_zero, List.append_nil, List.replicate_succ, List.length_append, ne_eq, Option.some.injEq, Value.int.injEq, Value.long.injEq, Int32.reduceOfNat, Int32.reduceToInt, Int.reduceLT, Int.reduceLE, Int.reduceSub, Int.reduceToNat, Int.reduceAdd, Int.reduceNeg, Int32.reduceDiv, Int64.reduceAdd, Int64.reduceSub, lg_cmp_ge, lg_cmp_le, lg_cmp_gt, lg_cmp_lt, lg_cmp_eq, wlt_t, wlt_f, wle_t, wle_f, wmod, wI_lt, wI_le, wI_eq, wI_neg, wI_pos, wI_cl, wI_ge, wI_po, w64_lt, w64_le, w64_eq, w64_lt0, w64_le0, w64_eq0, w64_32, zc317, zc319, wI_add, wI_a1, wI_s1, wI_e0, wI_m8, wI_m128, wI_m64, wI_m190, not_true_eq_false, not_false_eq_true, sN_6417 hS]
  exact hQ
theorem m89l {tp : Nat} {ct pl : Int32} {nm : Int64} (hS : zStat P N) (ht : tp < 3801) (h7 : I 37 7 = nI tp) (Q : Option Value → zS → Prop) : zC 89 [.ref 37, .int 4, .int ct, .long nm, .int pl] (I, J, P, N, n, z) Q = Q (some (.int (nI tp))) (zAd I tp 4 ct pl, zu J 209 tp nm, P, N, n, z) := m89 (q := 4) hS (by decide) ht h7 Q
theorem m89k {tp : Nat} {ct pl : Int32} {nm : Int64} (hS : zStat P N) (ht : tp < 3801) (h7 : I 37 7 = nI tp) (Q : Option Value → zS → Prop) : zC 89 [.ref 37, .int 6, .int ct, .long nm, .int pl] (I, J, P, N, n, z) Q = Q (some (.int (nI tp))) (zAd I tp 6 ct pl, zu J 209 tp nm, P, N, n, z) := m89 (q := 6) hS (by decide) ht h7 Q
/-- once more with the top in sight -/
theorem m90z {tp : Nat} {x : Int64} {q a c : Int32} (hS : zStat P N) (ht : tp + 1 < 3801) (Q : Option Value → zS → Prop) : zC 90 [.ref 37, .long x] (zAd I tp q a c, J, P, N, n, z) Q = Q (some (.int (nI (tp + 1)))) (zAd (zAd I tp q a c) (tp + 1) 0 0 0, zu J 209 (tp + 1) x, P, N, n, z) := m90 hS ht zAd_at.2.2.2 Q
theorem m91z {tp : Nat} {q a c : Int32} (hS : zStat P N) (b1 : b < tp + 1) (b2 : tp + 1 ≤ 3801) (Q : Option Value → zS → Prop) : zC 91 [.ref 37, .int (nI b)] (zAd I tp q a c, J, P, N, n, z) Q = Q none (zu (zAd I tp q a c) 144 b (nI (tp + 1 - b)), J, P, N, n, z) := m91 hS zAd_at.2.2.2 b1 b2 Q
/-- a coin -/
def yco1 (po : Nat → Int32) (nm am : Nat → Int64) (i : Nat) : yD := yls [yint (po i).toInt64, yint (nm i), yint (am i)]
def ySp (po : Nat → Int32) (nm am : Nat → Int64) (w : Nat) : List yD := (List.range w).map (yco1 po nm am)
set_option maxRecDepth 20000 in
set_option maxHeartbeats 4000000 in
theorem l147 {w lb : Nat} (hS : zStat P N) (hb : b + 4 * w ≤ 3000) (hw : w ≤ 64) (hw3 : I0 2273 3 = nI w) (hlb : lb < b)
    (hQ : ∀ I' J' u3 u4, yNg I0 J0 I' J' b (b + 4 * w) → yEl (yEc I' J' bt) b (ySp (I0 2320) (J0 2353) (J0 2385) w) → zQ zt147 zo147_2 [some (.ref 649), some (.ref 2273), some (.int (nI lb)), some (.int u3), u4] [] (I', J', P, N, n, z) Q) :
    ∀ r i (I : zI) (J : zJ) u4, i + r = w → yNg I0 J0 I J b (b + 4 * i) → (∀ k, k < i → yEt (yEc I J bt) (b + 4 * k) (yco1 (I0 2320) (J0 2353) (J0 2385) k)) → zQ zt147 zo147_1 [some (.ref 649), some (.ref 2273), some (.int (nI lb)), some (.int (nI i)), u4] [] (I, J, P, N, n, z) Q := by
  intro r
  induction r with
  | zero =>
    intro i I J u4 hi g he
    obtain rfl : i = w := by omega
    have q := hQ I J (nI i) u4 g (yEl_r i (fun k hk => ⟨rfl, he k hk⟩))
    have e3 : I 2273 3 = nI i := by rw [g.1.1 2273 (by decide) (by decide) (by decide) (by decide) (by decide), hw3]
    have t : (nI i ≤ nI i) = True := eq_true (Int32.le_refl _)
    rw [zo147_1]
    simp (decide := true) (disch := omega) only [e3, t, zi147, zt147, zo147_0, zy_ldI, zy_ldL, zy_ldA, zy_stI, zy_stL, zy_stA, zy_cI, zy_cL, zy_nul, zy_inc, zy_bI, zy_bL, zy_sL, zy_un, zy_cmp, zy_dup, zy_dup2, zy_pop, zy_pop2, zy_jn, zy_jnn, zy_go, zy_fal, zy_tsw, zy_lsw, zy_get, zy_put, zy_ald, zy_ast, zy_len, zy_newa, zy_new, zy_cal, zy_ret, zy_tak, zy_cst, zy_acp, zy_oini, zy_cln, zy_thr, zy_bad, zy_lco, zy_if0, zy_ic0, zy_if1, zy_ic1, zy_if2, zy_ic2, zy_if3, zy_ic3, zy_if4, zy_ic4, zy_if5, zy_ic5, zK_go, zK_to, zK_end, zK_callH, zK_iteC, zK_none, zsLd, zsSt, zsInc, zsBI, zsBL, zsSL, zsUn, zsCmp, zsDup, zsDup2, zsPop, zsPop2, zsJn, zsTsw, zsLsw, zsGet, zsPut, zsAld, zsAst, zsLen, zsNewa, zsCal, zsRet, zsCst, zsAcp, zsOini, zsCln, zsLco, zsThr, zxBI, zxBL, zxSL, zxU, zset1, zset2, zclr, zcat, zmake_mk, zcomp, zH_i, zH_l, zH_r, zH_u, zH_n, List.set_cons_zero, List.set_cons_succ, List.getElem?_cons_zero, List.getElem?_cons_succ, List.length_cons, List.length_nil, List.take_succ_cons, List.take_zero, List.drop_succ_cons, List.drop_zero, List.reverse_cons, List.reverse_nil, List.nil_append, List.cons_append, List.map_cons, List.map_nil, List.sum_cons, List.sum_nil, Option.toList_some, Option.toList_none, Value.category, Nat.reduceAdd, Nat.reduceMul, Nat.reduceMod, Nat.reduceDiv, Nat.reduceSub, Nat.reduceLT, Nat.reduceLeDiff, Nat.reduceEqDiff, Nat.zero_le, Nat.le_refl, Int32.reduceToNatClampNeg, Int32.reduceLT, Int32.reduceLE, Int32.reduceAdd, Int32.reduceSub, Int32.reduceMul, ↓reduceIte, reduceCtorEq, Nat.add_zero, Nat.zero_add, true_or, or_true, false_or, or_false, true_and, and_true, false_and, and_false, not_true_eq_false, not_false_eq_true, if_true, if_false, true_implies, false_implies, implies_true, forall_const, false_imp_iff, true_imp_iff, va_rf, zlay, zent, List.replicate_zero, List.append_nil, List.replicate_succ, List.length_append, ne_eq, Option.some.injEq, Value.int.injEq, Value.long.injEq, Int32.reduceOfNat, Int32.reduceToInt, Int.reduceLT, Int.reduceLE, Int.reduceSub, Int.reduceToNat, Int.reduceAdd, Int.reduceNeg, Int32.reduceDiv, Int64.reduceAdd, Int64.reduceSub, lg_cmp_ge, lg_cmp_le, lg_cmp_gt, lg_cmp_lt, lg_cmp_eq, wlt_t, wlt_f, wle_t, wle_f, wmod, wI_lt, wI_le, wI_eq, wI_neg, wI_pos, wI_cl, wI_ge, wI_po, w64_lt, w64_le, w64_eq, w64_lt0, w64_le0, w64_eq0, w64_32, zc317, zc319, wI_add, wI_a1, wI_s1, wI_e0, wI_m8, wI_m128, wI_m64, wI_m190, not_true_eq_false, not_false_eq_true, sP_649_0 hS, sP_897_0 hS, sP_897_1 hS, sP_897_2 hS, sP_1089_0 hS, sP_1089_1 hS, sP_1089_2 hS, sP_1217_0 hS, sP_1217_1 hS, sP_1217_2 hS, sP_1345_0 hS, sP_1345_1 hS, sP_1345_2 hS, sP_1473_0 hS, sP_1473_1 hS, sP_1473_2 hS, sP_1601_0 hS, sP_1601_1 hS, sP_1601_2 hS, sP_1729_0 hS, sP_1729_1 hS, sP_1729_2 hS, sP_1857_0 hS, sP_1857_1 hS, sP_1857_2 hS, sP_1985_0 hS, sP_1985_1 hS, sP_1985_2 hS, sP_2273_0 hS, sP_2273_1 hS, sP_2273_2 hS, sP_2401_0 hS, sP_2401_1 hS, sP_2401_2 hS, sN_944 hS, sN_977 hS, sN_1009 hS, sN_1136 hS, sN_1169 hS, sN_1201 hS, sN_1264 hS, sN_1297 hS, sN_1329 hS, sN_1392 hS, sN_1425 hS, sN_1457 hS, sN_1520 hS, sN_1553 hS, sN_1585 hS, sN_1648 hS, sN_1681 hS, sN_1713 hS, sN_1776 hS, sN_1809 hS, sN_1841 hS, sN_1904 hS, sN_1937 hS, sN_1969 hS, sN_2032 hS, sN_2065 hS, sN_2097 hS, sN_2320 hS, sN_2353 hS, sN_2385 hS, sN_2448 hS, sN_2481 hS, sN_2513 hS, sN_6417 hS]
    exact q
  | succ r ih =>
    intro i I J u4 hi g he
    have e3 : I 2273 3 = nI w := by rw [g.1.1 2273 (by decide) (by decide) (by decide) (by decide) (by decide), hw3]
    have r1 : I 2320 = I0 2320 := g.1.1 2320 (by decide) (by decide) (by decide) (by decide) (by decide)
    have r2 : J 2353 = J0 2353 := g.1.2.1 2353 (by decide)
    have r3 : J 2385 = J0 2385 := g.1.2.1 2385 (by decide)
    have h7 := g.2.1.1
    have q89 := fun (Q : Option Value → zS → Prop) => m89l (I := I) (J := J) (n := n) (z := z) (tp := b + 4 * i) (ct := 3) (pl := 0) (nm := 0) hS (by omega) h7 Q
    have q90 := fun (I : zI) (J : zJ) (tp : Nat) (x : Int64) (q a c : Int32) (ht : tp + 1 < 3801) (Q : Option Value → zS → Prop) => m90z (I := I) (J := J) (n := n) (z := z) (x := x) (q := q) (a := a) (c := c) hS ht Q
    have q91 := fun (I : zI) (J : zJ) (b tp : Nat) (q a c : Int32) (b1 : b < tp + 1) (b2 : tp + 1 ≤ 3801) (Q : Option Value → zS → Prop) => m91z (I := I) (J := J) (n := n) (z := z) (q := q) (a := a) (c := c) hS b1 b2 Q
    have a1 : ∀ (I : zI) tp q a c, zAd I tp q a c 2320 = I 2320 := fun I tp q a c => by unfold zAd; simp (disch := omega) only [zuR_ne]
    have g1 := yNg_a (I := I) (J := J) (nt := b + 4 * i) (q := 4) (ct := 3) (pl := 0) (nm := 0)
    have g2 := yNg_a (I := zAd I (b + 4 * i) 4 3 0) (J := zu J 209 (b + 4 * i) 0) (nt := b + 4 * i + 1) (q := 0) (ct := 0) (pl := 0) (nm := (I0 2320 i).toInt64)
    have g3 := yNg_a (I := zAd (zAd I (b + 4 * i) 4 3 0) (b + 4 * i + 1) 0 0 0) (J := zu (zu J 209 (b + 4 * i) 0) 209 (b + 4 * i + 1) (I0 2320 i).toInt64) (nt := b + 4 * i + 1 + 1) (q := 0) (ct := 0) (pl := 0) (nm := J0 2353 i)
    have g4 := yNg_a (I := zAd (zAd (zAd I (b + 4 * i) 4 3 0) (b + 4 * i + 1) 0 0 0) (b + 4 * i + 1 + 1) 0 0 0) (J := zu (zu (zu J 209 (b + 4 * i) 0) 209 (b + 4 * i + 1) (I0 2320 i).toInt64) 209 (b + 4 * i + 1 + 1) (J0 2353 i)) (nt := b + 4 * i + 1 + 1 + 1) (q := 0) (ct := 0) (pl := 0) (nm := J0 2385 i)
    have k2 := yEt_i (I := zAd I (b + 4 * i) 4 3 0) (J := zu J 209 (b + 4 * i) 0) (bt := bt) (nt := b + 4 * i + 1) (x := (I0 2320 i).toInt64) (pl := 0)
    have k3 := yEt_i (I := zAd (zAd I (b + 4 * i) 4 3 0) (b + 4 * i + 1) 0 0 0) (J := zu (zu J 209 (b + 4 * i) 0) 209 (b + 4 * i + 1) (I0 2320 i).toInt64) (bt := bt) (nt := b + 4 * i + 1 + 1) (x := J0 2353 i) (pl := 0)
    have k4 := yEt_i (I := zAd (zAd (zAd I (b + 4 * i) 4 3 0) (b + 4 * i + 1) 0 0 0) (b + 4 * i + 1 + 1) 0 0 0) (J := zu (zu (zu J 209 (b + 4 * i) 0) 209 (b + 4 * i + 1) (I0 2320 i).toInt64) 209 (b + 4 * i + 1 + 1) (J0 2353 i)) (bt := bt) (nt := b + 4 * i + 1 + 1 + 1) (x := J0 2385 i) (pl := 0)
    obtain ⟨I4, hI4⟩ : ∃ I4, I4 = zAd (zAd (zAd (zAd I (b + 4 * i) 4 3 0) (b + 4 * i + 1) 0 0 0) (b + 4 * i + 1 + 1) 0 0 0) (b + 4 * i + 1 + 1 + 1) 0 0 0 := ⟨_, rfl⟩
    obtain ⟨J4, hJ4⟩ : ∃ J4, J4 = zu (zu (zu (zu J 209 (b + 4 * i) 0) 209 (b + 4 * i + 1) (I0 2320 i).toInt64) 209 (b + 4 * i + 1 + 1) (J0 2353 i)) 209 (b + 4 * i + 1 + 1 + 1) (J0 2385 i) := ⟨_, rfl⟩
    rw [← hI4, ← hJ4] at g4 k4
    have gt := yNg_t g1 (yNg_t g2 (yNg_t g3 g4))
    have o1 := zAd_at (I := I) (nt := b + 4 * i) (q := 4) (ct := 3) (pl := 0)
    have oh := (yNg_t g2 (yNg_t g3 g4)).2.2 (b + 4 * i) (by omega)
    have row : yEl (yEc I4 J4 bt) (b + 4 * i + 1) [yint (I0 2320 i).toInt64, yint (J0 2353 i), yint (J0 2385 i)] := ⟨yEt_g (yNg_t g3 g4) (Nat.le_refl _) k2, yEt_g g4 (Nat.le_refl _) k3, k4, trivial⟩
    have coin : yEt (yEc (zu I4 144 (b + 4 * i) (nI 4)) J4 bt) (b + 4 * i) (yco1 (I0 2320) (J0 2353) (J0 2385) i) := by
      refine yls_at (fun y => ⟨?_, ?_, ?_, ?_, fun h => by cases h⟩) (yEl_e (Nat.lt_succ_self _) row)
      · rw [zuR_ne (by decide), oh.1, o1.1]; rfl
      · rw [zuR_ne (by decide), oh.2.1, o1.2.1]; rfl
      · rw [zu_at]; rfl
      · rw [oh.2.2.2.2, zu_at]
    have gn : yNg I J (zu I4 144 (b + 4 * i) (nI 4)) J4 (b + 4 * i) (b + 4 * (i + 1)) := by
      have := yNg_e (v := nI 4) gt
      rw [show b + 4 * i + 1 + 1 + 1 + 1 = b + 4 * (i + 1) by omega] at this
      exact this
    have q := ih (i + 1) (zu I4 144 (b + 4 * i) (nI 4)) J4 (some (.int (nI (b + 4 * i)))) (by omega) (yNg_t g gn) (fun k hk => by
      by_cases hki : k = i
      · subst hki; exact coin
      · exact yEt_g gn (show b + 4 * k + 4 ≤ _ by omega) (he k (by omega)))
    have ew : b + 4 * i + 1 + 1 + 1 + 1 - (b + 4 * i) = 4 := by omega
    have s1 : ∀ tp x, zu J 209 tp x 2353 = J 2353 := fun tp x => zuR_ne (by decide)
    rw [hI4, hJ4] at q
    rw [zo147_1]
    simp (decide := true) (disch := omega) only [e3, q89, q90, q91, a1, r1, r2, r3, zuR_ne, ew, zi147, zt147, zo147_0, zy_ldI, zy_ldL, zy_ldA, zy_stI, zy_stL, zy_stA, zy_cI, zy_cL, zy_nul, zy_inc, zy_bI, zy_bL, zy_sL, zy_un, zy_cmp, zy_dup, zy_dup2, zy_pop, zy_pop2, zy_jn, zy_jnn, zy_go, zy_fal, zy_tsw, zy_lsw, zy_get, zy_put, zy_ald, zy_ast, zy_len, zy_newa, zy_new, zy_cal, zy_ret, zy_tak, zy_cst, zy_acp, zy_oini, zy_cln, zy_thr, zy_bad, zy_lco, zy_if0, zy_ic0, zy_if1, zy_ic1, zy_if2, zy_ic2, zy_if3, zy_ic3, zy_if4, zy_ic4, zy_if5, zy_ic5, zK_go, zK_to, zK_end, zK_callH, zK_iteC, zK_none, zsLd, zsSt, zsInc, zsBI, zsBL, zsSL, zsUn, zsCmp, zsDup, zsDup2, zsPop, zsPop2, zsJn, zsTsw, zsLsw, zsGet, zsPut, zsAld, zsAst, zsLen, zsNewa, zsCal, zsRet, zsCst, zsAcp, zsOini, zsCln, zsLco, zsThr, zxBI, zxBL, zxSL, zxU, zset1, zset2, zclr, zcat, zmake_mk, zcomp, zH_i, zH_l, zH_r, zH_u, zH_n, List.set_cons_zero, List.set_cons_succ, List.getElem?_cons_zero, List.getElem?_cons_succ, List.length_cons, List.length_nil, List.take_succ_cons, List.take_zero, List.drop_succ_cons, List.drop_zero, List.reverse_cons, List.reverse_nil, List.nil_append, List.cons_append, List.map_cons, List.map_nil, List.sum_cons, List.sum_nil, Option.toList_some, Option.toList_none, Value.category, Nat.reduceAdd, Nat.reduceMul, Nat.reduceMod, Nat.reduceDiv, Nat.reduceSub, Nat.reduceLT, Nat.reduceLeDiff, Nat.reduceEqDiff, Nat.zero_le, Nat.le_refl, Int32.reduceToNatClampNeg, Int32.reduceLT, Int32.reduceLE, Int32.reduceAdd, Int32.reduceSub, Int32.reduceMul, ↓reduceIte, reduceCtorEq, Nat.add_zero, Nat.zero_add, true_or, or_true, false_or, or_false, true_and, and_true, false_and, and_false, not_true_eq_false, not_false_eq_true, if_true, if_false, true_implies, false_implies, implies_true, forall_const, false_imp_iff, true_imp_iff, va_rf, zlay, zent, List.replicate_zero, List.append_nil, List.replicate_succ, List.length_append, ne_eq, Option.some.injEq, Value.int.injEq, Value.long.injEq, Int32.reduceOfNat, Int32.reduceToInt, Int.reduceLT, Int.reduceLE, Int.reduceSub, Int.reduceToNat, Int.reduceAdd, Int.reduceNeg, Int32.reduceDiv, Int64.reduceAdd, Int64.reduceSub, lg_cmp_ge, lg_cmp_le, lg_cmp_gt, lg_cmp_lt, lg_cmp_eq, wlt_t, wlt_f, wle_t, wle_f, wmod, wI_lt, wI_le, wI_eq, wI_neg, wI_pos, wI_cl, wI_ge, wI_po, w64_lt, w64_le, w64_eq, w64_lt0, w64_le0, w64_eq0, w64_32, zc317, zc319, wI_add, wI_a1, wI_s1, wI_e0, wI_m8, wI_m128, wI_m64, wI_m190, not_true_eq_false, not_false_eq_true, sP_649_0 hS, sP_897_0 hS, sP_897_1 hS, sP_897_2 hS, sP_1089_0 hS, sP_1089_1 hS, sP_1089_2 hS, sP_1217_0 hS, sP_1217_1 hS, sP_1217_2 hS, sP_1345_0 hS, sP_1345_1 hS, sP_1345_2 hS, sP_1473_0 hS, sP_1473_1 hS, sP_1473_2 hS, sP_1601_0 hS, sP_1601_1 hS, sP_1601_2 hS, sP_1729_0 hS, sP_1729_1 hS, sP_1729_2 hS, sP_1857_0 hS, sP_1857_1 hS, sP_1857_2 hS, sP_1985_0 hS, sP_1985_1 hS, sP_1985_2 hS, sP_2273_0 hS, sP_2273_1 hS, sP_2273_2 hS, sP_2401_0 hS, sP_2401_1 hS, sP_2401_2 hS, sN_944 hS, sN_977 hS, sN_1009 hS, sN_1136 hS, sN_1169 hS, sN_1201 hS, sN_1264 hS, sN_1297 hS, sN_1329 hS, sN_1392 hS, sN_1425 hS, sN_1457 hS, sN_1520 hS, sN_1553 hS, sN_1585 hS, sN_1648 hS, sN_1681 hS, sN_1713 hS, sN_1776 hS, sN_1809 hS, sN_1841 hS, sN_1904 hS, sN_1937 hS, sN_1969 hS, sN_2032 hS, sN_2065 hS, sN_2097 hS, sN_2320 hS, sN_2353 hS, sN_2385 hS, sN_2448 hS, sN_2481 hS, sN_2513 hS, sN_6417 hS]
    exact q
/-- what is put behind the nodes -/
def yAp (I : zI) (J : zJ) (P : zP) (N : Nat → Nat) (n z nt bt : Nat) (ds : List yD) (Q : Option Value → zS → Prop) : Prop := ∀ I' J', yNg I J I' J' nt (nt + yll ds) → yEl (yEc I' J' bt) nt ds → Q none (I', J', P, N, n, z)
set_option maxRecDepth 20000 in
theorem e147 {w : Nat} (hS : zStat P N) (hb : nt + 1 + 4 * w ≤ 3000) (hw : w ≤ 64) (hw3 : I 2273 3 = nI w) (h7 : I 37 7 = nI nt) (hQ : yAp I J P N n z nt bt [yls (ySp (I 2320) (J 2353) (J 2385) w)] Q) : zC 147 [.ref 649, .ref 2273] (I, J, P, N, n, z) Q := by
  have q89 := fun (Q : Option Value → zS → Prop) => m89l (I := I) (J := J) (n := n) (z := z) (tp := nt) (ct := nI w) (pl := 0) (nm := 0) hS (by omega) h7 Q
  have g1 := yNg_a (I := I) (J := J) (nt := nt) (q := 4) (ct := nI w) (pl := 0) (nm := 0)
  have o1 := zAd_at (I := I) (nt := nt) (q := 4) (ct := nI w) (pl := 0)
  have el : yll (ySp (I 2320) (J 2353) (J 2385) w) = 4 * w := yll_r w (fun i _ => rfl)
  have q := l147 (I0 := zAd I nt 4 (nI w) 0) (J0 := zu J 209 nt 0) (b := nt + 1) (lb := nt) (n := n) (z := z) (bt := bt) (Q := Q) (w := w) hS hb hw (by rw [g1.1.1 2273 (by decide) (by decide) (by decide) (by decide) (by decide), hw3]) (Nat.lt_succ_self _) (fun I' J' u3 u4 g he => by
    rw [g1.1.1 2320 (by decide) (by decide) (by decide) (by decide) (by decide), zuR_ne (by decide), zuR_ne (by decide)] at he
    have h7' := g.2.1.1
    have p91 := fun (Q : Option Value → zS → Prop) => m91 (I := I') (J := J') (n := n) (z := z) (b := nt) hS h7' (by omega) (by omega) Q
    have gt := yNg_e (v := nI (nt + 1 + 4 * w - nt)) (yNg_t g1 g)
    have oh := g.2.2 nt (Nat.lt_succ_self _)
    have q := hQ (zu I' 144 nt (nI (nt + 1 + 4 * w - nt))) J' (by
      rw [show nt + yll [yls (ySp (I 2320) (J 2353) (J 2385) w)] = nt + 1 + 4 * w by
        show nt + ((yls (ySp (I 2320) (J 2353) (J 2385) w)).1 + 0) = _
        rw [(yls_0 _).1, el]
        omega]
      exact gt) ⟨yls_at (fun y => ⟨?_, ?_, ?_, ?_, fun h => by cases h⟩) (yEl_e (Nat.lt_succ_self _) he), trivial⟩
    · rw [zo147_2]
      simp (decide := true) (disch := omega) only [p91, zi147, zt147, zo147_0, zo147_1, zy_ldI, zy_ldL, zy_ldA, zy_stI, zy_stL, zy_stA, zy_cI, zy_cL, zy_nul, zy_inc, zy_bI, zy_bL, zy_sL, zy_un, zy_cmp, zy_dup, zy_dup2, zy_pop, zy_pop2, zy_jn, zy_jnn, zy_go, zy_fal, zy_tsw, zy_lsw, zy_get, zy_put, zy_ald, zy_ast, zy_len, zy_newa, zy_new, zy_cal, zy_ret, zy_tak, zy_cst, zy_acp, zy_oini, zy_cln, zy_thr, zy_bad, zy_lco, zy_if0, zy_ic0, zy_if1, zy_ic1, zy_if2, zy_ic2, zy_if3, zy_ic3, zy_if4, zy_ic4, zy_if5, zy_ic5, zK_go, zK_to, zK_end, zK_callH, zK_iteC, zK_none, zsLd, zsSt, zsInc, zsBI, zsBL, zsSL, zsUn, zsCmp, zsDup, zsDup2, zsPop, zsPop2, zsJn, zsTsw, zsLsw, zsGet, zsPut, zsAld, zsAst, zsLen, zsNewa, zsCal, zsRet, zsCst, zsAcp, zsOini, zsCln, zsLco, zsThr, zxBI, zxBL, zxSL, zxU, zset1, zset2, zclr, zcat, zmake_mk, zcomp, zH_i, zH_l, zH_r, zH_u, zH_n, List.set_cons_zero, List.set_cons_succ, List.getElem?_cons_zero, List.getElem?_cons_succ, List.length_cons, List.length_nil, List.take_succ_cons, List.take_zero, List.drop_succ_cons, List.drop_zero, List.reverse_cons, List.reverse_nil, List.nil_append, List.cons_append, List.map_cons, List.map_nil, List.sum_cons, List.sum_nil, Option.toList_some, Option.toList_none, Value.category, Nat.reduceAdd, Nat.reduceMul, Nat.reduceMod, Nat.reduceDiv, Nat.reduceSub, Nat.reduceLT, Nat.reduceLeDiff, Nat.reduceEqDiff, Nat.zero_le, Nat.le_refl, Int32.reduceToNatClampNeg, Int32.reduceLT, Int32.reduceLE, Int32.reduceAdd, Int32.reduceSub, Int32.reduceMul, ↓reduceIte, reduceCtorEq, Nat.add_zero, Nat.zero_add, true_or, or_true, false_or, or_false, true_and, and_true, false_and, and_false, not_true_eq_false, not_false_eq_true, if_true, if_false, true_implies, false_implies, implies_true, forall_const, false_imp_iff, true_imp_iff, va_rf, zlay, zent, List.replicate_zero, List.append_nil, List.replicate_succ, List.length_append, ne_eq, Option.some.injEq, Value.int.injEq, Value.long.injEq, Int32.reduceOfNat, Int32.reduceToInt, Int.reduceLT, Int.reduceLE, Int.reduceSub, Int.reduceToNat, Int.reduceAdd, Int.reduceNeg, Int32.reduceDiv, Int64.reduceAdd, Int64.reduceSub, lg_cmp_ge, lg_cmp_le, lg_cmp_gt, lg_cmp_lt, lg_cmp_eq, wlt_t, wlt_f, wle_t, wle_f, wmod, wI_lt, wI_le, wI_eq, wI_neg, wI_pos, wI_cl, wI_ge, wI_po, w64_lt, w64_le, w64_eq, w64_lt0, w64_le0, w64_eq0, w64_32, zc317, zc319, wI_add, wI_a1, wI_s1, wI_e0, wI_m8, wI_m128, wI_m64, wI_m190, not_true_eq_false, not_false_eq_true, sP_649_0 hS, sP_897_0 hS, sP_897_1 hS, sP_897_2 hS, sP_1089_0 hS, sP_1089_1 hS, sP_1089_2 hS, sP_1217_0 hS, sP_1217_1 hS, sP_1217_2 hS, sP_1345_0 hS, sP_1345_1 hS, sP_1345_2 hS, sP_1473_0 hS, sP_1473_1 hS, sP_1473_2 hS, sP_1601_0 hS, sP_1601_1 hS, sP_1601_2 hS, sP_1729_0 hS, sP_1729_1 hS, sP_1729_2 hS, sP_1857_0 hS, sP_1857_1 hS, sP_1857_2 hS, sP_1985_0 hS, sP_1985_1 hS, sP_1985_2 hS, sP_2273_0 hS, sP_2273_1 hS, sP_2273_2 hS, sP_2401_0 hS, sP_2401_1 hS, sP_2401_2 hS, sN_944 hS, sN_977 hS, sN_1009 hS, sN_1136 hS, sN_1169 hS, sN_1201 hS, sN_1264 hS, sN_1297 hS, sN_1329 hS, sN_1392 hS, sN_1425 hS, sN_1457 hS, sN_1520 hS, sN_1553 hS, sN_1585 hS, sN_1648 hS, sN_1681 hS, sN_1713 hS, sN_1776 hS, sN_1809 hS, sN_1841 hS, sN_1904 hS, sN_1937 hS, sN_1969 hS, sN_2032 hS, sN_2065 hS, sN_2097 hS, sN_2320 hS, sN_2353 hS, sN_2385 hS, sN_2448 hS, sN_2481 hS, sN_2513 hS, sN_6417 hS]
      exact q
    · rw [zuR_ne (by decide), oh.1, o1.1]; rfl
    · rw [zuR_ne (by decide), oh.2.1, o1.2.1]
      unfold ySp
      rw [List.length_map, List.length_range]
    · rw [zu_at, el]
      congr 1
      omega
    · rw [oh.2.2.2.2, zu_at]) w 0 (zAd I nt 4 (nI w) 0) (zu J 209 nt 0) none (by omega) (yNg_r o1.2.2.2) (fun k hk => by omega)
  simp (decide := true) (disch := omega) only [hw3, q89, zi147, zt147, zo147_0, zo147_2, zy_ldI, zy_ldL, zy_ldA, zy_stI, zy_stL, zy_stA, zy_cI, zy_cL, zy_nul, zy_inc, zy_bI, zy_bL, zy_sL, zy_un, zy_cmp, zy_dup, zy_dup2, zy_pop, zy_pop2, zy_jn, zy_jnn, zy_go, zy_fal, zy_tsw, zy_lsw, zy_get, zy_put, zy_ald, zy_ast, zy_len, zy_newa, zy_new, zy_cal, zy_ret, zy_tak, zy_cst, zy_acp, zy_oini, zy_cln, zy_thr, zy_bad, zy_lco, zy_if0, zy_ic0, zy_if1, zy_ic1, zy_if2, zy_ic2, zy_if3, zy_ic3, zy_if4, zy_ic4, zy_if5, zy_ic5, zK_go, zK_to, zK_end, zK_callH, zK_iteC, zK_none, zsLd, zsSt, zsInc, zsBI, zsBL, zsSL, zsUn, zsCmp, zsDup, zsDup2, zsPop, zsPop2, zsJn, zsTsw, zsLsw, zsGet, zsPut, zsAld, zsAst, zsLen, zsNewa, zsCal, zsRet, zsCst, zsAcp, zsOini, zsCln, zsLco, zsThr, zxBI, zxBL, zxSL, zxU, zset1, zset2, zclr, zcat, zmake_mk, zcomp, zH_i, zH_l, zH_r, zH_u, zH_n, List.set_cons_zero, List.set_cons_succ, List.getElem?_cons_zero, List.getElem?_cons_succ, List.length_cons, List.length_nil, List.take_succ_cons, List.take_zero, List.drop_succ_cons, List.drop_zero, List.reverse_cons, List.reverse_nil, List.nil_append, List.cons_append, List.map_cons, List.map_nil, List.sum_cons, List.sum_nil, Option.toList_some, Option.toList_none, Value.category, Nat.reduceAdd, Nat.reduceMul, Nat.reduceMod, Nat.reduceDiv, Nat.reduceSub, Nat.reduceLT, Nat.reduceLeDiff, Nat.reduceEqDiff, Nat.zero_le, Nat.le_refl, Int32.reduceToNatClampNeg, Int32.reduceLT, Int32.reduceLE, Int32.reduceAdd, Int32.reduceSub, Int32.reduceMul, ↓reduceIte, reduceCtorEq, Nat.add_zero, Nat.zero_add, true_or, or_true, false_or, or_false, true_and, and_true, false_and, and_false, not_true_eq_false, not_false_eq_true, if_true, if_false, true_implies, false_implies, implies_true, forall_const, false_imp_iff, true_imp_iff, va_rf, zlay, zent, List.replicate_zero, List.append_nil, List.replicate_succ, List.length_append, ne_eq, Option.some.injEq, Value.int.injEq, Value.long.injEq, Int32.reduceOfNat, Int32.reduceToInt, Int.reduceLT, Int.reduceLE, Int.reduceSub, Int.reduceToNat, Int.reduceAdd, Int.reduceNeg, Int32.reduceDiv, Int64.reduceAdd, Int64.reduceSub, lg_cmp_ge, lg_cmp_le, lg_cmp_gt, lg_cmp_lt, lg_cmp_eq, wlt_t, wlt_f, wle_t, wle_f, wmod, wI_lt, wI_le, wI_eq, wI_neg, wI_pos, wI_cl, wI_ge, wI_po, w64_lt, w64_le, w64_eq, w64_lt0, w64_le0, w64_eq0, w64_32, zc317, zc319, wI_add, wI_a1, wI_s1, wI_e0, wI_m8, wI_m128, wI_m64, wI_m190, not_true_eq_false, not_false_eq_true, sP_649_0 hS, sP_897_0 hS, sP_897_1 hS, sP_897_2 hS, sP_1089_0 hS, sP_1089_1 hS, sP_1089_2 hS, sP_1217_0 hS, sP_1217_1 hS, sP_1217_2 hS, sP_1345_0 hS, sP_1345_1 hS, sP_1345_2 hS, sP_1473_0 hS, sP_1473_1 hS, sP_1473_2 hS, sP_1601_0 hS, sP_1601_1 hS, sP_1601_2 hS, sP_1729_0 hS, sP_1729_1 hS, sP_1729_2 hS, sP_1857_0 hS, sP_1857_1 hS, sP_1857_2 hS, sP_1985_0 hS, sP_1985_1 hS, sP_1985_2 hS, sP_2273_0 hS, sP_2273_1 hS, sP_2273_2 hS, sP_2401_0 hS, sP_2401_1 hS, sP_2401_2 hS, sN_944 hS, sN_977 hS, sN_1009 hS, sN_1136 hS, sN_1169 hS, sN_1201 hS, sN_1264 hS, sN_1297 hS, sN_1329 hS, sN_1392 hS, sN_1425 hS, sN_1457 hS, sN_1520 hS, sN_1553 hS, sN_1585 hS, sN_1648 hS, sN_1681 hS, sN_1713 hS, sN_1776 hS, sN_1809 hS, sN_1841 hS, sN_1904 hS, sN_1937 hS, sN_1969 hS, sN_2032 hS, sN_2065 hS, sN_2097 hS, sN_2320 hS, sN_2353 hS, sN_2385 hS, sN_2448 hS, sN_2481 hS, sN_2513 hS, sN_6417 hS]
  exact q
/-- a part of DATA -/
theorem yEt_s {E : Nat → Nat → Nat → Int64 → Nat → (Nat → Int32) → Prop} {D : yD} {k : Nat} (h : yEt E 0 D) (hk : k + D.2.2.2.2.1 k ≤ D.1) : yEt E k (ysub k D) := by
  obtain ⟨K, F, C, T, Z, L, Y⟩ := D
  intro j hj
  have hj : j < Z k := hj
  have hk : k + Z k ≤ K := hk
  have := h (k + j) (by omega)
  rw [Nat.zero_add] at this
  exact this
/-- nodes that are copied -/
theorem yRw_g {f m : Nat} {d : yD} (hm : d.1 = m) (hf : f + m ≤ nt) (h : yRw I J I' J' f nt m) (he : yEt (yEc I J bt) f d) : yNg I J I' J' nt (nt + m) ∧ yEt (yEc I' J' bt) nt d := by
  obtain ⟨⟨a1, a2, a3, a4⟩, a5⟩ := h
  constructor
  · refine ⟨⟨a1, a2, a3⟩, ⟨a4, by omega⟩, fun j hj => ?_⟩
    obtain ⟨b1, b2, b3, b4, b5⟩ := a5 j
    rw [if_neg (by omega)] at b1 b2 b3 b4 b5
    exact ⟨b1, b2, b3, b4, b5⟩
  · obtain ⟨K, F, C, T, Z, L, Y⟩ := d
    have hm : K = m := hm
    intro j hj
    obtain ⟨b1, b2, b3, b4, b5⟩ := a5 (nt + j)
    have e : nt + j - nt = j := by omega
    rw [if_pos (by omega), e] at b1 b2 b3 b4 b5
    obtain ⟨c1, c2, c3, c4, c5⟩ := he j hj
    refine ⟨b1.trans c1, b2.trans c2, b3.trans c3, b5.trans c4, fun h2 => ?_⟩
    obtain ⟨q, q1, q2, q3⟩ := c5 h2
    exact ⟨q, b4.trans q1, q2, fun i hi => by rw [a1 239 (by decide) (by decide) (by decide) (by decide) (by decide)]; exact q3 i hi⟩
variable {m K s : Nat} {F C Z X H L : Nat → Nat} {T : Nat → Int64} {Y : Nat → Nat → Int32}
set_option maxRecDepth 20000 in
theorem e145 {i k : Nat} {iv : Int32} (hS : zStat P N) (hi : i < 8) (hiv : iv = nI i) (f0 : I 688 i = nI k) (z0 : I 144 k = nI (Z k)) (hk : k + Z k ≤ K) (hK : K ≤ nt) (hb : nt + Z k ≤ 3000) (h7 : I 37 7 = nI nt) (he : yEt (yEc I J bt) 0 (K, F, C, T, Z, L, Y)) (hQ : yAp I J P N n z nt bt [ysub k (K, F, C, T, Z, L, Y)] Q) : zC 145 [.ref 649, .int iv] (I, J, P, N, n, z) Q := by
  subst hiv
  simp (decide := true) (disch := omega) only [f0, z0, zi145, zt145, zo145_0, zy_ldI, zy_ldL, zy_ldA, zy_stI, zy_stL, zy_stA, zy_cI, zy_cL, zy_nul, zy_inc, zy_bI, zy_bL, zy_sL, zy_un, zy_cmp, zy_dup, zy_dup2, zy_pop, zy_pop2, zy_jn, zy_jnn, zy_go, zy_fal, zy_tsw, zy_lsw, zy_get, zy_put, zy_ald, zy_ast, zy_len, zy_newa, zy_new, zy_cal, zy_ret, zy_tak, zy_cst, zy_acp, zy_oini, zy_cln, zy_thr, zy_bad, zy_lco, zy_if0, zy_ic0, zy_if1, zy_ic1, zy_if2, zy_ic2, zy_if3, zy_ic3, zy_if4, zy_ic4, zy_if5, zy_ic5, zK_go, zK_to, zK_end, zK_callH, zK_iteC, zK_none, zsLd, zsSt, zsInc, zsBI, zsBL, zsSL, zsUn, zsCmp, zsDup, zsDup2, zsPop, zsPop2, zsJn, zsTsw, zsLsw, zsGet, zsPut, zsAld, zsAst, zsLen, zsNewa, zsCal, zsRet, zsCst, zsAcp, zsOini, zsCln, zsLco, zsThr, zxBI, zxBL, zxSL, zxU, zset1, zset2, zclr, zcat, zmake_mk, zcomp, zH_i, zH_l, zH_r, zH_u, zH_n, List.set_cons_zero, List.set_cons_succ, List.getElem?_cons_zero, List.getElem?_cons_succ, List.length_cons, List.length_nil, List.take_succ_cons, List.take_zero, List.drop_succ_cons, List.drop_zero, List.reverse_cons, List.reverse_nil, List.nil_append, List.cons_append, List.map_cons, List.map_nil, List.sum_cons, List.sum_nil, Option.toList_some, Option.toList_none, Value.category, Nat.reduceAdd, Nat.reduceMul, Nat.reduceMod, Nat.reduceDiv, Nat.reduceSub, Nat.reduceLT, Nat.reduceLeDiff, Nat.reduceEqDiff, Nat.zero_le, Nat.le_refl, Int32.reduceToNatClampNeg, Int32.reduceLT, Int32.reduceLE, Int32.reduceAdd, Int32.reduceSub, Int32.reduceMul, ↓reduceIte, reduceCtorEq, Nat.add_zero, Nat.zero_add, true_or, or_true, false_or, or_false, true_and, and_true, false_and, and_false, not_true_eq_false, not_false_eq_true, if_true, if_false, true_implies, false_implies, implies_true, forall_const, false_imp_iff, true_imp_iff, va_rf, zlay, zent, List.replicate_zero, List.append_nil, List.replicate_succ, List.length_append, ne_eq, Option.some.injEq, Value.int.injEq, Value.long.injEq, Int32.reduceOfNat, Int32.reduceToInt, Int.reduceLT, Int.reduceLE, Int.reduceSub, Int.reduceToNat, Int.reduceAdd, Int.reduceNeg, Int32.reduceDiv, Int64.reduceAdd, Int64.reduceSub, lg_cmp_ge, lg_cmp_le, lg_cmp_gt, lg_cmp_lt, lg_cmp_eq, wlt_t, wlt_f, wle_t, wle_f, wmod, wI_lt, wI_le, wI_eq, wI_neg, wI_pos, wI_cl, wI_ge, wI_po, w64_lt, w64_le, w64_eq, w64_lt0, w64_le0, w64_eq0, w64_32, zc317, zc319, wI_add, wI_a1, wI_s1, wI_e0, wI_m8, wI_m128, wI_m64, wI_m190, not_true_eq_false, not_false_eq_true, sP_37_2 hS, sP_649_0 hS, sP_649_2 hS, sN_144 hS, sN_688 hS, sN_6417 hS]
  refine e97 hS h7 (by omega) (by omega) (fun I' J' h => ?_)
  obtain ⟨g, e⟩ := yRw_g (bt := bt) (d := ysub k (K, F, C, T, Z, L, Y)) (m := Z k) rfl (by omega) h (yEt_s he hk)
  have q := hQ I' J' g ⟨e, trivial⟩
  simp (decide := true) (disch := omega) only [zi145, zt145, zo145_0, zy_ldI, zy_ldL, zy_ldA, zy_stI, zy_stL, zy_stA, zy_cI, zy_cL, zy_nul, zy_inc, zy_bI, zy_bL, zy_sL, zy_un, zy_cmp, zy_dup, zy_dup2, zy_pop, zy_pop2, zy_jn, zy_jnn, zy_go, zy_fal, zy_tsw, zy_lsw, zy_get, zy_put, zy_ald, zy_ast, zy_len, zy_newa, zy_new, zy_cal, zy_ret, zy_tak, zy_cst, zy_acp, zy_oini, zy_cln, zy_thr, zy_bad, zy_lco, zy_if0, zy_ic0, zy_if1, zy_ic1, zy_if2, zy_ic2, zy_if3, zy_ic3, zy_if4, zy_ic4, zy_if5, zy_ic5, zK_go, zK_to, zK_end, zK_callH, zK_iteC, zK_none, zsLd, zsSt, zsInc, zsBI, zsBL, zsSL, zsUn, zsCmp, zsDup, zsDup2, zsPop, zsPop2, zsJn, zsTsw, zsLsw, zsGet, zsPut, zsAld, zsAst, zsLen, zsNewa, zsCal, zsRet, zsCst, zsAcp, zsOini, zsCln, zsLco, zsThr, zxBI, zxBL, zxSL, zxU, zset1, zset2, zclr, zcat, zmake_mk, zcomp, zH_i, zH_l, zH_r, zH_u, zH_n, List.set_cons_zero, List.set_cons_succ, List.getElem?_cons_zero, List.getElem?_cons_succ, List.length_cons, List.length_nil, List.take_succ_cons, List.take_zero, List.drop_succ_cons, List.drop_zero, List.reverse_cons, List.reverse_nil, List.nil_append, List.cons_append, List.map_cons, List.map_nil, List.sum_cons, List.sum_nil, Option.toList_some, Option.toList_none, Value.category, Nat.reduceAdd, Nat.reduceMul, Nat.reduceMod, Nat.reduceDiv, Nat.reduceSub, Nat.reduceLT, Nat.reduceLeDiff, Nat.reduceEqDiff, Nat.zero_le, Nat.le_refl, Int32.reduceToNatClampNeg, Int32.reduceLT, Int32.reduceLE, Int32.reduceAdd, Int32.reduceSub, Int32.reduceMul, ↓reduceIte, reduceCtorEq, Nat.add_zero, Nat.zero_add, true_or, or_true, false_or, or_false, true_and, and_true, false_and, and_false, not_true_eq_false, not_false_eq_true, if_true, if_false, true_implies, false_implies, implies_true, forall_const, false_imp_iff, true_imp_iff, va_rf, zlay, zent, List.replicate_zero, List.append_nil, List.replicate_succ, List.length_append, ne_eq, Option.some.injEq, Value.int.injEq, Value.long.injEq, Int32.reduceOfNat, Int32.reduceToInt, Int.reduceLT, Int.reduceLE, Int.reduceSub, Int.reduceToNat, Int.reduceAdd, Int.reduceNeg, Int32.reduceDiv, Int64.reduceAdd, Int64.reduceSub, lg_cmp_ge, lg_cmp_le, lg_cmp_gt, lg_cmp_lt, lg_cmp_eq, wlt_t, wlt_f, wle_t, wle_f, wmod, wI_lt, wI_le, wI_eq, wI_neg, wI_pos, wI_cl, wI_ge, wI_po, w64_lt, w64_le, w64_eq, w64_lt0, w64_le0, w64_eq0, w64_32, zc317, zc319, wI_add, wI_a1, wI_s1, wI_e0, wI_m8, wI_m128, wI_m64, wI_m190, not_true_eq_false, not_false_eq_true, sP_37_2 hS, sP_649_0 hS, sP_649_2 hS, sN_144 hS, sN_688 hS, sN_6417 hS]
  exact q
end
