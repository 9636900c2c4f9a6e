-- needs: 01 02.names 03 04 05 18 19 20 22 23 24 25 30 31 32 33 36 40 42 43 44 46 47 60 61 62 63 64 79f 79g 79h 79i 79j 79k 79l 79m 79n 79o 79p 79q 79r 79s 79t 79u 7a 7b 7c 7d 7e 7f 7g 7h 7i 7j 7k
/-! The reference's machine beside our own: vc values, te bytes, de nodes of DATA, re entries of rows, rm rows there are; r numbers our values there, u our nodes -/
def yRd (I : zI) (J : zJ) (de te b : Nat) : yD → Prop
  | (K, F, C, T, Z, L, Y) => b + K ≤ de ∧ ∀ j, j < K → (I 5488 (b + j) = nI (zFo (F j)) ∧ J 5521 (b + j) = T j ∧ I 5552 (b + j) = nI (zCq (F j) (C j))) ∧ (F j = 2 → ∃ p, I 5584 (b + j) = nI p ∧ p + C j ≤ te ∧ ∀ i, i < C j → I 5455 (p + i) = Y j i)
def yRr (I : zI) (re rm : Nat) (r : Nat → Nat) (q : Nat) (e : List Nat) : Prop := q < rm ∧ I 5680 q = nI e.length ∧ ∃ b, I 5648 q = nI b ∧ b + e.length ≤ re ∧ ∀ i, i < e.length → I 5616 (b + (e.length - 1 - i)) = nI (r (e.getD i 0))
/-- the first of what a BUILTIN has -/
def yfs : List Nat → Nat
  | [] => 0
  | [a] => a
  | _ :: a :: _ => a
def yRv (I : zI) (J : zJ) (de te re rm : Nat) (r u : Nat → Nat) (k : Nat) : yV → Prop
  | (kd, nm, b, l, (K, F, C, T, Z, L, Y)) => I 5168 k = nI kd ∧ (kd = 0 ∨ kd = 2 ∨ kd = 7 → J 5201 k = nm) ∧ (kd = 1 → ∃ p, I 5232 k = nI p ∧ I 5264 k = nI (C 0) ∧ p + C 0 ≤ te ∧ ∀ i, i < C 0 → I 5455 (p + i) = Y 0 i) ∧ (kd = 4 → ∃ a, I 5232 k = nI a ∧ I 5264 k = nI K ∧ yRd I J de te a (K, F, C, T, Z, L, Y)) ∧ (kd = 5 ∨ kd = 6 → I 5296 k = nI (u b) ∧ ∃ q, I 5328 k = nI q ∧ yRr I re rm r q l) ∧ (kd = 7 → I 5360 k = nI l.length ∧ ∀ a t, l = a :: t → I 5424 k = nI (r a) ∧ I 5392 k = nI (r (yfs l)))
/-- what was there stands -/
def yRg (I : zI) (J : zJ) (I' : zI) (J' : zJ) (vc te de re rm : Nat) : Prop :=
  (∀ k, k < vc → (I' 5168 k = I 5168 k ∧ J' 5201 k = J 5201 k ∧ I' 5232 k = I 5232 k ∧ I' 5264 k = I 5264 k) ∧ (I' 5296 k = I 5296 k ∧ I' 5328 k = I 5328 k ∧ I' 5360 k = I 5360 k ∧ I' 5392 k = I 5392 k ∧ I' 5424 k = I 5424 k)) ∧ (∀ j, j < te → I' 5455 j = I 5455 j) ∧ (∀ j, j < de → I' 5488 j = I 5488 j ∧ J' 5521 j = J 5521 j ∧ I' 5552 j = I 5552 j ∧ I' 5584 j = I 5584 j) ∧ (∀ j, j < re → I' 5616 j = I 5616 j) ∧ ∀ q, q < rm → I' 5648 q = I 5648 q ∧ I' 5680 q = I 5680 q
section
variable {I I' I'' : zI} {J J' J'' : zJ} {vc te de re rm vc' te' de' re' rm' : Nat} {r u : Nat → Nat}
theorem yRg_r : yRg I J I J vc te de re rm := ⟨fun _ _ => ⟨⟨rfl, rfl, rfl, rfl⟩, rfl, rfl, rfl, rfl, rfl⟩, fun _ _ => rfl, fun _ _ => ⟨rfl, rfl, rfl, rfl⟩, fun _ _ => rfl, fun _ _ => ⟨rfl, rfl⟩⟩
theorem yRg_t (h1 : vc ≤ vc') (h2 : te ≤ te') (h3 : de ≤ de') (h4 : re ≤ re') (h5 : rm ≤ rm') (g : yRg I J I' J' vc te de re rm) (g' : yRg I' J' I'' J'' vc' te' de' re' rm') : yRg I J I'' J'' vc te de re rm := by
  refine ⟨fun k hk => ?_, fun j hj => (g'.2.1 j (by omega)).trans (g.2.1 j hj), fun j hj => ?_, fun j hj => (g'.2.2.2.1 j (by omega)).trans (g.2.2.2.1 j hj), fun q hq => ?_⟩
  · obtain ⟨⟨a1, a2, a3, a4⟩, a5, a6, a7, a8, a9⟩ := g.1 k hk
    obtain ⟨⟨b1, b2, b3, b4⟩, b5, b6, b7, b8, b9⟩ := g'.1 k (by omega)
    exact ⟨⟨b1.trans a1, b2.trans a2, b3.trans a3, b4.trans a4⟩, b5.trans a5, b6.trans a6, b7.trans a7, b8.trans a8, b9.trans a9⟩
  · obtain ⟨a1, a2, a3, a4⟩ := g.2.2.1 j hj
    obtain ⟨b1, b2, b3, b4⟩ := g'.2.2.1 j (by omega)
    exact ⟨b1.trans a1, b2.trans a2, b3.trans a3, b4.trans a4⟩
  · obtain ⟨a1, a2⟩ := g.2.2.2.2 q hq
    obtain ⟨b1, b2⟩ := g'.2.2.2.2 q (by omega)
    exact ⟨b1.trans a1, b2.trans a2⟩
theorem yRd_g {b : Nat} {d : yD} (h2 : te ≤ te') (h3 : de ≤ de') (g : yRg I J I' J' vc te de re rm) (h : yRd I J de te b d) : yRd I' J' de' te' b d := by
  obtain ⟨K, F, C, T, Z, L, Y⟩ := d
  obtain ⟨hK, h⟩ := h
  refine ⟨by omega, fun j hj => ?_⟩
  obtain ⟨⟨a1, a2, a3⟩, a5⟩ := h j hj
  obtain ⟨b1, b2, b3, b4⟩ := g.2.2.1 (b + j) (by omega)
  refine ⟨⟨b1.trans a1, b2.trans a2, b3.trans a3⟩, fun hF => ?_⟩
  obtain ⟨p, p1, p2, p3⟩ := a5 hF
  exact ⟨p, b4.trans p1, by omega, fun i hi => (g.2.1 (p + i) (by omega)).trans (p3 i hi)⟩
theorem yRr_g {q : Nat} {e : List Nat} (h4 : re ≤ re') (h5 : rm ≤ rm') (g : yRg I J I' J' vc te de re rm) (h : yRr I re rm r q e) : yRr I' re' rm' r q e := by
  obtain ⟨a1, a2, b, b1, b2, b3⟩ := h
  obtain ⟨c1, c2⟩ := g.2.2.2.2 q a1
  exact ⟨by omega, c2.trans a2, b, c1.trans b1, by omega, fun i hi => (g.2.2.2.1 _ (by omega)).trans (b3 i hi)⟩
theorem yRv_g {k : Nat} {w : yV} (hk : k < vc) (h2 : te ≤ te') (h3 : de ≤ de') (h4 : re ≤ re') (h5 : rm ≤ rm') (g : yRg I J I' J' vc te de re rm) (h : yRv I J de te re rm r u k w) : yRv I' J' de' te' re' rm' r u k w := by
  obtain ⟨kd, nm, b, l, K, F, C, T, Z, L, Y⟩ := w
  obtain ⟨a1, a2, a3, a4, a5, a6⟩ := h
  obtain ⟨⟨c1, c2, c3, c4⟩, c5, c6, c7, c8, c9⟩ := g.1 k hk
  refine ⟨c1.trans a1, fun x => c2.trans (a2 x), fun x => ?_, fun x => ?_, fun x => ?_, fun x => ?_⟩
  · obtain ⟨p, p1, p2, p3, p4⟩ := a3 x
    exact ⟨p, c3.trans p1, c4.trans p2, by omega, fun i hi => (g.2.1 (p + i) (by omega)).trans (p4 i hi)⟩
  · obtain ⟨a, q1, q2, q3⟩ := a4 x
    exact ⟨a, c3.trans q1, c4.trans q2, yRd_g h2 h3 g q3⟩
  · obtain ⟨q1, q, q2, q3⟩ := a5 x
    exact ⟨c5.trans q1, q, c6.trans q2, yRr_g h4 h5 g q3⟩
  · obtain ⟨q1, q2⟩ := a6 x
    exact ⟨c7.trans q1, fun a t ht => ⟨c9.trans (q2 a t ht).1, c8.trans (q2 a t ht).2⟩⟩
end
/-- a value is made -/
def yMk (I : zI) (vc : Nat) (k : Int32) : zI := zu (zu (zu I 5168 vc k) 5360 vc 0) 4908 19 (nI (vc + 1))
/-- cells that the reference's machine writes as it goes -/
def yRk (c : Nat) : Prop := c = 4908 ∨ c = 5168 ∨ c = 5232 ∨ c = 5264 ∨ c = 5296 ∨ c = 5328 ∨ c = 5360 ∨ c = 5392 ∨ c = 5424 ∨ c = 5455 ∨ c = 5488 ∨ c = 5552 ∨ c = 5584 ∨ c = 5616 ∨ c = 5648 ∨ c = 5680 ∨ c = 5744 ∨ c = 5776 ∨ c = 5808 ∨ c = 6032 ∨ c = 6096
/-- what a BUILTIN of the reference leaves as it is -/
def yRx (I : zI) (J : zJ) (I' : zI) (J' : zJ) : Prop := (∀ c, c ≠ 4908 → c ≠ 5168 → c ≠ 5232 → c ≠ 5264 → c ≠ 5360 → c ≠ 5455 → c ≠ 5488 → c ≠ 5552 → c ≠ 5584 → c ≠ 6096 → I' c = I c) ∧ (∀ c, c ≠ 5201 → c ≠ 5521 → J' c = J c)
def yRo (I : zI) (J : zJ) (I' : zI) (J' : zJ) (vc te de re rm te' de' : Nat) (r u : Nat → Nat) (w : yV) : Prop :=
  yRx I J I' J' ∧ (∀ j, j ≠ 19 → j ≠ 21 → j ≠ 26 → j ≠ 56 → I' 4908 j = I 4908 j) ∧ (I' 4908 19 = nI (vc + 1) ∧ I' 4908 21 = nI te' ∧ I' 4908 26 = nI de') ∧ (te ≤ te' ∧ te' ≤ te + 8 * ysz w ∧ de ≤ de' ∧ de' ≤ de + ysz w ∧ de' ≤ de + 200) ∧ yRg I J I' J' vc te de re rm ∧ yRv I' J' de' te' re rm r u vc w
/-- what is to be shown of a BUILTIN's result -/
def yQo (I : zI) (J : zJ) (P : zP) (N : Nat → Nat) (n z vc te de re rm : Nat) (r u : Nat → Nat) (Q : Option Value → zS → Prop) : Option yV → Prop
  | none => ∀ I' J', yRx I J I' J' → (∀ j, j ≠ 19 → j ≠ 21 → j ≠ 26 → j ≠ 56 → j ≠ 49 → I' 4908 j = I 4908 j) → I' 4908 49 = 3 → Q (some (.int 0)) (I', J', P, N, n, z)
  | some w => ∀ I' J' te' de', yRo I J I' J' vc te de re rm te' de' r u w → Q (some (.int (nI vc))) (I', J', P, N, n, z)
section
variable {I I1 : zI} {J J1 : zJ} {P : zP} {N : Nat → Nat} {n z vc te de re rm te' de' : Nat} {r u : Nat → Nat} {Q Q' : Option Value → zS → Prop}
theorem yQo_m {o : Option yV} (h : yQo I J P N n z vc te de re rm r u Q o) (hq : ∀ v τ, Q (some (.int v)) τ → Q' (some (.int v)) τ) : yQo I J P N n z vc te de re rm r u Q' o := by
  cases o with
  | none => exact fun I' J' a b c => hq _ _ (h I' J' a b c)
  | some w => exact fun I' J' te' de' a => hq _ _ (h I' J' te' de' a)
theorem yRx_r : yRx I J I J := ⟨fun _ _ _ _ _ _ _ _ _ _ _ => rfl, fun _ _ _ => rfl⟩
/-- a field of the machine alone -/
theorem yRx_f {j : Nat} {v : Int32} : yRx I J (zu I 4908 j v) J := ⟨fun c h _ _ _ _ _ _ _ _ _ => zuR_ne h, fun _ _ _ => rfl⟩
theorem yRx_t {I2 : zI} {J2 : zJ} (h : yRx I J I1 J1) (h' : yRx I1 J1 I2 J2) : yRx I J I2 J2 := ⟨fun c a1 a2 a3 a4 a5 a6 a7 a8 a9 a10 => (h'.1 c a1 a2 a3 a4 a5 a6 a7 a8 a9 a10).trans (h.1 c a1 a2 a3 a4 a5 a6 a7 a8 a9 a10), fun c a1 a2 => (h'.2 c a1 a2).trans (h.2 c a1 a2)⟩
theorem yMk_c {k : Int32} {c : Nat} (h1 : c ≠ 4908) (h2 : c ≠ 5168) (h3 : c ≠ 5360) : yMk I vc k c = I c := by
  unfold yMk
  rw [zuR_ne h1, zuR_ne h3, zuR_ne h2]
theorem yMk_f {k : Int32} {j : Nat} (h : j ≠ 19) : yMk I vc k 4908 j = I 4908 j := by
  unfold yMk
  rw [zu_nj h, zuR_ne (by decide), zuR_ne (by decide)]
theorem yMk_19 {k : Int32} : yMk I vc k 4908 19 = nI (vc + 1) := by
  unfold yMk
  rw [zu_at]
theorem yMk_n {k : Int32} : yMk I vc k 5168 vc = k ∧ yMk I vc k 5360 vc = 0 := by
  unfold yMk
  simp (disch := omega) only [zuR_ne, zu_at, and_self]
theorem yMk_o {k : Int32} {j : Nat} (h : j ≠ vc) : yMk I vc k 5168 j = I 5168 j ∧ yMk I vc k 5360 j = I 5360 j := by
  unfold yMk
  simp (disch := omega) only [zuR_ne, zu_nj, and_self]
theorem yRg_mk {k : Int32} {x : Int64} : yRg I J (yMk I vc k) (zu J 5201 vc x) vc te de re rm := by
  refine ⟨fun j hj => ?_, fun j _ => by rw [yMk_c (by decide) (by decide) (by decide)], fun j _ => ⟨by rw [yMk_c (by decide) (by decide) (by decide)], by rw [zuR_ne (by decide)], by rw [yMk_c (by decide) (by decide) (by decide)], by rw [yMk_c (by decide) (by decide) (by decide)]⟩, fun j _ => by rw [yMk_c (by decide) (by decide) (by decide)], fun q _ => ⟨by rw [yMk_c (by decide) (by decide) (by decide)], by rw [yMk_c (by decide) (by decide) (by decide)]⟩⟩
  obtain ⟨o1, o2⟩ := yMk_o (I := I) (vc := vc) (k := k) (j := j) (by omega)
  exact ⟨⟨o1, zu_nj (by omega), by rw [yMk_c (by decide) (by decide) (by decide)], by rw [yMk_c (by decide) (by decide) (by decide)]⟩, by rw [yMk_c (by decide) (by decide) (by decide)], by rw [yMk_c (by decide) (by decide) (by decide)], o2, by rw [yMk_c (by decide) (by decide) (by decide)], by rw [yMk_c (by decide) (by decide) (by decide)]⟩
set_option maxRecDepth 20000 in
theorem m188 {k : Int32} {x : Int64} (hS : zStat P N) (ht : vc < 3700) (h19 : I 4908 19 = nI vc) (Q : Option Value → zS → Prop) : zC 188 [.ref 4908, .int k, .long x] (I, J, P, N, n, z) Q = Q (some (.int (nI vc))) (yMk I vc k, zu J 5201 vc x, P, N, n, z) := by
  refine zC_eq (fun Q hQ => ?_) Q
  have e1 : nI (vc + 1) - 1 = nI vc := wI_sub (b := 1) (by omega)
  simp (decide := true) (disch := omega) only [h19, e1, zuR_ne, zu_at, zi188, zt188, zo188_0, zy_ldI, zy_ldL, zy_ldA, zy_stI, zy_stL, zy_stA, zy_cI, zy_cL, zy_nul, zy_inc, zy_bI, zy_bL, zy_sL, zy_un, zy_cmp, zy_dup, zy_dup2, zy_pop, zy_pop2, zy_jn, zy_jnn, zy_go, zy_fal, zy_tsw, zy_lsw, zy_get, zy_put, zy_ald, zy_ast, zy_len, zy_newa, zy_new, zy_cal, zy_ret, zy_tak, zy_cst, zy_acp, zy_oini, zy_cln, zy_thr, zy_bad, zy_lco, zy_if0, zy_ic0, zy_if1, zy_ic1, zy_if2, zy_ic2, zy_if3, zy_ic3, zy_if4, zy_ic4, zy_if5, zy_ic5, zK_go, zK_to, zK_end, zK_callH, zK_iteC, zK_none, zsLd, zsSt, zsInc, zsBI, zsBL, zsSL, zsUn, zsCmp, zsDup, zsDup2, zsPop, zsPop2, zsJn, zsTsw, zsLsw, zsGet, zsPut, zsAld, zsAst, zsLen, zsNewa, zsCal, zsRet, zsCst, zsAcp, zsOini, zsCln, zsLco, zsThr, zxBI, zxBL, zxSL, zxU, zset1, zset2, zclr, zcat, zmake_mk, zcomp, zH_i, zH_l, zH_r, zH_u, zH_n, List.set_cons_zero, List.set_cons_succ, List.getElem?_cons_zero, List.getElem?_cons_succ, List.length_cons, List.length_nil, List.take_succ_cons, List.take_zero, List.drop_succ_cons, List.drop_zero, List.reverse_cons, List.reverse_nil, List.nil_append, List.cons_append, List.map_cons, List.map_nil, List.sum_cons, List.sum_nil, Option.toList_some, Option.toList_none, Value.category, Nat.reduceAdd, Nat.reduceMul, Nat.reduceMod, Nat.reduceDiv, Nat.reduceSub, Nat.reduceLT, Nat.reduceLeDiff, Nat.reduceEqDiff, Nat.zero_le, Nat.le_refl, Int32.reduceToNatClampNeg, Int32.reduceLT, Int32.reduceLE, Int32.reduceAdd, Int32.reduceSub, Int32.reduceMul, ↓reduceIte, reduceCtorEq, Nat.add_zero, Nat.zero_add, true_or, or_true, false_or, or_false, true_and, and_true, false_and, and_false, not_true_eq_false, not_false_eq_true, if_true, if_false, true_implies, false_implies, implies_true, forall_const, false_imp_iff, true_imp_iff, va_rf, zlay, zent, List.replicate_zero, List.append_nil, List.replicate_succ, List.length_append, ne_eq, Option.some.injEq, Value.int.injEq, Value.long.injEq, Int32.reduceOfNat, Int32.reduceToInt, Int.reduceLT, Int.reduceLE, Int.reduceSub, Int.reduceToNat, Int.reduceAdd, Int.reduceNeg, Int32.reduceDiv, Int64.reduceAdd, Int64.reduceSub, lg_cmp_ge, lg_cmp_le, lg_cmp_gt, lg_cmp_lt, lg_cmp_eq, wlt_t, wlt_f, wle_t, wle_f, wmod, wI_lt, wI_le, wI_eq, wI_neg, wI_pos, wI_cl, wI_ge, wI_po, w64_lt, w64_le, w64_eq, w64_lt0, w64_le0, w64_eq0, w64_32, zc317, zc319, wI_add, wI_a1, wI_s1, wI_e0, wI_m8, wI_m128, wI_m64, wI_m190, not_true_eq_false, not_false_eq_true, sP_4908_10 hS, sP_4908_11 hS, sP_4908_16 hS, sN_5168 hS, sN_5201 hS, sN_5360 hS, sN_6417 hS]
  exact hQ
theorem yQo_I {x : Int64} (h21 : I 4908 21 = nI te) (h26 : I 4908 26 = nI de) (h : yQo I J P N n z vc te de re rm r u Q (some (yvI x))) : Q (some (.int (nI vc))) (yMk I vc 0, zu J 5201 vc x, P, N, n, z) := by
  refine h _ _ te de ⟨⟨fun c a1 a2 _ _ a5 _ _ _ _ _ => yMk_c a1 a2 a5, fun c a1 _ => zuR_ne a1⟩, fun j a1 _ _ _ => yMk_f a1, ⟨yMk_19, by rw [yMk_f (by decide), h21], by rw [yMk_f (by decide), h26]⟩, ⟨Nat.le_refl _, Nat.le_add_right _ _, Nat.le_refl _, Nat.le_add_right _ _, Nat.le_add_right _ _⟩, yRg_mk, ?_⟩
  exact ⟨yMk_n.1, fun _ => zu_at, fun h => by omega, fun h => by omega, fun h => by omega, fun h => by omega⟩
theorem yQo_T {p : Prop} (h21 : I 4908 21 = nI te) (h26 : I 4908 26 = nI de) (h : yQo I J P N n z vc te de re rm r u Q (some (yvT p))) : Q (some (.int (nI vc))) (yMk I vc 2, zu J 5201 vc (zyn p).toInt64, P, N, n, z) := by
  refine h _ _ te de ⟨⟨fun c a1 a2 _ _ a5 _ _ _ _ _ => yMk_c a1 a2 a5, fun c a1 _ => zuR_ne a1⟩, fun j a1 _ _ _ => yMk_f a1, ⟨yMk_19, by rw [yMk_f (by decide), h21], by rw [yMk_f (by decide), h26]⟩, ⟨Nat.le_refl _, Nat.le_add_right _ _, Nat.le_refl _, Nat.le_add_right _ _, Nat.le_add_right _ _⟩, yRg_mk, ?_⟩
  exact ⟨yMk_n.1, fun _ => zu_at, fun h => by omega, fun h => by omega, fun h => by omega, fun h => by omega⟩
set_option maxRecDepth 20000 in
theorem m189 {b : Int32} (hS : zStat P N) (hb : b = 0 ∨ b = 1) (ht : vc < 3700) (h19 : I 4908 19 = nI vc) (Q : Option Value → zS → Prop) : zC 189 [.ref 4908, .int b] (I, J, P, N, n, z) Q = Q (some (.int (nI vc))) (yMk I vc 2, zu J 5201 vc b.toInt64, P, N, n, z) := by
  refine zC_eq (fun Q hQ => ?_) Q
  have q := fun x Q => m188 (J := J) (n := n) (z := z) (k := 2) (x := x) hS ht h19 Q
  rcases hb with rfl | rfl
  · simp (decide := true) (disch := omega) only [q, zi189, zt189, zo189_0, zo189_1, zo189_2, zy_ldI, zy_ldL, zy_ldA, zy_stI, zy_stL, zy_stA, zy_cI, zy_cL, zy_nul, zy_inc, zy_bI, zy_bL, zy_sL, zy_un, zy_cmp, zy_dup, zy_dup2, zy_pop, zy_pop2, zy_jn, zy_jnn, zy_go, zy_fal, zy_tsw, zy_lsw, zy_get, zy_put, zy_ald, zy_ast, zy_len, zy_newa, zy_new, zy_cal, zy_ret, zy_tak, zy_cst, zy_acp, zy_oini, zy_cln, zy_thr, zy_bad, zy_lco, zy_if0, zy_ic0, zy_if1, zy_ic1, zy_if2, zy_ic2, zy_if3, zy_ic3, zy_if4, zy_ic4, zy_if5, zy_ic5, zK_go, zK_to, zK_end, zK_callH, zK_iteC, zK_none, zsLd, zsSt, zsInc, zsBI, zsBL, zsSL, zsUn, zsCmp, zsDup, zsDup2, zsPop, zsPop2, zsJn, zsTsw, zsLsw, zsGet, zsPut, zsAld, zsAst, zsLen, zsNewa, zsCal, zsRet, zsCst, zsAcp, zsOini, zsCln, zsLco, zsThr, zxBI, zxBL, zxSL, zxU, zset1, zset2, zclr, zcat, zmake_mk, zcomp, zH_i, zH_l, zH_r, zH_u, zH_n, List.set_cons_zero, List.set_cons_succ, List.getElem?_cons_zero, List.getElem?_cons_succ, List.length_cons, List.length_nil, List.take_succ_cons, List.take_zero, List.drop_succ_cons, List.drop_zero, List.reverse_cons, List.reverse_nil, List.nil_append, List.cons_append, List.map_cons, List.map_nil, List.sum_cons, List.sum_nil, Option.toList_some, Option.toList_none, Value.category, Nat.reduceAdd, Nat.reduceMul, Nat.reduceMod, Nat.reduceDiv, Nat.reduceSub, Nat.reduceLT, Nat.reduceLeDiff, Nat.reduceEqDiff, Nat.zero_le, Nat.le_refl, Int32.reduceToNatClampNeg, Int32.reduceLT, Int32.reduceLE, Int32.reduceAdd, Int32.reduceSub, Int32.reduceMul, ↓reduceIte, reduceCtorEq, Nat.add_zero, Nat.zero_add, true_or, or_true, false_or, or_false, true_and, and_true, false_and, and_false, not_true_eq_false, not_false_eq_true, if_true, if_false, true_implies, false_implies, implies_true, forall_const, false_imp_iff, true_imp_iff, va_rf, zlay, zent, List.replicate_zero, List.append_nil, List.replicate_succ, List.length_append, ne_eq, Option.some.injEq, Value.int.injEq, Value.long.injEq, Int32.reduceOfNat, Int32.reduceToInt, Int.reduceLT, Int.reduceLE, Int.reduceSub, Int.reduceToNat, Int.reduceAdd, Int.reduceNeg, Int32.reduceDiv, Int64.reduceAdd, Int64.reduceSub, lg_cmp_ge, lg_cmp_le, lg_cmp_gt, lg_cmp_lt, lg_cmp_eq, wlt_t, wlt_f, wle_t, wle_f, wmod, wI_lt, wI_le, wI_eq, wI_neg, wI_pos, wI_cl, wI_ge, wI_po, w64_lt, w64_le, w64_eq, w64_lt0, w64_le0, w64_eq0, w64_32, zc317, zc319, wI_add, wI_a1, wI_s1, wI_e0, wI_m8, wI_m128, wI_m64, wI_m190, not_true_eq_false, not_false_eq_true, sN_6417 hS]
    exact hQ
  · simp (decide := true) (disch := omega) only [q, zi189, zt189, zo189_0, zo189_1, zo189_2, zy_ldI, zy_ldL, zy_ldA, zy_stI, zy_stL, zy_stA, zy_cI, zy_cL, zy_nul, zy_inc, zy_bI, zy_bL, zy_sL, zy_un, zy_cmp, zy_dup, zy_dup2, zy_pop, zy_pop2, zy_jn, zy_jnn, zy_go, zy_fal, zy_tsw, zy_lsw, zy_get, zy_put, zy_ald, zy_ast, zy_len, zy_newa, zy_new, zy_cal, zy_ret, zy_tak, zy_cst, zy_acp, zy_oini, zy_cln, zy_thr, zy_bad, zy_lco, zy_if0, zy_ic0, zy_if1, zy_ic1, zy_if2, zy_ic2, zy_if3, zy_ic3, zy_if4, zy_ic4, zy_if5, zy_ic5, zK_go, zK_to, zK_end, zK_callH, zK_iteC, zK_none, zsLd, zsSt, zsInc, zsBI, zsBL, zsSL, zsUn, zsCmp, zsDup, zsDup2, zsPop, zsPop2, zsJn, zsTsw, zsLsw, zsGet, zsPut, zsAld, zsAst, zsLen, zsNewa, zsCal, zsRet, zsCst, zsAcp, zsOini, zsCln, zsLco, zsThr, zxBI, zxBL, zxSL, zxU, zset1, zset2, zclr, zcat, zmake_mk, zcomp, zH_i, zH_l, zH_r, zH_u, zH_n, List.set_cons_zero, List.set_cons_succ, List.getElem?_cons_zero, List.getElem?_cons_succ, List.length_cons, List.length_nil, List.take_succ_cons, List.take_zero, List.drop_succ_cons, List.drop_zero, List.reverse_cons, List.reverse_nil, List.nil_append, List.cons_append, List.map_cons, List.map_nil, List.sum_cons, List.sum_nil, Option.toList_some, Option.toList_none, Value.category, Nat.reduceAdd, Nat.reduceMul, Nat.reduceMod, Nat.reduceDiv, Nat.reduceSub, Nat.reduceLT, Nat.reduceLeDiff, Nat.reduceEqDiff, Nat.zero_le, Nat.le_refl, Int32.reduceToNatClampNeg, Int32.reduceLT, Int32.reduceLE, Int32.reduceAdd, Int32.reduceSub, Int32.reduceMul, ↓reduceIte, reduceCtorEq, Nat.add_zero, Nat.zero_add, true_or, or_true, false_or, or_false, true_and, and_true, false_and, and_false, not_true_eq_false, not_false_eq_true, if_true, if_false, true_implies, false_implies, implies_true, forall_const, false_imp_iff, true_imp_iff, va_rf, zlay, zent, List.replicate_zero, List.append_nil, List.replicate_succ, List.length_append, ne_eq, Option.some.injEq, Value.int.injEq, Value.long.injEq, Int32.reduceOfNat, Int32.reduceToInt, Int.reduceLT, Int.reduceLE, Int.reduceSub, Int.reduceToNat, Int.reduceAdd, Int.reduceNeg, Int32.reduceDiv, Int64.reduceAdd, Int64.reduceSub, lg_cmp_ge, lg_cmp_le, lg_cmp_gt, lg_cmp_lt, lg_cmp_eq, wlt_t, wlt_f, wle_t, wle_f, wmod, wI_lt, wI_le, wI_eq, wI_neg, wI_pos, wI_cl, wI_ge, wI_po, w64_lt, w64_le, w64_eq, w64_lt0, w64_le0, w64_eq0, w64_32, zc317, zc319, wI_add, wI_a1, wI_s1, wI_e0, wI_m8, wI_m128, wI_m64, wI_m190, not_true_eq_false, not_false_eq_true, sN_6417 hS]
    exact hQ
/-- without a result -/
theorem yQo_f (h : yQo I J P N n z vc te de re rm r u Q none) : Q (some (.int 0)) (zu I 4908 49 3, J, P, N, n, z) := h _ _ yRx_f (fun j _ _ _ _ h => zu_nj h) zu_at
set_option maxRecDepth 20000 in
theorem m202 {w : Int32} (hS : zStat P N) (h49 : I 4908 49 = 0) (Q : Option Value → zS → Prop) : zC 202 [.ref 4908, .int w] (I, J, P, N, n, z) Q = Q (some (.int 0)) (zu I 4908 49 w, J, P, N, n, z) := by
  refine zC_eq (fun Q hQ => ?_) Q
  simp (decide := true) (disch := omega) only [h49, zi202, zt202, zo202_0, zo202_1, zo202_2, zy_ldI, zy_ldL, zy_ldA, zy_stI, zy_stL, zy_stA, zy_cI, zy_cL, zy_nul, zy_inc, zy_bI, zy_bL, zy_sL, zy_un, zy_cmp, zy_dup, zy_dup2, zy_pop, zy_pop2, zy_jn, zy_jnn, zy_go, zy_fal, zy_tsw, zy_lsw, zy_get, zy_put, zy_ald, zy_ast, zy_len, zy_newa, zy_new, zy_cal, zy_ret, zy_tak, zy_cst, zy_acp, zy_oini, zy_cln, zy_thr, zy_bad, zy_lco, zy_if0, zy_ic0, zy_if1, zy_ic1, zy_if2, zy_ic2, zy_if3, zy_ic3, zy_if4, zy_ic4, zy_if5, zy_ic5, zK_go, zK_to, zK_end, zK_callH, zK_iteC, zK_none, zsLd, zsSt, zsInc, zsBI, zsBL, zsSL, zsUn, zsCmp, zsDup, zsDup2, zsPop, zsPop2, zsJn, zsTsw, zsLsw, zsGet, zsPut, zsAld, zsAst, zsLen, zsNewa, zsCal, zsRet, zsCst, zsAcp, zsOini, zsCln, zsLco, zsThr, zxBI, zxBL, zxSL, zxU, zset1, zset2, zclr, zcat, zmake_mk, zcomp, zH_i, zH_l, zH_r, zH_u, zH_n, List.set_cons_zero, List.set_cons_succ, List.getElem?_cons_zero, List.getElem?_cons_succ, List.length_cons, List.length_nil, List.take_succ_cons, List.take_zero, List.drop_succ_cons, List.drop_zero, List.reverse_cons, List.reverse_nil, List.nil_append, List.cons_append, List.map_cons, List.map_nil, List.sum_cons, List.sum_nil, Option.toList_some, Option.toList_none, Value.category, Nat.reduceAdd, Nat.reduceMul, Nat.reduceMod, Nat.reduceDiv, Nat.reduceSub, Nat.reduceLT, Nat.reduceLeDiff, Nat.reduceEqDiff, Nat.zero_le, Nat.le_refl, Int32.reduceToNatClampNeg, Int32.reduceLT, Int32.reduceLE, Int32.reduceAdd, Int32.reduceSub, Int32.reduceMul, ↓reduceIte, reduceCtorEq, Nat.add_zero, Nat.zero_add, true_or, or_true, false_or, or_false, true_and, and_true, false_and, and_false, not_true_eq_false, not_false_eq_true, if_true, if_false, true_implies, false_implies, implies_true, forall_const, false_imp_iff, true_imp_iff, va_rf, zlay, zent, List.replicate_zero, List.append_nil, List.replicate_succ, List.length_append, ne_eq, Option.some.injEq, Value.int.injEq, Value.long.injEq, Int32.reduceOfNat, Int32.reduceToInt, Int.reduceLT, Int.reduceLE, Int.reduceSub, Int.reduceToNat, Int.reduceAdd, Int.reduceNeg, Int32.reduceDiv, Int64.reduceAdd, Int64.reduceSub, lg_cmp_ge, lg_cmp_le, lg_cmp_gt, lg_cmp_lt, lg_cmp_eq, wlt_t, wlt_f, wle_t, wle_f, wmod, wI_lt, wI_le, wI_eq, wI_neg, wI_pos, wI_cl, wI_ge, wI_po, w64_lt, w64_le, w64_eq, w64_lt0, w64_le0, w64_eq0, w64_32, zc317, zc319, wI_add, wI_a1, wI_s1, wI_e0, wI_m8, wI_m128, wI_m64, wI_m190, not_true_eq_false, not_false_eq_true, sN_6417 hS]
  exact hQ
end
