-- needs: 01 02.names 03 04 05 18 19 20 22 23 24 25 30 31 32 33 36 40 42 43 44 46 47 60 61 62 63 64 79f 79g 79h 79i 79j 79k 79l 79m 79n 79o 79p 79q 79r 79s 79t 79u 7a 7b 7c 7d 7e 7f 7g 7h 7i 7j 7k 7l 7m
/-! The class's machine: its state beside that of our own -/
def yCs (I : zI) (bn : Nat) : List (Nat × Nat × List Nat) → Prop
  | [] => True
  | (k, y, e) :: r => (I 2671 r.length = nI k ∧ I 2704 r.length = nI y ∧ (k ≠ 1 → yEn I bn (I 2736 r.length) e)) ∧ yCs I bn r
def yCc (Kd Sc : Nat → Nat) (Nm : Nat → Int64) (M : Nat) (I : zI) (J : zJ) : Prop := ∀ i, i < M → I 2575 i = nI (Kd i) ∧ (Kd i = 0 ∨ Kd i = 6 → J 2609 i = Nm i) ∧ (Kd i = 2 → I 2640 i = nI (Sc i))
def yCR (Kd Sc : Nat → Nat) (Nm : Nat → Int64) (M : Nat) (I : zI) (J : zJ) (nt bt bn : Nat) (tab : Nat → yV) (top : Nat) (st : List (Nat × Nat × List Nat)) (S W : Nat) : Prop :=
  yCc Kd Sc Nm M I J ∧ (I 37 7 = nI nt ∧ I 37 8 = nI bt ∧ I 2762 5 = nI top ∧ I 2762 8 = nI bn) ∧ (I 2532 9 = nI st.length ∧ I 2532 15 = 0 ∧ I 2532 16 = nI S ∧ I 2532 17 = nI W) ∧ (nt ≤ 601 + W ∧ bt ≤ 8320 + 8 * W ∧ bn ≤ W) ∧ (∀ v, yvl Kd M top v → yCv I J nt bt top bn v (tab v)) ∧ yCs I bn st
def yCS (Kd Sc : Nat → Nat) (Nm : Nat → Int64) (M : Nat) (I : zI) (J : zJ) (nt bt bn : Nat) : yM → Prop
  | (tab, top, m, x, e, st, S, W, a) => match m with
    | 0 => yCR Kd Sc Nm M I J nt bt bn tab top st S W ∧ I 2532 10 = 0 ∧ I 2532 11 = nI x ∧ yEn I bn (I 2532 12) e
    | 1 => yCR Kd Sc Nm M I J nt bt bn tab top st S W ∧ I 2532 10 = 1 ∧ I 2532 14 = nI x
    | _ => I 2532 10 = 5 ∧ I 2532 15 = nI a ∧ I 2532 16 = nI S ∧ I 2532 17 = nI W ∧ (a = 0 → x < 3201 ∧ I 2532 14 = nI x ∧ I 2799 x = nI (tab x).1 ∧ ((tab x).1 = 2 → J 2833 x = (tab x).2.1))
/-- cells of the class's machine -/
def yCm (c : Nat) : Prop := c = 37 ∨ c = 79 ∨ c = 112 ∨ c = 144 ∨ c = 176 ∨ c = 239 ∨ c = 272 ∨ c = 2532 ∨ c = 2671 ∨ c = 2704 ∨ c = 2736 ∨ c = 2762 ∨ c = 2799 ∨ c = 2864 ∨ c = 2896 ∨ c = 2928 ∨ c = 2960 ∨ c = 3024
def yCf (b0 : Nat) (I : zI) (J : zJ) (I' : zI) (J' : zJ) : Prop := (∀ c, ¬ yCm c → I' c = I c) ∧ (∀ c, c ≠ 209 → c ≠ 2833 → J' c = J c) ∧ (∀ j, j ≠ 7 → j ≠ 8 → I' 37 j = I 37 j) ∧ (∀ j, j < b0 → I' 79 j = I 79 j ∧ I' 112 j = I 112 j ∧ I' 144 j = I 144 j ∧ I' 176 j = I 176 j ∧ J' 209 j = J 209 j) ∧ ∀ j, j < 8320 → I' 239 j = I 239 j
theorem yCf_r {b0 : Nat} {I : zI} {J : zJ} : yCf b0 I J I J := ⟨fun _ _ => rfl, fun _ _ _ => rfl, fun _ _ _ => rfl, fun _ _ => ⟨rfl, rfl, rfl, rfl, rfl⟩, fun _ _ => rfl⟩
theorem yCf_t {b0 : Nat} {I I' I'' : zI} {J J' J'' : zJ} (h : yCf b0 I J I' J') (h' : yCf b0 I' J' I'' J'') : yCf b0 I J I'' J'' := by
  refine ⟨fun c hc => (h'.1 c hc).trans (h.1 c hc), fun c h1 h2 => (h'.2.1 c h1 h2).trans (h.2.1 c h1 h2), fun j h1 h2 => (h'.2.2.1 j h1 h2).trans (h.2.2.1 j h1 h2), fun j hj => ?_, fun j hj => (h'.2.2.2.2 j hj).trans (h.2.2.2.2 j hj)⟩
  obtain ⟨a1, a2, a3, a4, a5⟩ := h.2.2.2.1 j hj
  obtain ⟨b1, b2, b3, b4, b5⟩ := h'.2.2.2.1 j hj
  exact ⟨b1.trans a1, b2.trans a2, b3.trans a3, b4.trans a4, b5.trans a5⟩
section
variable {I I' I1 I2 : zI} {J J' J2 : zJ} {P : zP} {N : Nat → Nat} {n z nt bt bn nt' bt' b0 : Nat} {Q : Option Value → zS → Prop} {Kd Sc l : Nat → Nat} {Nm : Nat → Int64} {M top S W S' W' : Nat} {tab : Nat → yV} {st st' : List (Nat × Nat × List Nat)}
theorem yCf_m (h : ∀ c, c ≠ 2532 → c ≠ 2671 → c ≠ 2704 → c ≠ 2736 → c ≠ 2762 → c ≠ 2928 → c ≠ 2960 → c ≠ 3024 → c ≠ 272 → I' c = I c) : yCf b0 I J I' J := by
  refine ⟨fun c hc => ?_, fun _ _ _ => rfl, fun j _ _ => ?_, fun j _ => ⟨?_, ?_, ?_, ?_, rfl⟩, fun j _ => ?_⟩
  · unfold yCm at hc
    exact h c (by omega) (by omega) (by omega) (by omega) (by omega) (by omega) (by omega) (by omega) (by omega)
  all_goals rw [h _ (by decide) (by decide) (by decide) (by decide) (by decide) (by decide) (by decide) (by decide) (by decide)]
theorem yCf_o {w : yV} (hb : b0 ≤ nt) (hb2 : 8320 ≤ bt) (h : yCo I J I' J' nt bt top bn nt' bt' w) : yCf b0 I J I' J' := by
  obtain ⟨⟨a1, a2, a3, a4⟩, -, -, ⟨g1, g2, -, -⟩, -⟩ := h
  refine ⟨fun c hc => ?_, a2, a3, fun j hj => g1 j (by omega), fun j hj => g2 j (by omega)⟩
  unfold yCm at hc
  exact a1 c (by omega) (by omega) (by omega) (by omega) (by omega) (by omega) (by omega) (by omega) (by omega) (by omega) (by omega)
/-- the same where only the machine's own fields are others -/
theorem yCg_m (h : ∀ c, c ≠ 2532 → c ≠ 2671 → c ≠ 2704 → c ≠ 2736 → c ≠ 2762 → c ≠ 3024 → I' c = I c) : yCg I J I' J nt bt top bn := by
  refine ⟨fun j _ => ⟨?_, ?_, ?_, ?_, rfl⟩, fun j _ => ?_, fun j _ => ⟨?_, ?_, ?_, rfl⟩, fun j _ => ⟨?_, ?_⟩⟩
  all_goals rw [h _ (by decide) (by decide) (by decide) (by decide) (by decide) (by decide)]
theorem yCs_m (h1 : ∀ j, j < st.length → I' 2671 j = I 2671 j ∧ I' 2704 j = I 2704 j ∧ I' 2736 j = I 2736 j) {bn' : Nat} (hb : bn ≤ bn') (g : yCg I J I' J' nt bt top bn) (h : yCs I bn st) : yCs I' bn' st := by
  induction st with
  | nil => trivial
  | cons f r ih =>
    obtain ⟨k, y, e⟩ := f
    obtain ⟨⟨s1, s2, s3⟩, s4⟩ := h
    have hl : r.length < (List.cons (k, y, e) r).length := Nat.lt_succ_self _
    obtain ⟨t1, t2, t3⟩ := h1 r.length hl
    refine ⟨⟨t1.trans s1, t2.trans s2, fun hk => by rw [t3]; exact yEn_g hb g _ _ (s3 hk)⟩, ih (fun j hj => h1 j (Nat.lt_succ_of_lt hj)) s4⟩
theorem yCR_m (h : yCR Kd Sc Nm M I J nt bt bn tab top st S W) (fr : ∀ c, c ≠ 2532 → c ≠ 2671 → c ≠ 2704 → c ≠ 2736 → c ≠ 3024 → I' c = I c) (f1 : I' 2532 9 = nI st'.length) (f2 : I' 2532 15 = 0) (f3 : I' 2532 16 = nI S') (f4 : I' 2532 17 = nI W') (hs : yCs I' bn st') (hW : W ≤ W') : yCR Kd Sc Nm M I' J nt bt bn tab top st' S' W' := by
  obtain ⟨c, ⟨t1, t2, t3, t4⟩, -, ⟨b1, b2, b3⟩, v, -⟩ := h
  have g : yCg I J I' J nt bt top bn := yCg_m (fun c h1 h2 h3 h4 h5 h6 => fr c h1 h2 h3 h4 h6)
  refine ⟨fun i hi => ?_, ⟨?_, ?_, ?_, ?_⟩, ⟨f1, f2, f3, f4⟩, ⟨by omega, by omega, by omega⟩, fun u hu => ?_, hs⟩
  · rw [fr 2575 (by decide) (by decide) (by decide) (by decide) (by decide), fr 2640 (by decide) (by decide) (by decide) (by decide) (by decide)]
    exact c i hi
  · rw [fr 37 (by decide) (by decide) (by decide) (by decide) (by decide), t1]
  · rw [fr 37 (by decide) (by decide) (by decide) (by decide) (by decide), t2]
  · rw [fr 2762 (by decide) (by decide) (by decide) (by decide) (by decide), t3]
  · rw [fr 2762 (by decide) (by decide) (by decide) (by decide) (by decide), t4]
  · have q := v u hu
    unfold yCv at q ⊢
    rw [fr 2799 (by decide) (by decide) (by decide) (by decide) (by decide), fr 2864 (by decide) (by decide) (by decide) (by decide) (by decide), fr 2896 (by decide) (by decide) (by decide) (by decide) (by decide)]
    exact yCw_g (Nat.le_refl _) (Nat.le_refl _) (Nat.le_refl _) (Nat.le_refl _) g q
/-- a value more -/
theorem yCR_n {w : yV} (h : yCR Kd Sc Nm M I J nt bt bn tab top st S W) (ht : 200 ≤ top) (hM : M ≤ 200) (fr1 : ∀ c, c ≠ 2532 → c ≠ 3024 → I1 c = I c) (H : yCo I1 J I2 J2 nt bt top bn nt' bt' w) (fr : ∀ c, c ≠ 2532 → c ≠ 3024 → I' c = I2 c) (f1 : I' 2532 9 = nI st.length) (f2 : I' 2532 15 = 0) (f3 : I' 2532 16 = nI S') (f4 : I' 2532 17 = nI W') (hW : W + ysz w ≤ W') : yCR Kd Sc Nm M I' J2 nt' bt' bn (yup tab top w) (top + 1) st S' W' := by
  obtain ⟨c, ⟨t1, t2, t3, t4⟩, -, ⟨b1, b2, b3⟩, v, s⟩ := h
  obtain ⟨⟨a1, a2, a3, a4⟩, ⟨e1, e2, e3⟩, ⟨o1, o2, o3, o4, -⟩, g, q⟩ := H
  have g0 : yCg I J I1 J nt bt top bn := yCg_m (fun c h1 _ _ _ _ h6 => fr1 c h1 h6)
  have g2 : yCg I2 J2 I' J2 nt' bt' (top + 1) bn := yCg_m (fun c h1 _ _ _ _ h6 => fr c h1 h6)
  have g' : yCg I J I' J2 nt bt top bn := yCg_t (Nat.le_refl _) (Nat.le_refl _) (Nat.le_refl _) (Nat.le_refl _) g0 (yCg_t o1 o3 (Nat.le_succ _) (Nat.le_refl _) g g2)
  have fr' : ∀ c, c ≠ 2532 → c ≠ 3024 → c ≠ 37 → c ≠ 79 → c ≠ 112 → c ≠ 144 → c ≠ 176 → c ≠ 239 → c ≠ 272 → c ≠ 2762 → c ≠ 2799 → c ≠ 2864 → c ≠ 2896 → I' c = I c := fun c h1 h2 x1 x2 x3 x4 x5 x6 x7 x8 x9 x10 x11 => by rw [fr c h1 h2, a1 c x1 x2 x3 x4 x5 x6 x7 x8 x9 x10 x11, fr1 c h1 h2]
  refine ⟨fun i hi => ?_, ⟨?_, ?_, ?_, ?_⟩, ⟨f1, f2, f3, f4⟩, ⟨by omega, by omega, by omega⟩, fun u hu => ?_, yCs_m (fun j _ => ?_) (Nat.le_refl _) g' s⟩
  · rw [fr' 2575 (by decide) (by decide) (by decide) (by decide) (by decide) (by decide) (by decide) (by decide) (by decide) (by decide) (by decide) (by decide) (by decide), fr' 2640 (by decide) (by decide) (by decide) (by decide) (by decide) (by decide) (by decide) (by decide) (by decide) (by decide) (by decide) (by decide) (by decide), a2 2609 (by decide) (by decide)]
    exact c i hi
  · rw [fr 37 (by decide) (by decide), e1]
  · rw [fr 37 (by decide) (by decide), e2]
  · rw [fr 2762 (by decide) (by decide), e3]
  · rw [fr 2762 (by decide) (by decide), a4 8 (by decide), fr1 2762 (by decide) (by decide), t4]
  · unfold yup
    by_cases hu' : u = top
    · rw [if_pos hu', hu']
      unfold yCv at q ⊢
      rw [fr 2799 (by decide) (by decide), fr 2864 (by decide) (by decide), fr 2896 (by decide) (by decide)]
      exact yCw_g (Nat.le_refl _) (Nat.le_refl _) (Nat.le_refl _) (Nat.le_refl _) g2 q
    · rw [if_neg hu']
      have hu2 : yvl Kd M top u := by unfold yvl at hu ⊢; omega
      exact yCv_g o1 o3 (Nat.le_succ _) (Nat.le_refl _) (by unfold yvl at hu2; omega) g' (v u hu2)
  · rw [fr' 2671 (by decide) (by decide) (by decide) (by decide) (by decide) (by decide) (by decide) (by decide) (by decide) (by decide) (by decide) (by decide) (by decide), fr' 2704 (by decide) (by decide) (by decide) (by decide) (by decide) (by decide) (by decide) (by decide) (by decide) (by decide) (by decide) (by decide) (by decide), fr' 2736 (by decide) (by decide) (by decide) (by decide) (by decide) (by decide) (by decide) (by decide) (by decide) (by decide) (by decide) (by decide) (by decide)]
    exact ⟨rfl, rfl, rfl⟩
set_option maxRecDepth 20000 in
theorem l154 {k : Nat} {b0 : Int32} (hS : zStat P N) (hk : k < 2 ^ 30) (hbn : bn ≤ 3000) : ∀ d (e : List Nat) (b : Int32) j, j + d = k → d < e.length → yEn I bn b e → Q (some (.int (nI (e.getD d 0)))) (I, J, P, N, n, z) → zQ zt154 zo154_1 [some (.ref 2762), some (.int b0), some (.long (nI k).toInt64), none, some (.int b), some (.long (nI j).toInt64), none] [] (I, J, P, N, n, z) Q := by
  intro d
  induction d with
  | zero =>
    intro e b j hj hd he hQ
    match e, hd, he, hQ with
    | v :: e, _, ⟨c, c1, c2, c3, c4⟩, hQ =>
      have e1 : j = k := by omega
      subst e1
      subst c1
      have t : (nI j ≤ nI j) = True := eq_true (Int32.le_refl _)
      have t2 : ¬ nI c ≤ -1 := fun h => by
        rw [Int32.le_iff_toInt_le, nI_toInt (by omega)] at h
        have e : (-1 : Int32).toInt = -1 := rfl
        omega
      rw [zo154_1]
      simp (decide := true) (disch := omega) only [t, t2, c3, zi154, zt154, zo154_0, zo154_2, zo154_3, zo154_4, zy_ldI, zy_ldL, zy_ldA, zy_stI, zy_stL, zy_stA, zy_cI, zy_cL, zy_nul, zy_inc, zy_bI, zy_bL, zy_sL, zy_un, zy_cmp, zy_dup, zy_dup2, zy_pop, zy_pop2, zy_jn, zy_jnn, zy_go, zy_fal, zy_tsw, zy_lsw, zy_get, zy_put, zy_ald, zy_ast, zy_len, zy_newa, zy_new, zy_cal, zy_ret, zy_tak, zy_cst, zy_acp, zy_oini, zy_cln, zy_thr, zy_bad, zy_lco, zy_if0, zy_ic0, zy_if1, zy_ic1, zy_if2, zy_ic2, zy_if3, zy_ic3, zy_if4, zy_ic4, zy_if5, zy_ic5, zK_go, zK_to, zK_end, zK_callH, zK_iteC, zK_none, zsLd, zsSt, zsInc, zsBI, zsBL, zsSL, zsUn, zsCmp, zsDup, zsDup2, zsPop, zsPop2, zsJn, zsTsw, zsLsw, zsGet, zsPut, zsAld, zsAst, zsLen, zsNewa, zsCal, zsRet, zsCst, zsAcp, zsOini, zsCln, zsLco, zsThr, zxBI, zxBL, zxSL, zxU, zset1, zset2, zclr, zcat, zmake_mk, zcomp, zH_i, zH_l, zH_r, zH_u, zH_n, List.set_cons_zero, List.set_cons_succ, List.getElem?_cons_zero, List.getElem?_cons_succ, List.length_cons, List.length_nil, List.take_succ_cons, List.take_zero, List.drop_succ_cons, List.drop_zero, List.reverse_cons, List.reverse_nil, List.nil_append, List.cons_append, List.map_cons, List.map_nil, List.sum_cons, List.sum_nil, Option.toList_some, Option.toList_none, Value.category, Nat.reduceAdd, Nat.reduceMul, Nat.reduceMod, Nat.reduceDiv, Nat.reduceSub, Nat.reduceLT, Nat.reduceLeDiff, Nat.reduceEqDiff, Nat.zero_le, Nat.le_refl, Int32.reduceToNatClampNeg, Int32.reduceLT, Int32.reduceLE, Int32.reduceAdd, Int32.reduceSub, Int32.reduceMul, ↓reduceIte, reduceCtorEq, Nat.add_zero, Nat.zero_add, true_or, or_true, false_or, or_false, true_and, and_true, false_and, and_false, not_true_eq_false, not_false_eq_true, if_true, if_false, true_implies, false_implies, implies_true, forall_const, false_imp_iff, true_imp_iff, va_rf, zlay, zent, List.replicate_zero, List.append_nil, List.replicate_succ, List.length_append, ne_eq, Option.some.injEq, Value.int.injEq, Value.long.injEq, Int32.reduceOfNat, Int32.reduceToInt, Int.reduceLT, Int.reduceLE, Int.reduceSub, Int.reduceToNat, Int.reduceAdd, Int.reduceNeg, Int32.reduceDiv, Int64.reduceAdd, Int64.reduceSub, lg_cmp_ge, lg_cmp_le, lg_cmp_gt, lg_cmp_lt, lg_cmp_eq, wlt_t, wlt_f, wle_t, wle_f, wmod, wI_lt, wI_le, wI_eq, wI_neg, wI_pos, wI_cl, wI_ge, wI_po, w64_lt, w64_le, w64_eq, w64_lt0, w64_le0, w64_eq0, w64_32, zc317, zc319, wI_add, wI_a1, wI_s1, wI_e0, wI_m8, wI_m128, wI_m64, wI_m190, not_true_eq_false, not_false_eq_true, sP_2762_6 hS, sP_2762_7 hS, sN_2928 hS, sN_2960 hS, sN_6417 hS]
      exact hQ
  | succ d ih =>
    intro e b j hj hd he hQ
    match e, hd, he, hQ with
    | v :: e, hd, ⟨c, c1, c2, c3, c4⟩, hQ =>
      have g := ih e (I 2960 c) (j + 1) (by omega) (Nat.lt_of_succ_lt_succ hd) c4 hQ
      subst c1
      have t2 : ¬ nI c ≤ -1 := fun h => by
        rw [Int32.le_iff_toInt_le, nI_toInt (by omega)] at h
        have e : (-1 : Int32).toInt = -1 := rfl
        omega
      have e1 := w64_a1 (i := j) (by omega)
      rw [zo154_1]
      simp (decide := true) (disch := omega) only [t2, e1, zi154, zt154, zo154_0, zo154_2, zo154_3, zo154_4, zy_ldI, zy_ldL, zy_ldA, zy_stI, zy_stL, zy_stA, zy_cI, zy_cL, zy_nul, zy_inc, zy_bI, zy_bL, zy_sL, zy_un, zy_cmp, zy_dup, zy_dup2, zy_pop, zy_pop2, zy_jn, zy_jnn, zy_go, zy_fal, zy_tsw, zy_lsw, zy_get, zy_put, zy_ald, zy_ast, zy_len, zy_newa, zy_new, zy_cal, zy_ret, zy_tak, zy_cst, zy_acp, zy_oini, zy_cln, zy_thr, zy_bad, zy_lco, zy_if0, zy_ic0, zy_if1, zy_ic1, zy_if2, zy_ic2, zy_if3, zy_ic3, zy_if4, zy_ic4, zy_if5, zy_ic5, zK_go, zK_to, zK_end, zK_callH, zK_iteC, zK_none, zsLd, zsSt, zsInc, zsBI, zsBL, zsSL, zsUn, zsCmp, zsDup, zsDup2, zsPop, zsPop2, zsJn, zsTsw, zsLsw, zsGet, zsPut, zsAld, zsAst, zsLen, zsNewa, zsCal, zsRet, zsCst, zsAcp, zsOini, zsCln, zsLco, zsThr, zxBI, zxBL, zxSL, zxU, zset1, zset2, zclr, zcat, zmake_mk, zcomp, zH_i, zH_l, zH_r, zH_u, zH_n, List.set_cons_zero, List.set_cons_succ, List.getElem?_cons_zero, List.getElem?_cons_succ, List.length_cons, List.length_nil, List.take_succ_cons, List.take_zero, List.drop_succ_cons, List.drop_zero, List.reverse_cons, List.reverse_nil, List.nil_append, List.cons_append, List.map_cons, List.map_nil, List.sum_cons, List.sum_nil, Option.toList_some, Option.toList_none, Value.category, Nat.reduceAdd, Nat.reduceMul, Nat.reduceMod, Nat.reduceDiv, Nat.reduceSub, Nat.reduceLT, Nat.reduceLeDiff, Nat.reduceEqDiff, Nat.zero_le, Nat.le_refl, Int32.reduceToNatClampNeg, Int32.reduceLT, Int32.reduceLE, Int32.reduceAdd, Int32.reduceSub, Int32.reduceMul, ↓reduceIte, reduceCtorEq, Nat.add_zero, Nat.zero_add, true_or, or_true, false_or, or_false, true_and, and_true, false_and, and_false, not_true_eq_false, not_false_eq_true, if_true, if_false, true_implies, false_implies, implies_true, forall_const, false_imp_iff, true_imp_iff, va_rf, zlay, zent, List.replicate_zero, List.append_nil, List.replicate_succ, List.length_append, ne_eq, Option.some.injEq, Value.int.injEq, Value.long.injEq, Int32.reduceOfNat, Int32.reduceToInt, Int.reduceLT, Int.reduceLE, Int.reduceSub, Int.reduceToNat, Int.reduceAdd, Int.reduceNeg, Int32.reduceDiv, Int64.reduceAdd, Int64.reduceSub, lg_cmp_ge, lg_cmp_le, lg_cmp_gt, lg_cmp_lt, lg_cmp_eq, wlt_t, wlt_f, wle_t, wle_f, wmod, wI_lt, wI_le, wI_eq, wI_neg, wI_pos, wI_cl, wI_ge, wI_po, w64_lt, w64_le, w64_eq, w64_lt0, w64_le0, w64_eq0, w64_32, zc317, zc319, wI_add, wI_a1, wI_s1, wI_e0, wI_m8, wI_m128, wI_m64, wI_m190, not_true_eq_false, not_false_eq_true, sP_2762_6 hS, sP_2762_7 hS, sN_2928 hS, sN_2960 hS, sN_6417 hS]
      exact g
set_option maxRecDepth 20000 in
theorem m154 {k : Nat} {b : Int32} {e : List Nat} (hS : zStat P N) (hk1 : 1 ≤ k) (hk : k ≤ e.length) (hk2 : k < 2 ^ 30) (hbn : bn ≤ 3000) (he : yEn I bn b e) (Q : Option Value → zS → Prop) : zC 154 [.ref 2762, .int b, .long (nI k).toInt64] (I, J, P, N, n, z) Q = Q (some (.int (nI (e.getD (k - 1) 0)))) (I, J, P, N, n, z) := by
  refine zC_eq (fun Q hQ => ?_) Q
  simp (decide := true) (disch := omega) only [zi154, zt154, zo154_0, zo154_2, zo154_3, zo154_4, zy_ldI, zy_ldL, zy_ldA, zy_stI, zy_stL, zy_stA, zy_cI, zy_cL, zy_nul, zy_inc, zy_bI, zy_bL, zy_sL, zy_un, zy_cmp, zy_dup, zy_dup2, zy_pop, zy_pop2, zy_jn, zy_jnn, zy_go, zy_fal, zy_tsw, zy_lsw, zy_get, zy_put, zy_ald, zy_ast, zy_len, zy_newa, zy_new, zy_cal, zy_ret, zy_tak, zy_cst, zy_acp, zy_oini, zy_cln, zy_thr, zy_bad, zy_lco, zy_if0, zy_ic0, zy_if1, zy_ic1, zy_if2, zy_ic2, zy_if3, zy_ic3, zy_if4, zy_ic4, zy_if5, zy_ic5, zK_go, zK_to, zK_end, zK_callH, zK_iteC, zK_none, zsLd, zsSt, zsInc, zsBI, zsBL, zsSL, zsUn, zsCmp, zsDup, zsDup2, zsPop, zsPop2, zsJn, zsTsw, zsLsw, zsGet, zsPut, zsAld, zsAst, zsLen, zsNewa, zsCal, zsRet, zsCst, zsAcp, zsOini, zsCln, zsLco, zsThr, zxBI, zxBL, zxSL, zxU, zset1, zset2, zclr, zcat, zmake_mk, zcomp, zH_i, zH_l, zH_r, zH_u, zH_n, List.set_cons_zero, List.set_cons_succ, List.getElem?_cons_zero, List.getElem?_cons_succ, List.length_cons, List.length_nil, List.take_succ_cons, List.take_zero, List.drop_succ_cons, List.drop_zero, List.reverse_cons, List.reverse_nil, List.nil_append, List.cons_append, List.map_cons, List.map_nil, List.sum_cons, List.sum_nil, Option.toList_some, Option.toList_none, Value.category, Nat.reduceAdd, Nat.reduceMul, Nat.reduceMod, Nat.reduceDiv, Nat.reduceSub, Nat.reduceLT, Nat.reduceLeDiff, Nat.reduceEqDiff, Nat.zero_le, Nat.le_refl, Int32.reduceToNatClampNeg, Int32.reduceLT, Int32.reduceLE, Int32.reduceAdd, Int32.reduceSub, Int32.reduceMul, ↓reduceIte, reduceCtorEq, Nat.add_zero, Nat.zero_add, true_or, or_true, false_or, or_false, true_and, and_true, false_and, and_false, not_true_eq_false, not_false_eq_true, if_true, if_false, true_implies, false_implies, implies_true, forall_const, false_imp_iff, true_imp_iff, va_rf, zlay, zent, List.replicate_zero, List.append_nil, List.replicate_succ, List.length_append, ne_eq, Option.some.injEq, Value.int.injEq, Value.long.injEq, Int32.reduceOfNat, Int32.reduceToInt, Int.reduceLT, Int.reduceLE, Int.reduceSub, Int.reduceToNat, Int.reduceAdd, Int.reduceNeg, Int32.reduceDiv, Int64.reduceAdd, Int64.reduceSub, lg_cmp_ge, lg_cmp_le, lg_cmp_gt, lg_cmp_lt, lg_cmp_eq, wlt_t, wlt_f, wle_t, wle_f, wmod, wI_lt, wI_le, wI_eq, wI_neg, wI_pos, wI_cl, wI_ge, wI_po, w64_lt, w64_le, w64_eq, w64_lt0, w64_le0, w64_eq0, w64_32, zc317, zc319, wI_add, wI_a1, wI_s1, wI_e0, wI_m8, wI_m128, wI_m64, wI_m190, not_true_eq_false, not_false_eq_true, sP_2762_6 hS, sP_2762_7 hS, sN_2928 hS, sN_2960 hS, sN_6417 hS]
  exact l154 hS hk2 hbn (k - 1) e b 1 (by omega) (by omega) he hQ
set_option maxRecDepth 20000 in
theorem m153 {v : Int32} {b : Int32} (hS : zStat P N) (hb : I 2762 8 = nI bn) (h : bn < 3000) (Q : Option Value → zS → Prop) : zC 153 [.ref 2762, .int v, .int b] (I, J, P, N, n, z) Q = Q (some (.int (nI bn))) (zu (zu (zu I 2928 bn v) 2960 bn b) 2762 8 (nI (bn + 1)), J, P, N, n, z) := by
  refine zC_eq (fun Q hQ => ?_) Q
  have e1 : nI 3000 - 1 = nI 2999 := rfl
  have e2 : ¬ nI 2999 < nI bn := by rw [wI_lt (by omega) (by omega)]; omega
  simp (decide := true) (disch := omega) only [hb, e1, e2, zuR_ne, zi153, zt153, zo153_0, zy_ldI, zy_ldL, zy_ldA, zy_stI, zy_stL, zy_stA, zy_cI, zy_cL, zy_nul, zy_inc, zy_bI, zy_bL, zy_sL, zy_un, zy_cmp, zy_dup, zy_dup2, zy_pop, zy_pop2, zy_jn, zy_jnn, zy_go, zy_fal, zy_tsw, zy_lsw, zy_get, zy_put, zy_ald, zy_ast, zy_len, zy_newa, zy_new, zy_cal, zy_ret, zy_tak, zy_cst, zy_acp, zy_oini, zy_cln, zy_thr, zy_bad, zy_lco, zy_if0, zy_ic0, zy_if1, zy_ic1, zy_if2, zy_ic2, zy_if3, zy_ic3, zy_if4, zy_ic4, zy_if5, zy_ic5, zK_go, zK_to, zK_end, zK_callH, zK_iteC, zK_none, zsLd, zsSt, zsInc, zsBI, zsBL, zsSL, zsUn, zsCmp, zsDup, zsDup2, zsPop, zsPop2, zsJn, zsTsw, zsLsw, zsGet, zsPut, zsAld, zsAst, zsLen, zsNewa, zsCal, zsRet, zsCst, zsAcp, zsOini, zsCln, zsLco, zsThr, zxBI, zxBL, zxSL, zxU, zset1, zset2, zclr, zcat, zmake_mk, zcomp, zH_i, zH_l, zH_r, zH_u, zH_n, List.set_cons_zero, List.set_cons_succ, List.getElem?_cons_zero, List.getElem?_cons_succ, List.length_cons, List.length_nil, List.take_succ_cons, List.take_zero, List.drop_succ_cons, List.drop_zero, List.reverse_cons, List.reverse_nil, List.nil_append, List.cons_append, List.map_cons, List.map_nil, List.sum_cons, List.sum_nil, Option.toList_some, Option.toList_none, Value.category, Nat.reduceAdd, Nat.reduceMul, Nat.reduceMod, Nat.reduceDiv, Nat.reduceSub, Nat.reduceLT, Nat.reduceLeDiff, Nat.reduceEqDiff, Nat.zero_le, Nat.le_refl, Int32.reduceToNatClampNeg, Int32.reduceLT, Int32.reduceLE, Int32.reduceAdd, Int32.reduceSub, Int32.reduceMul, ↓reduceIte, reduceCtorEq, Nat.add_zero, Nat.zero_add, true_or, or_true, false_or, or_false, true_and, and_true, false_and, and_false, not_true_eq_false, not_false_eq_true, if_true, if_false, true_implies, false_implies, implies_true, forall_const, false_imp_iff, true_imp_iff, va_rf, zlay, zent, List.replicate_zero, List.append_nil, List.replicate_succ, List.length_append, ne_eq, Option.some.injEq, Value.int.injEq, Value.long.injEq, Int32.reduceOfNat, Int32.reduceToInt, Int.reduceLT, Int.reduceLE, Int.reduceSub, Int.reduceToNat, Int.reduceAdd, Int.reduceNeg, Int32.reduceDiv, Int64.reduceAdd, Int64.reduceSub, lg_cmp_ge, lg_cmp_le, lg_cmp_gt, lg_cmp_lt, lg_cmp_eq, wlt_t, wlt_f, wle_t, wle_f, wmod, wI_lt, wI_le, wI_eq, wI_neg, wI_pos, wI_cl, wI_ge, wI_po, w64_lt, w64_le, w64_eq, w64_lt0, w64_le0, w64_eq0, w64_32, zc317, zc319, wI_add, wI_a1, wI_s1, wI_e0, wI_m8, wI_m128, wI_m64, wI_m190, not_true_eq_false, not_false_eq_true, sP_2762_6 hS, sP_2762_7 hS, sN_2928 hS, sN_2960 hS, sN_6417 hS]
  exact hQ
end
