-- needs: 01 02.names 03 04 05 18 19 20 22 23 24 25 30 31 32 33 36 40 42 43 47 60 61 62 63 64
/-! one node of a term, read by the class: as a whole -/
theorem zPu_ne {I : zI} {w c : Nat} (h1 : c ≠ 424) (h2 : c ≠ 560) (h3 : c ≠ 592) (h4 : c ≠ 624) : ∀ L, zPu I w L c = I c := by
  intro L
  induction L with
  | nil => rfl
  | cons x L ih =>
    unfold zPu
    rw [zuR_ne h1, zuR_ne h4, zuR_ne h3, zuR_ne h2, ih]
theorem zPu_4 {I : zI} {w j : Nat} (h : j ≠ 6) : ∀ L, zPu I w L 424 j = I 424 j := by
  intro L
  induction L with
  | nil => rfl
  | cons x L ih =>
    unfold zPu
    rw [zu_nj h, zuR_ne (by decide), zuR_ne (by decide), zuR_ne (by decide), ih]
theorem zPu_6 {I : zI} {w : Nat} (h : I 424 6 = nI w) : ∀ L, zPu I w L 424 6 = nI (w + L.length) := by
  intro L
  cases L with
  | nil => exact h
  | cons x L =>
    unfold zPu
    rw [zu_at]
    rfl
theorem zPu_lt {I : zI} {w j : Nat} (h : j < w) : ∀ L, zPu I w L 560 j = I 560 j ∧ zPu I w L 592 j = I 592 j ∧ zPu I w L 624 j = I 624 j := by
  intro L
  induction L with
  | nil => exact ⟨rfl, rfl, rfl⟩
  | cons x L ih =>
    unfold zPu
    simp (disch := omega) only [zuR_ne, zu_nj]
    exact ih
theorem zSk_pu {I : zI} {W : List (Nat × Nat × Int32)} (hs : zSk I W) : ∀ L, zSk (zPu I W.length L) (L ++ W) := by
  intro L
  induction L with
  | nil => exact hs
  | cons x L ih =>
    have e : (L ++ W).length = W.length + L.length := by rw [List.length_append]; omega
    refine ⟨?_, ?_, ?_, zSk_c (L ++ W) (fun j hj => ?_) ih⟩
    · rw [show (List.append L W).length = W.length + L.length from e]
      unfold zPu
      simp (disch := omega) only [zuR_ne, zu_at]
    · rw [show (List.append L W).length = W.length + L.length from e]
      unfold zPu
      simp (disch := omega) only [zuR_ne, zu_at]
    · rw [show (List.append L W).length = W.length + L.length from e]
      unfold zPu
      simp (disch := omega) only [zuR_ne, zu_at]
    · rw [show zPu I W.length (x :: L) = zu (zu (zu (zu (zPu I W.length L) 560 (W.length + L.length) (nI x.1)) 592 (W.length + L.length) (nI x.2.1)) 624 (W.length + L.length) x.2.2) 424 6 (nI (W.length + L.length + 1)) from rfl]
      simp (disch := omega) only [zuR_ne, zu_nj]
      exact ⟨trivial, trivial, trivial⟩
theorem zKd_len {q d b k : Nat} : (zKd q d b k).length ≤ 2 := by
  unfold zKd
  repeat' split
  all_goals simp
section
variable {I : zI} {J : zJ} {P : zP} {N : Nat → Nat} {n z t : Nat} {Q : Option Value → zS → Prop}
set_option maxRecDepth 20000 in
set_option maxHeartbeats 4000000 in
/-- from the call of readNumber on -/
theorem g111 {B : Nat → Nat} {q b k a d : Nat} {o : Int32} {W : List (Nat × Nat × Int32)} (eB : (fun j => zby' (I 239 j)) = B) (hS : zStat P N) (hP : P 424 7 = some 239) (he : I 424 8 = nI t) (ht : t ≤ 4096) (ha : a ≤ t) (e1 : I 424 11 = nI a) (e2 : J 424 10 = 0) (hq : q < 12) (hb : b < 2 ^ 31) (hk : k < 200) (e6 : I 424 6 = nI W.length) (hw : W.length < 62) (hs : zSk I W)
    (hQ : ∀ I' J', (∀ c, c ≠ 424 → c ≠ 528 → c ≠ 560 → c ≠ 592 → c ≠ 624 → I' c = I c) → (∀ c, c ≠ 424 → c ≠ 497 → J' c = J c) →
      ((zRn B t q b a).1 = 0 → ((∀ j, j ≠ 6 → j ≠ 11 → I' 424 j = I 424 j) ∧ I' 424 11 = nI (zRn B t q b a).2.1 ∧ I' 424 6 = nI ((zKd q d b k) ++ W).length ∧ zSk I' (zKd q d b k ++ W)) ∧ (J' 497 k = (zRn B t q b a).2.2 ∧ ∀ j, j ≠ k → J' 497 j = J 497 j) ∧ (I' 528 k = if q = 8 then nI (a + 1) else I 528 k) ∧ ∀ j, j ≠ k → I' 528 j = I 528 j) →
      Q (some (.int (nI (zRn B t q b a).1))) (I', J', P, N, n, z)) :
    zC 113 [.ref 424, .int (nI q), .int (nI b), .int (nI k)] (I, J, P, N, n, z) (zH (zcal 113 4 1 8) [] zt111 [zstI 6, zldA 0, zget 8 1 2, zldI 5, zldA 0, zget 8 10 1, zast 1, zldA 0, zldI 4, zldI 1, zldI 2, zldI 5, zcal 112 5 1 8, zldI 6, zret 1] [some (.ref 424), some (.int (nI d)), some (.int (nI b)), some (.int o), some (.int (nI q)), some (.int (nI k)), none] Q) := by
  subst eB
  refine m113 hS hP he ht ha e1 e2 hq hb hk (fun I' J' R => ?_)
  obtain ⟨r1, r2, r3⟩ := R
  have f6 : I' 424 6 = nI W.length := by rw [r1 424 6 (by omega) (by omega)]; exact e6
  have p := fun (Q : Option Value → zS → Prop) => m112 (I := I') (J := zu J' 497 k (J' 424 10)) (n := n) (z := z) (d := d) (b := b) (k := k) hS hw f6 hq Q
  simp (decide := true) (disch := omega) only [p, zi111, zt111, zy_ldI, zy_ldL, zy_ldA, zy_stI, zy_stL, zy_stA, zy_cI, zy_cL, zy_nul, zy_inc, zy_bI, zy_bL, zy_sL, zy_un, zy_cmp, zy_dup, zy_dup2, zy_pop, zy_pop2, zy_jn, zy_jnn, zy_go, zy_fal, zy_tsw, zy_lsw, zy_get, zy_put, zy_ald, zy_ast, zy_len, zy_newa, zy_new, zy_cal, zy_ret, zy_tak, zy_cst, zy_acp, zy_oini, zy_cln, zy_thr, zy_bad, zy_lco, zy_if0, zy_ic0, zy_if1, zy_ic1, zy_if2, zy_ic2, zy_if3, zy_ic3, zy_if4, zy_ic4, zy_if5, zy_ic5, zK_go, zK_to, zK_end, zK_callH, zK_iteC, zK_none, zsLd, zsSt, zsInc, zsBI, zsBL, zsSL, zsUn, zsCmp, zsDup, zsDup2, zsPop, zsPop2, zsJn, zsTsw, zsLsw, zsGet, zsPut, zsAld, zsAst, zsLen, zsNewa, zsCal, zsRet, zsCst, zsAcp, zsOini, zsCln, zsLco, zsThr, zxBI, zxBL, zxSL, zxU, zset1, zset2, zclr, zcat, zmake_mk, zcomp, zH_i, zH_l, zH_r, zH_u, zH_n, List.set_cons_zero, List.set_cons_succ, List.getElem?_cons_zero, List.getElem?_cons_succ, List.length_cons, List.length_nil, List.take_succ_cons, List.take_zero, List.drop_succ_cons, List.drop_zero, List.reverse_cons, List.reverse_nil, List.nil_append, List.cons_append, List.map_cons, List.map_nil, List.sum_cons, List.sum_nil, Option.toList_some, Option.toList_none, Value.category, Nat.reduceAdd, Nat.reduceMul, Nat.reduceMod, Nat.reduceDiv, Nat.reduceSub, Nat.reduceLT, Nat.reduceLeDiff, Nat.reduceEqDiff, Nat.zero_le, Nat.le_refl, Int32.reduceToNatClampNeg, Int32.reduceLT, Int32.reduceLE, Int32.reduceAdd, Int32.reduceSub, Int32.reduceMul, ↓reduceIte, reduceCtorEq, Nat.add_zero, Nat.zero_add, true_or, or_true, false_or, or_false, true_and, and_true, false_and, and_false, not_true_eq_false, not_false_eq_true, if_true, if_false, true_implies, false_implies, implies_true, forall_const, false_imp_iff, true_imp_iff, va_rf, zlay, zent, List.replicate_zero, List.append_nil, List.replicate_succ, List.length_append, ne_eq, Option.some.injEq, Value.int.injEq, Value.long.injEq, Int32.reduceOfNat, Int32.reduceToInt, Int.reduceLT, Int.reduceLE, Int.reduceSub, Int.reduceToNat, Int.reduceAdd, Int.reduceNeg, Int32.reduceDiv, Int64.reduceAdd, Int64.reduceSub, lg_cmp_ge, lg_cmp_le, lg_cmp_gt, lg_cmp_lt, lg_cmp_eq, wlt_t, wlt_f, wle_t, wle_f, wmod, wI_lt, wI_le, wI_eq, wI_neg, wI_pos, wI_cl, wI_ge, wI_po, w64_lt, w64_le, w64_eq, w64_lt0, w64_le0, w64_eq0, w64_32, zc317, zc319, wI_add, wI_a1, wI_s1, wI_e0, wI_m8, wI_m128, wI_m64, wI_m190, not_true_eq_false, not_false_eq_true, sP_424_0 hS, sP_424_1 hS, sP_424_2 hS, sP_424_3 hS, sP_424_4 hS, sP_424_5 hS, sN_463 hS, sN_497 hS, sN_528 hS, sN_560 hS, sN_592 hS, sN_624 hS, sN_6417 hS]
  refine hQ _ _ (fun c h1 h2 h3 h4 h5 => ?_) (fun c h1 h2 => ?_) (fun h0 => ?_)
  · rw [zPu_ne h1 h3 h4 h5]
    funext j
    exact r1 c j (by omega) (by omega)
  · rw [zuR_ne h2]
    funext j
    exact r2 c j (by omega)
  · obtain ⟨r4, r5, r6⟩ := r3 h0
    refine ⟨⟨fun j h1 h2 => ?_, ?_, ?_, ?_⟩, ⟨?_, fun j hj => ?_⟩, ?_, fun j hj => ?_⟩
    · rw [zPu_4 h1]
      exact r1 424 j (by omega) (by omega)
    · rw [zPu_4 (by decide)]
      exact r4
    · rw [zPu_6 f6, List.length_append, Nat.add_comm]
    · exact zSk_pu (zSk_c W (fun j hj => ⟨r1 560 j (by omega) (by omega), r1 592 j (by omega) (by omega), r1 624 j (by omega) (by omega)⟩) hs) _
    · rw [zu_at]
      exact r5
    · rw [zu_nj hj]
      exact r2 497 j (by omega)
    · rw [zPu_ne (by decide) (by decide) (by decide) (by decide)]
      exact r6
    · rw [zPu_ne (by decide) (by decide) (by decide) (by decide)]
      exact r1 528 j (by omega) (by omega)
end
