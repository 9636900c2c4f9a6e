-- needs: 01 02.names 03 04 05 18 19 20 22 23 24 25 30 31 32 33 36 40 42 43 47 60 61 62 63 64 65 66
/-! the reading of a term as a whole: what it comes to, and the loop of the class -/
/-- nodes, place, depth, what is waited for, kinds, numbers, seconds -/
abbrev zPS : Type := Nat × Nat × Nat × List (Nat × Nat × Int32) × (Nat → Nat) × (Nat → Int64) × (Nat → Nat)
noncomputable def zPr (B : Nat → Nat) (t : Nat) : Nat → zPS → Nat × zPS
  | 0, s => (0, s)
  | r + 1, (k, a, dm, W, K, V, S) => match W with
    | [] => (0, (k, a, dm, [], K, V, S))
    | (d, b, o) :: W' => if zNf B t k a d b = 0 then zPr B t r (k + 1, (zRn B t (B a) b (a + 1)).2.1, max dm d, zKd (B a) d b k ++ W', (fun j => if j = k then B a else K j), (fun j => if j = k then (zRn B t (B a) b (a + 1)).2.2 else V j), (fun j => if j = k then (if B a = 8 then a + 2 else 0) else if o = nI j then k else S j))
      else (zNf B t k a d b, (k, a, dm, (d, b, o) :: W', K, V, S))
/-- entries of the stack that are not on its top -/
def zDq (k : Nat) : List (Nat × Nat × Int32) → Prop
  | [] => True
  | x :: W => (W.length + 1 ≤ x.1 ∧ x.1 ≤ 61 ∧ x.2.1 < x.1 ∧ (x.2.2 = -1 ∨ ∃ j, j < k ∧ x.2.2 = nI j)) ∧ zDq k W
/-- the stack -/
def zDp (k : Nat) : List (Nat × Nat × Int32) → Prop
  | [] => True
  | x :: W => (W.length ≤ x.1 ∧ x.1 ≤ 61 ∧ x.2.1 < x.1 ∧ (x.2.2 = -1 ∨ ∃ j, j < k ∧ x.2.2 = nI j)) ∧ zDq k W
theorem zDq_k {k k' : Nat} (h : k ≤ k') : ∀ W, zDq k W → zDq k' W := by
  intro W
  induction W with
  | nil => intro _; trivial
  | cons x W ih =>
    rintro ⟨⟨h1, h2, h3, h4⟩, h5⟩
    exact ⟨⟨h1, h2, h3, h4.imp id (fun ⟨j, hj, e⟩ => ⟨j, by omega, e⟩)⟩, ih h5⟩
theorem zDq_p {k : Nat} : ∀ W, zDq k W → zDp k W := by
  intro W
  cases W with
  | nil => intro _; trivial
  | cons x W =>
    rintro ⟨⟨h1, h2, h3, h4⟩, h5⟩
    exact ⟨⟨by omega, h2, h3, h4⟩, h5⟩
theorem zDp_s {q d b k : Nat} {o : Int32} {W : List (Nat × Nat × Int32)} (hd : d ≤ 60) (h : zDp k ((d, b, o) :: W)) : zDp (k + 1) (zKd q d b k ++ W) := by
  obtain ⟨⟨h1, h2, h3, -⟩, h5⟩ := h
  dsimp only at h1 h2 h3
  have h6 := zDq_k (Nat.le_succ k) W h5
  unfold zKd
  split
  · exact ⟨⟨by show W.length ≤ d + 1; omega, by show d + 1 ≤ 61; omega, by show b + 1 < d + 1; omega, Or.inl rfl⟩, h6⟩
  · split
    · exact ⟨⟨by show W.length ≤ d + 1; omega, by show d + 1 ≤ 61; omega, by show b < d + 1; omega, Or.inl rfl⟩, h6⟩
    · split
      · exact ⟨⟨by show W.length + 1 ≤ d + 1; omega, by show d + 1 ≤ 61; omega, by show b < d + 1; omega, Or.inl rfl⟩, ⟨by show W.length + 1 ≤ d + 1; omega, by show d + 1 ≤ 61; omega, by show b < d + 1; omega, Or.inr ⟨k, by omega, rfl⟩⟩, h6⟩
      · exact zDq_p W h6
theorem zRs_p {B : Nat → Nat} {t : Nat} : ∀ r k a v bf, a ≤ t → (zRs B t r k a v bf).1 = 0 → (zRs B t r k a v bf).2.1 ≤ t := by
  intro r
  induction r with
  | zero => intro k a v bf _ h; cases h
  | succ r ih =>
    intro k a v bf ha
    unfold zRs
    split
    · intro h; cases h
    · split
      · intro _
        show a + 1 ≤ t
        omega
      · intro h
        exact ih _ _ _ _ (by omega) h
theorem zRn_p {B : Nat → Nat} {t q b a : Nat} (ha : a ≤ t) (h : (zRn B t q b a).1 = 0) : (zRn B t q b a).2.1 ≤ t := by
  revert h
  unfold zRn
  split
  · intro h
    dsimp only at h ⊢
    split at h
    · rename_i h1; exact absurd h h1
    · rename_i h1
      exact (zRu_f 5 0 a 0).2 ha (Classical.byContradiction h1)
  · split
    · split
      · intro h; cases h
      · intro _
        show a + 1 ≤ t
        omega
    · split
      · exact zRs_p 10 0 a 0 0 ha
      · split
        · split
          · intro h; cases h
          · split
            · intro h; cases h
            · split
              · intro h; cases h
              · intro _
                show a + 1 + B a ≤ t
                omega
        · intro _; exact ha
theorem zRs_f {B : Nat → Nat} {t : Nat} : ∀ r k a v bf, (zRs B t r k a v bf).1 < 3 := by
  intro r
  induction r with
  | zero => intro k a v bf; show 2 < 3; omega
  | succ r ih =>
    intro k a v bf
    unfold zRs
    split
    · show 1 < 3; omega
    · split
      · dsimp only
        split <;> omega
      · exact ih _ _ _ _
theorem zRn_f {B : Nat → Nat} {t q b a : Nat} : (zRn B t q b a).1 < 5 := by
  have h1 := (zRu_f (B := B) (t := t) 5 0 a 0).1
  have h2 := zRs_f (B := B) (t := t) 10 0 a 0 0
  unfold zRn
  split
  · dsimp only
    repeat' split
    all_goals omega
  · split
    · split
      · show 1 < 5; omega
      · dsimp only
        repeat' split
        all_goals omega
    · split
      · omega
      · split
        · repeat' split
          all_goals dsimp only
          all_goals omega
        · show 0 < 5; omega
theorem zNf_f {B : Nat → Nat} {t k a d b : Nat} : zNf B t k a d b < 7 := by
  have := zRn_f (B := B) (t := t) (q := B a) (b := b) (a := a + 1)
  unfold zNf
  repeat' split
  all_goals omega
/-- the class holds what has been read -/
def zRl (I : zI) (J : zJ) (t : Nat) (s : zPS) : Prop := match s with
  | (k, a, dm, W, K, V, S) => (I 424 12 = nI k ∧ I 424 11 = nI a ∧ I 424 9 = nI dm ∧ I 424 8 = nI t ∧ I 424 6 = nI W.length ∧ zSk I W) ∧ ∀ j, j < k → I 463 j = nI (K j) ∧ J 497 j = V j ∧ I 528 j = nI (S j)
section
variable {P : zP} {N : Nat → Nat} {n z t : Nat} {Q : Option Value → zS → Prop}
theorem zNs_tr {I I' I'' : zI} {J J' J'' : zJ} (h : zNs I J I' J') (h' : zNs I' J' I'' J'') : zNs I J I'' J'' := ⟨fun c h1 h2 h3 h4 h5 h6 => (h'.1 c h1 h2 h3 h4 h5 h6).trans (h.1 c h1 h2 h3 h4 h5 h6), fun c h1 h2 => (h'.2 c h1 h2).trans (h.2 c h1 h2)⟩
set_option maxRecDepth 20000 in
set_option maxHeartbeats 4000000 in
theorem l108 {B : Nat → Nat} (hS : zStat P N) (hP : P 424 7 = some 239) (ht : t ≤ 4096) : ∀ (r k a dm : Nat) (W : List (Nat × Nat × Int32)) (K : Nat → Nat) (V : Nat → Int64) (S : Nat → Nat) (I : zI) (J : zJ) (u : Option Value), k + r = 201 → k ≤ 200 → a ≤ t → dm ≤ 60 → zDp k W → (fun j => zby' (I 239 j)) = B → zRl I J t (k, a, dm, W, K, V, S) →
    (∀ I' J', zNs I J I' J' → ((zPr B t r (k, a, dm, W, K, V, S)).1 = 0 → (zPr B t r (k, a, dm, W, K, V, S)).2.2.2.2.1 = [] ∧ (zPr B t r (k, a, dm, W, K, V, S)).2.1 ≤ 200 ∧ (zPr B t r (k, a, dm, W, K, V, S)).2.2.1 ≤ t ∧ (zPr B t r (k, a, dm, W, K, V, S)).2.2.2.1 ≤ 60 ∧ zRl I' J' t (zPr B t r (k, a, dm, W, K, V, S)).2) → Q (some (.int (nI (zPr B t r (k, a, dm, W, K, V, S)).1))) (I', J', P, N, n, z)) →
    zQ zt108 zo108_1 [some (.ref 424), some (.ref 239), some (.int (nI t)), some (.int (nI k)), u] [] (I, J, P, N, n, z) Q := by
  intro r
  induction r with
  | zero => intro k a dm W K V S I J u h1 h2; omega
  | succ r ih =>
    intro k a dm W K V S I J u hk hk2 ha hdm hD hB hR hQ
    obtain ⟨⟨q1, q2, q3, q4, q5, q6⟩, q7⟩ := hR
    have c200 : (200 < nI k) = (200 < k) := wI_gtc (c := 200)
    rw [zo108_1]
    cases W with
    | nil =>
      have q5 : I 424 6 = 0 := q5
      simp (decide := true) (disch := omega) only [c200, q5, zi108, zt108, zo108_0, zo108_2, zo108_3, zy_ldI, zy_ldL, zy_ldA, zy_stI, zy_stL, zy_stA, zy_cI, zy_cL, zy_nul, zy_inc, zy_bI, zy_bL, zy_sL, zy_un, zy_cmp, zy_dup, zy_dup2, zy_pop, zy_pop2, zy_jn, zy_jnn, zy_go, zy_fal, zy_tsw, zy_lsw, zy_get, zy_put, zy_ald, zy_ast, zy_len, zy_newa, zy_new, zy_cal, zy_ret, zy_tak, zy_cst, zy_acp, zy_oini, zy_cln, zy_thr, zy_bad, zy_lco, zy_if0, zy_ic0, zy_if1, zy_ic1, zy_if2, zy_ic2, zy_if3, zy_ic3, zy_if4, zy_ic4, zy_if5, zy_ic5, zK_go, zK_to, zK_end, zK_callH, zK_iteC, zK_none, zsLd, zsSt, zsInc, zsBI, zsBL, zsSL, zsUn, zsCmp, zsDup, zsDup2, zsPop, zsPop2, zsJn, zsTsw, zsLsw, zsGet, zsPut, zsAld, zsAst, zsLen, zsNewa, zsCal, zsRet, zsCst, zsAcp, zsOini, zsCln, zsLco, zsThr, zxBI, zxBL, zxSL, zxU, zset1, zset2, zclr, zcat, zmake_mk, zcomp, zH_i, zH_l, zH_r, zH_u, zH_n, List.set_cons_zero, List.set_cons_succ, List.getElem?_cons_zero, List.getElem?_cons_succ, List.length_cons, List.length_nil, List.take_succ_cons, List.take_zero, List.drop_succ_cons, List.drop_zero, List.reverse_cons, List.reverse_nil, List.nil_append, List.cons_append, List.map_cons, List.map_nil, List.sum_cons, List.sum_nil, Option.toList_some, Option.toList_none, Value.category, Nat.reduceAdd, Nat.reduceMul, Nat.reduceMod, Nat.reduceDiv, Nat.reduceSub, Nat.reduceLT, Nat.reduceLeDiff, Nat.reduceEqDiff, Nat.zero_le, Nat.le_refl, Int32.reduceToNatClampNeg, Int32.reduceLT, Int32.reduceLE, Int32.reduceAdd, Int32.reduceSub, Int32.reduceMul, ↓reduceIte, reduceCtorEq, Nat.add_zero, Nat.zero_add, true_or, or_true, false_or, or_false, true_and, and_true, false_and, and_false, not_true_eq_false, not_false_eq_true, if_true, if_false, true_implies, false_implies, implies_true, forall_const, false_imp_iff, true_imp_iff, va_rf, zlay, zent, List.replicate_zero, List.append_nil, List.replicate_succ, List.length_append, ne_eq, Option.some.injEq, Value.int.injEq, Value.long.injEq, Int32.reduceOfNat, Int32.reduceToInt, Int.reduceLT, Int.reduceLE, Int.reduceSub, Int.reduceToNat, Int.reduceAdd, Int.reduceNeg, Int32.reduceDiv, Int64.reduceAdd, Int64.reduceSub, lg_cmp_ge, lg_cmp_le, lg_cmp_gt, lg_cmp_lt, lg_cmp_eq, wlt_t, wlt_f, wle_t, wle_f, wmod, wI_lt, wI_le, wI_eq, wI_neg, wI_pos, wI_cl, wI_ge, wI_po, w64_lt, w64_le, w64_eq, w64_lt0, w64_le0, w64_eq0, w64_32, zc317, zc319, wI_add, wI_a1, wI_s1, wI_e0, wI_m8, wI_m128, wI_m64, wI_m190, not_true_eq_false, not_false_eq_true, sN_6417 hS]
      refine hQ I J ⟨fun _ _ _ _ _ _ _ => rfl, fun _ _ _ => rfl⟩ (fun _ => ⟨rfl, hk2, ha, hdm, ⟨q1, q2, q3, q4, q5, trivial⟩, q7⟩)
    | cons x W =>
      obtain ⟨d, b, o⟩ := x
      obtain ⟨⟨d1, d2, d3, d4⟩, d5⟩ := id hD
      dsimp only at d1 d2 d3 d4
      have q5 : I 424 6 = nI (W.length + 1) := q5
      simp (decide := true) (disch := omega) only [c200, q5, zi108, zt108, zo108_0, zo108_2, zo108_3, zy_ldI, zy_ldL, zy_ldA, zy_stI, zy_stL, zy_stA, zy_cI, zy_cL, zy_nul, zy_inc, zy_bI, zy_bL, zy_sL, zy_un, zy_cmp, zy_dup, zy_dup2, zy_pop, zy_pop2, zy_jn, zy_jnn, zy_go, zy_fal, zy_tsw, zy_lsw, zy_get, zy_put, zy_ald, zy_ast, zy_len, zy_newa, zy_new, zy_cal, zy_ret, zy_tak, zy_cst, zy_acp, zy_oini, zy_cln, zy_thr, zy_bad, zy_lco, zy_if0, zy_ic0, zy_if1, zy_ic1, zy_if2, zy_ic2, zy_if3, zy_ic3, zy_if4, zy_ic4, zy_if5, zy_ic5, zK_go, zK_to, zK_end, zK_callH, zK_iteC, zK_none, zsLd, zsSt, zsInc, zsBI, zsBL, zsSL, zsUn, zsCmp, zsDup, zsDup2, zsPop, zsPop2, zsJn, zsTsw, zsLsw, zsGet, zsPut, zsAld, zsAst, zsLen, zsNewa, zsCal, zsRet, zsCst, zsAcp, zsOini, zsCln, zsLco, zsThr, zxBI, zxBL, zxSL, zxU, zset1, zset2, zclr, zcat, zmake_mk, zcomp, zH_i, zH_l, zH_r, zH_u, zH_n, List.set_cons_zero, List.set_cons_succ, List.getElem?_cons_zero, List.getElem?_cons_succ, List.length_cons, List.length_nil, List.take_succ_cons, List.take_zero, List.drop_succ_cons, List.drop_zero, List.reverse_cons, List.reverse_nil, List.nil_append, List.cons_append, List.map_cons, List.map_nil, List.sum_cons, List.sum_nil, Option.toList_some, Option.toList_none, Value.category, Nat.reduceAdd, Nat.reduceMul, Nat.reduceMod, Nat.reduceDiv, Nat.reduceSub, Nat.reduceLT, Nat.reduceLeDiff, Nat.reduceEqDiff, Nat.zero_le, Nat.le_refl, Int32.reduceToNatClampNeg, Int32.reduceLT, Int32.reduceLE, Int32.reduceAdd, Int32.reduceSub, Int32.reduceMul, ↓reduceIte, reduceCtorEq, Nat.add_zero, Nat.zero_add, true_or, or_true, false_or, or_false, true_and, and_true, false_and, and_false, not_true_eq_false, not_false_eq_true, if_true, if_false, true_implies, false_implies, implies_true, forall_const, false_imp_iff, true_imp_iff, va_rf, zlay, zent, List.replicate_zero, List.append_nil, List.replicate_succ, List.length_append, ne_eq, Option.some.injEq, Value.int.injEq, Value.long.injEq, Int32.reduceOfNat, Int32.reduceToInt, Int.reduceLT, Int.reduceLE, Int.reduceSub, Int.reduceToNat, Int.reduceAdd, Int.reduceNeg, Int32.reduceDiv, Int64.reduceAdd, Int64.reduceSub, lg_cmp_ge, lg_cmp_le, lg_cmp_gt, lg_cmp_lt, lg_cmp_eq, wlt_t, wlt_f, wle_t, wle_f, wmod, wI_lt, wI_le, wI_eq, wI_neg, wI_pos, wI_cl, wI_ge, wI_po, w64_lt, w64_le, w64_eq, w64_lt0, w64_le0, w64_eq0, w64_32, zc317, zc319, wI_add, wI_a1, wI_s1, wI_e0, wI_m8, wI_m128, wI_m64, wI_m190, not_true_eq_false, not_false_eq_true, sN_6417 hS]
      subst hB
      refine e111 (W := W) (d := d) (b := b) (o := o) (dm := dm) (k := k) (a := a) hS hP q4 ht ha q2 q1 hk2 q5 (by omega) q6 d4 d2 (by omega) q3 (by omega) (fun I' J' hf ns => ?_) (fun hf g1 g2 g3 g4 g5 I' J' ns nc => ?_)
      · have hlt : zNf (fun j => zby' (I 239 j)) t k a d b < 2 ^ 31 := by
          have := zNf_f (B := fun j => zby' (I 239 j)) (t := t) (k := k) (a := a) (d := d) (b := b)
          omega
        have hf1 : ¬ nI (zNf (fun j => zby' (I 239 j)) t k a d b) = 0 := by rw [wI_e0 hlt]; exact hf
        have e : zPr (fun j => zby' (I 239 j)) t (r + 1) (k, a, dm, (d, b, o) :: W, K, V, S) = (zNf (fun j => zby' (I 239 j)) t k a d b, (k, a, dm, (d, b, o) :: W, K, V, S)) := by
          unfold zPr
          dsimp only
          rw [if_neg hf]
        rw [e] at hQ
        simp (decide := true) (disch := omega) only [hf1, zi108, zt108, zo108_0, zo108_2, zo108_3, zy_ldI, zy_ldL, zy_ldA, zy_stI, zy_stL, zy_stA, zy_cI, zy_cL, zy_nul, zy_inc, zy_bI, zy_bL, zy_sL, zy_un, zy_cmp, zy_dup, zy_dup2, zy_pop, zy_pop2, zy_jn, zy_jnn, zy_go, zy_fal, zy_tsw, zy_lsw, zy_get, zy_put, zy_ald, zy_ast, zy_len, zy_newa, zy_new, zy_cal, zy_ret, zy_tak, zy_cst, zy_acp, zy_oini, zy_cln, zy_thr, zy_bad, zy_lco, zy_if0, zy_ic0, zy_if1, zy_ic1, zy_if2, zy_ic2, zy_if3, zy_ic3, zy_if4, zy_ic4, zy_if5, zy_ic5, zK_go, zK_to, zK_end, zK_callH, zK_iteC, zK_none, zsLd, zsSt, zsInc, zsBI, zsBL, zsSL, zsUn, zsCmp, zsDup, zsDup2, zsPop, zsPop2, zsJn, zsTsw, zsLsw, zsGet, zsPut, zsAld, zsAst, zsLen, zsNewa, zsCal, zsRet, zsCst, zsAcp, zsOini, zsCln, zsLco, zsThr, zxBI, zxBL, zxSL, zxU, zset1, zset2, zclr, zcat, zmake_mk, zcomp, zH_i, zH_l, zH_r, zH_u, zH_n, List.set_cons_zero, List.set_cons_succ, List.getElem?_cons_zero, List.getElem?_cons_succ, List.length_cons, List.length_nil, List.take_succ_cons, List.take_zero, List.drop_succ_cons, List.drop_zero, List.reverse_cons, List.reverse_nil, List.nil_append, List.cons_append, List.map_cons, List.map_nil, List.sum_cons, List.sum_nil, Option.toList_some, Option.toList_none, Value.category, Nat.reduceAdd, Nat.reduceMul, Nat.reduceMod, Nat.reduceDiv, Nat.reduceSub, Nat.reduceLT, Nat.reduceLeDiff, Nat.reduceEqDiff, Nat.zero_le, Nat.le_refl, Int32.reduceToNatClampNeg, Int32.reduceLT, Int32.reduceLE, Int32.reduceAdd, Int32.reduceSub, Int32.reduceMul, ↓reduceIte, reduceCtorEq, Nat.add_zero, Nat.zero_add, true_or, or_true, false_or, or_false, true_and, and_true, false_and, and_false, not_true_eq_false, not_false_eq_true, if_true, if_false, true_implies, false_implies, implies_true, forall_const, false_imp_iff, true_imp_iff, va_rf, zlay, zent, List.replicate_zero, List.append_nil, List.replicate_succ, List.length_append, ne_eq, Option.some.injEq, Value.int.injEq, Value.long.injEq, Int32.reduceOfNat, Int32.reduceToInt, Int.reduceLT, Int.reduceLE, Int.reduceSub, Int.reduceToNat, Int.reduceAdd, Int.reduceNeg, Int32.reduceDiv, Int64.reduceAdd, Int64.reduceSub, lg_cmp_ge, lg_cmp_le, lg_cmp_gt, lg_cmp_lt, lg_cmp_eq, wlt_t, wlt_f, wle_t, wle_f, wmod, wI_lt, wI_le, wI_eq, wI_neg, wI_pos, wI_cl, wI_ge, wI_po, w64_lt, w64_le, w64_eq, w64_lt0, w64_le0, w64_eq0, w64_32, zc317, zc319, wI_add, wI_a1, wI_s1, wI_e0, wI_m8, wI_m128, wI_m64, wI_m190, not_true_eq_false, not_false_eq_true, sN_6417 hS]
        exact hQ I' J' ns (fun h => absurd h hf)
      · have e : zPr (fun j => zby' (I 239 j)) t (r + 1) (k, a, dm, (d, b, o) :: W, K, V, S) = zPr (fun j => zby' (I 239 j)) t r (k + 1, (zRn (fun j => zby' (I 239 j)) t (zby' (I 239 a)) b (a + 1)).2.1, max dm d, zKd (zby' (I 239 a)) d b k ++ W, (fun j => if j = k then zby' (I 239 a) else K j), (fun j => if j = k then (zRn (fun j => zby' (I 239 j)) t (zby' (I 239 a)) b (a + 1)).2.2 else V j), (fun j => if j = k then (if zby' (I 239 a) = 8 then a + 2 else 0) else if o = nI j then k else S j)) := by
          conv => lhs; unfold zPr
          dsimp only
          rw [if_pos hf]
        rw [e] at hQ
        obtain ⟨⟨n1, n2, n3, n4, n5, n6⟩, ⟨n7, n8, n9, n10⟩, n11, n12⟩ := nc
        have q := ih (k + 1) (zRn (fun j => zby' (I 239 j)) t (zby' (I 239 a)) b (a + 1)).2.1 (max dm d) (zKd (zby' (I 239 a)) d b k ++ W) (fun j => if j = k then zby' (I 239 a) else K j) (fun j => if j = k then (zRn (fun j => zby' (I 239 j)) t (zby' (I 239 a)) b (a + 1)).2.2 else V j) (fun j => if j = k then (if zby' (I 239 a) = 8 then a + 2 else 0) else if o = nI j then k else S j) I' J' (some (.int 0)) (by omega) (by omega) (zRn_p (by omega) g5) (by omega) (zDp_s g3 hD) (by rw [ns.1 239 (by decide) (by decide) (by decide) (by decide) (by decide) (by decide)]) ⟨⟨n1, n2, n3, n4.trans q4, n5, n6⟩, fun j hj => ?_⟩ (fun I2 J2 ns2 hz => hQ I2 J2 (zNs_tr ns ns2) hz)
        · simp (decide := true) (disch := omega) only [zi108, zt108, zo108_0, zo108_2, zo108_3, zy_ldI, zy_ldL, zy_ldA, zy_stI, zy_stL, zy_stA, zy_cI, zy_cL, zy_nul, zy_inc, zy_bI, zy_bL, zy_sL, zy_un, zy_cmp, zy_dup, zy_dup2, zy_pop, zy_pop2, zy_jn, zy_jnn, zy_go, zy_fal, zy_tsw, zy_lsw, zy_get, zy_put, zy_ald, zy_ast, zy_len, zy_newa, zy_new, zy_cal, zy_ret, zy_tak, zy_cst, zy_acp, zy_oini, zy_cln, zy_thr, zy_bad, zy_lco, zy_if0, zy_ic0, zy_if1, zy_ic1, zy_if2, zy_ic2, zy_if3, zy_ic3, zy_if4, zy_ic4, zy_if5, zy_ic5, zK_go, zK_to, zK_end, zK_callH, zK_iteC, zK_none, zsLd, zsSt, zsInc, zsBI, zsBL, zsSL, zsUn, zsCmp, zsDup, zsDup2, zsPop, zsPop2, zsJn, zsTsw, zsLsw, zsGet, zsPut, zsAld, zsAst, zsLen, zsNewa, zsCal, zsRet, zsCst, zsAcp, zsOini, zsCln, zsLco, zsThr, zxBI, zxBL, zxSL, zxU, zset1, zset2, zclr, zcat, zmake_mk, zcomp, zH_i, zH_l, zH_r, zH_u, zH_n, List.set_cons_zero, List.set_cons_succ, List.getElem?_cons_zero, List.getElem?_cons_succ, List.length_cons, List.length_nil, List.take_succ_cons, List.take_zero, List.drop_succ_cons, List.drop_zero, List.reverse_cons, List.reverse_nil, List.nil_append, List.cons_append, List.map_cons, List.map_nil, List.sum_cons, List.sum_nil, Option.toList_some, Option.toList_none, Value.category, Nat.reduceAdd, Nat.reduceMul, Nat.reduceMod, Nat.reduceDiv, Nat.reduceSub, Nat.reduceLT, Nat.reduceLeDiff, Nat.reduceEqDiff, Nat.zero_le, Nat.le_refl, Int32.reduceToNatClampNeg, Int32.reduceLT, Int32.reduceLE, Int32.reduceAdd, Int32.reduceSub, Int32.reduceMul, ↓reduceIte, reduceCtorEq, Nat.add_zero, Nat.zero_add, true_or, or_true, false_or, or_false, true_and, and_true, false_and, and_false, not_true_eq_false, not_false_eq_true, if_true, if_false, true_implies, false_implies, implies_true, forall_const, false_imp_iff, true_imp_iff, va_rf, zlay, zent, List.replicate_zero, List.append_nil, List.replicate_succ, List.length_append, ne_eq, Option.some.injEq, Value.int.injEq, Value.long.injEq, Int32.reduceOfNat, Int32.reduceToInt, Int.reduceLT, Int.reduceLE, Int.reduceSub, Int.reduceToNat, Int.reduceAdd, Int.reduceNeg, Int32.reduceDiv, Int64.reduceAdd, Int64.reduceSub, lg_cmp_ge, lg_cmp_le, lg_cmp_gt, lg_cmp_lt, lg_cmp_eq, wlt_t, wlt_f, wle_t, wle_f, wmod, wI_lt, wI_le, wI_eq, wI_neg, wI_pos, wI_cl, wI_ge, wI_po, w64_lt, w64_le, w64_eq, w64_lt0, w64_le0, w64_eq0, w64_32, zc317, zc319, wI_add, wI_a1, wI_s1, wI_e0, wI_m8, wI_m128, wI_m64, wI_m190, not_true_eq_false, not_false_eq_true, sN_6417 hS]
          exact q
        · dsimp only
          by_cases hjk : j = k
          · subst hjk
            rw [if_pos rfl, if_pos rfl, if_pos rfl]
            exact ⟨n7, n9, n11⟩
          · rw [if_neg hjk, if_neg hjk, if_neg hjk]
            obtain ⟨o1, o2, o3⟩ := q7 j (by omega)
            refine ⟨(n8 j hjk).trans o1, (n10 j hjk).trans o2, ?_⟩
            rw [n12 j (by omega)]
            split
            · rfl
            · exact o3
end
