-- needs: 01 02.names 03 04 05 18 19 20 22 23 24 25 30 31 32 33 36 40 42 43 44 46 47 60 61 62 63 64 79f 79g 79h 79i 79j 79k 79l 79m 79n 79o 79p 79q 79r 79s 79t 79u 7a 7b 7c
/-! The class's machine beside the one of our own: what lies where. nt nodes, bt bytes, tp values, bn bindings there are -/
/-- DATA lie at node b -/
def yCd (I : zI) (J : zJ) (nt bt b : Nat) : yD → Prop
  | (K, F, C, T, Z, L, Y) => b + K ≤ nt ∧ ∀ j, j < K → (I 79 (b + j) = nI (F j) ∧ I 112 (b + j) = nI (C j) ∧ I 144 (b + j) = nI (Z j) ∧ J 209 (b + j) = T j) ∧ (F j = 2 → ∃ p, I 176 (b + j) = nI p ∧ p + C j ≤ bt ∧ ∀ i, i < C j → I 239 (p + i) = Y j i)
/-- what variables stand for, from binding b on -/
def yEn (I : zI) (bn : Nat) : Int32 → List Nat → Prop
  | b, [] => b = -1
  | b, v :: e => ∃ c, b = nI c ∧ c < bn ∧ I 2928 c = nI v ∧ yEn I bn (I 2960 c) e
/-- what a BUILTIN was applied to -/
def yBc (I : zI) (tp : Nat) : Int32 → Int32 → List Nat → Prop
  | _, s, [] => s = -1
  | f, s, a :: l => f = nI a ∧ ∃ u, s = nI u ∧ u < tp ∧ yBc I tp (I 2864 u) (I 2896 u) l
/-- a value's entries -/
def yCw (I : zI) (J : zJ) (nt bt tp bn : Nat) (k f s : Int32) (x : Int64) : yV → Prop
  | (kd, nm, b, l, (K, F, C, T, Z, L, Y)) => k = nI kd ∧ (kd = 0 ∨ kd = 2 ∨ kd = 7 → x = nm) ∧ (kd = 1 → ∃ p, f = nI p ∧ s = nI (C 0) ∧ p + C 0 ≤ bt ∧ ∀ i, i < C 0 → I 239 (p + i) = Y 0 i) ∧ (kd = 4 → ∃ a, f = nI a ∧ yCd I J nt bt a (K, F, C, T, Z, L, Y)) ∧ (kd = 5 ∨ kd = 6 → f = nI b ∧ yEn I bn s l) ∧ (kd = 7 → yBc I tp f s l)
def yCv (I : zI) (J : zJ) (nt bt tp bn v : Nat) (w : yV) : Prop := yCw I J nt bt tp bn (I 2799 v) (I 2864 v) (I 2896 v) (J 2833 v) w
/-- what was there stands -/
def yCg (I : zI) (J : zJ) (I' : zI) (J' : zJ) (nt bt tp bn : Nat) : Prop :=
  (∀ j, j < nt → I' 79 j = I 79 j ∧ I' 112 j = I 112 j ∧ I' 144 j = I 144 j ∧ I' 176 j = I 176 j ∧ J' 209 j = J 209 j) ∧ (∀ j, j < bt → I' 239 j = I 239 j) ∧ (∀ v, v < tp → I' 2799 v = I 2799 v ∧ I' 2864 v = I 2864 v ∧ I' 2896 v = I 2896 v ∧ J' 2833 v = J 2833 v) ∧ ∀ c, c < bn → I' 2928 c = I 2928 c ∧ I' 2960 c = I 2960 c
section
variable {I I' I'' : zI} {J J' J'' : zJ} {nt bt tp bn nt' bt' tp' bn' : Nat}
theorem yCg_r : yCg I J I J nt bt tp bn := ⟨fun _ _ => ⟨rfl, rfl, rfl, rfl, rfl⟩, fun _ _ => rfl, fun _ _ => ⟨rfl, rfl, rfl, rfl⟩, fun _ _ => ⟨rfl, rfl⟩⟩
theorem yCg_t (h1 : nt ≤ nt') (h2 : bt ≤ bt') (h3 : tp ≤ tp') (h4 : bn ≤ bn') (g : yCg I J I' J' nt bt tp bn) (g' : yCg I' J' I'' J'' nt' bt' tp' bn') : yCg I J I'' J'' nt bt tp bn := by
  refine ⟨fun j hj => ?_, fun j hj => (g'.2.1 j (by omega)).trans (g.2.1 j hj), fun v hv => ?_, fun c hc => ?_⟩
  · obtain ⟨a1, a2, a3, a4, a5⟩ := g.1 j hj
    obtain ⟨b1, b2, b3, b4, b5⟩ := g'.1 j (by omega)
    exact ⟨b1.trans a1, b2.trans a2, b3.trans a3, b4.trans a4, b5.trans a5⟩
  · obtain ⟨a1, a2, a3, a4⟩ := g.2.2.1 v hv
    obtain ⟨b1, b2, b3, b4⟩ := g'.2.2.1 v (by omega)
    exact ⟨b1.trans a1, b2.trans a2, b3.trans a3, b4.trans a4⟩
  · obtain ⟨a1, a2⟩ := g.2.2.2 c hc
    obtain ⟨b1, b2⟩ := g'.2.2.2 c (by omega)
    exact ⟨b1.trans a1, b2.trans a2⟩
theorem yCd_g {b : Nat} {d : yD} (h1 : nt ≤ nt') (h2 : bt ≤ bt') (g : yCg I J I' J' nt bt tp bn) (h : yCd I J nt bt b d) : yCd I' J' nt' bt' b d := by
  obtain ⟨K, F, C, T, Z, L, Y⟩ := d
  obtain ⟨hK, h⟩ := h
  refine ⟨by omega, fun j hj => ?_⟩
  obtain ⟨⟨a1, a2, a3, a4⟩, a5⟩ := h j hj
  obtain ⟨b1, b2, b3, b4, b5⟩ := g.1 (b + j) (by omega)
  refine ⟨⟨b1.trans a1, b2.trans a2, b3.trans a3, b5.trans a4⟩, fun hF => ?_⟩
  obtain ⟨p, p1, p2, p3⟩ := a5 hF
  exact ⟨p, b4.trans p1, by omega, fun i hi => (g.2.1 (p + i) (by omega)).trans (p3 i hi)⟩
theorem yEn_g (h4 : bn ≤ bn') (g : yCg I J I' J' nt bt tp bn) : ∀ (e : List Nat) (b : Int32), yEn I bn b e → yEn I' bn' b e := by
  intro e
  induction e with
  | nil => exact fun b h => h
  | cons v e ih =>
    rintro b ⟨c, c1, c2, c3, c4⟩
    obtain ⟨d1, d2⟩ := g.2.2.2 c c2
    exact ⟨c, c1, by omega, d1.trans c3, by rw [d2]; exact ih _ c4⟩
theorem yBc_g (h3 : tp ≤ tp') (g : yCg I J I' J' nt bt tp bn) : ∀ (l : List Nat) (f s : Int32), yBc I tp f s l → yBc I' tp' f s l := by
  intro l
  induction l with
  | nil => exact fun f s h => h
  | cons a l ih =>
    rintro f s ⟨h1, u, u1, u2, u3⟩
    obtain ⟨-, d1, d2, -⟩ := g.2.2.1 u u2
    exact ⟨h1, u, u1, by omega, by rw [d1, d2]; exact ih _ _ u3⟩
theorem yCw_g {k f s : Int32} {x : Int64} {w : yV} (h1 : nt ≤ nt') (h2 : bt ≤ bt') (h3 : tp ≤ tp') (h4 : bn ≤ bn') (g : yCg I J I' J' nt bt tp bn) (h : yCw I J nt bt tp bn k f s x w) : yCw I' J' nt' bt' tp' bn' k f s x w := by
  obtain ⟨kd, nm, b, l, K, F, C, T, Z, L, Y⟩ := w
  obtain ⟨a1, a2, a3, a4, a5, a6⟩ := h
  refine ⟨a1, a2, fun hk => ?_, fun hk => ?_, fun hk => ⟨(a5 hk).1, yEn_g h4 g _ _ (a5 hk).2⟩, fun hk => yBc_g h3 g _ _ _ (a6 hk)⟩
  · obtain ⟨p, p1, p2, p3, p4⟩ := a3 hk
    exact ⟨p, p1, p2, by omega, fun i hi => (g.2.1 (p + i) (by omega)).trans (p4 i hi)⟩
  · obtain ⟨a, q1, q2⟩ := a4 hk
    exact ⟨a, q1, yCd_g h1 h2 g q2⟩
theorem yCv_g {v : Nat} {w : yV} (h1 : nt ≤ nt') (h2 : bt ≤ bt') (h3 : tp ≤ tp') (h4 : bn ≤ bn') (hv : v < tp) (g : yCg I J I' J' nt bt tp bn) (h : yCv I J nt bt tp bn v w) : yCv I' J' nt' bt' tp' bn' v w := by
  obtain ⟨b1, b2, b3, b4⟩ := g.2.2.1 v hv
  unfold yCv
  rw [b1, b2, b3, b4]
  exact yCw_g h1 h2 h3 h4 g h
end
/-- a value is added -/
def yAv (I : zI) (tp : Nat) (k f s : Int32) : zI := zu (zu (zu (zu I 2799 tp k) 2864 tp f) 2896 tp s) 2762 5 (nI (tp + 1))
/-- nodes and bytes have grown -/
def yCh (I : zI) (J : zJ) (I' : zI) (J' : zJ) (nt bt nt' bt' : Nat) : Prop :=
  ((∀ c, c ≠ 37 → c ≠ 79 → c ≠ 112 → c ≠ 144 → c ≠ 176 → c ≠ 239 → c ≠ 272 → I' c = I c) ∧ (∀ c, c ≠ 209 → J' c = J c) ∧ ∀ j, j ≠ 7 → j ≠ 8 → I' 37 j = I 37 j) ∧ (I' 37 7 = nI nt' ∧ I' 37 8 = nI bt' ∧ nt ≤ nt' ∧ bt ≤ bt') ∧ (∀ j, j < nt → I' 79 j = I 79 j ∧ I' 112 j = I 112 j ∧ I' 144 j = I 144 j ∧ I' 176 j = I 176 j ∧ J' 209 j = J 209 j) ∧ ∀ j, j < bt → I' 239 j = I 239 j
/-- a value more, and what it needs -/
def yCo (I : zI) (J : zJ) (I' : zI) (J' : zJ) (nt bt tp bn nt' bt' : Nat) (w : yV) : Prop :=
  ((∀ c, c ≠ 37 → c ≠ 79 → c ≠ 112 → c ≠ 144 → c ≠ 176 → c ≠ 239 → c ≠ 272 → c ≠ 2762 → c ≠ 2799 → c ≠ 2864 → c ≠ 2896 → I' c = I c) ∧ (∀ c, c ≠ 209 → c ≠ 2833 → J' c = J c) ∧ (∀ j, j ≠ 7 → j ≠ 8 → I' 37 j = I 37 j) ∧ ∀ j, j ≠ 5 → I' 2762 j = I 2762 j) ∧
  (I' 37 7 = nI nt' ∧ I' 37 8 = nI bt' ∧ I' 2762 5 = nI (tp + 1)) ∧ (nt ≤ nt' ∧ nt' ≤ nt + ysz w ∧ bt ≤ bt' ∧ bt' ≤ bt + 8 * ysz w ∧ nt' ≤ nt + 200) ∧ yCg I J I' J' nt bt tp bn ∧ yCv I' J' nt' bt' (tp + 1) bn tp w
section
variable {I I1 : zI} {J J1 : zJ} {P : zP} {N : Nat → Nat} {n z nt bt tp bn nt' bt' : Nat} {Q : Option Value → zS → Prop}
theorem yCh_r (h7 : I 37 7 = nI nt) (h8 : I 37 8 = nI bt) : yCh I J I J nt bt nt bt := ⟨⟨fun _ _ _ _ _ _ _ _ => rfl, fun _ _ => rfl, fun _ _ _ => rfl⟩, ⟨h7, h8, Nat.le_refl _, Nat.le_refl _⟩, fun _ _ => ⟨rfl, rfl, rfl, rfl, rfl⟩, fun _ _ => rfl⟩
theorem yCo_mk2 {k f s : Int32} {x : Int64} {w : yV} (H : yCh I J I1 J1 nt bt nt' bt') (h1 : nt' ≤ nt + ysz w) (h2 : bt' ≤ bt + 8 * ysz w) (h3 : nt' ≤ nt + 200) (hw : ∀ I' J', (∀ c, c ≠ 2762 → c ≠ 2799 → c ≠ 2864 → c ≠ 2896 → I' c = I1 c) → (∀ c, c ≠ 2833 → J' c = J1 c) → (∀ v, v < tp → I' 2864 v = I1 2864 v ∧ I' 2896 v = I1 2896 v) → yCw I' J' nt' bt' (tp + 1) bn k f s x w) : yCo I J (yAv I1 tp k f s) (zu J1 2833 tp x) nt bt tp bn nt' bt' w := by
  obtain ⟨⟨a1, a2, a3⟩, ⟨b1, b2, b3, b4⟩, c1, c2⟩ := H
  have fr : ∀ c, c ≠ 2762 → c ≠ 2799 → c ≠ 2864 → c ≠ 2896 → yAv I1 tp k f s c = I1 c := fun c h1 h2 h3 h4 => by
    unfold yAv
    rw [zuR_ne h1, zuR_ne h4, zuR_ne h3, zuR_ne h2]
  refine ⟨⟨fun c x1 x2 x3 x4 x5 x6 x7 x8 x9 x10 x11 => ?_, fun c x1 x2 => ?_, fun j x1 x2 => ?_, fun j x1 => ?_⟩, ⟨?_, ?_, ?_⟩, ⟨b3, h1, b4, h2, h3⟩, ⟨fun j hj => ?_, fun j hj => ?_, fun v hv => ?_, fun c hc => ?_⟩, ?_⟩
  · rw [fr c x8 x9 x10 x11, a1 c x1 x2 x3 x4 x5 x6 x7]
  · rw [zuR_ne x2, a2 c x1]
  · rw [fr 37 (by decide) (by decide) (by decide) (by decide), a3 j x1 x2]
  · unfold yAv
    rw [zu_nj x1, zuR_ne (by decide), zuR_ne (by decide), zuR_ne (by decide), a1 2762 (by decide) (by decide) (by decide) (by decide) (by decide) (by decide) (by decide)]
  · rw [fr 37 (by decide) (by decide) (by decide) (by decide), b1]
  · rw [fr 37 (by decide) (by decide) (by decide) (by decide), b2]
  · unfold yAv
    rw [zu_at]
  · rw [fr 79 (by decide) (by decide) (by decide) (by decide), fr 112 (by decide) (by decide) (by decide) (by decide), fr 144 (by decide) (by decide) (by decide) (by decide), fr 176 (by decide) (by decide) (by decide) (by decide), zuR_ne (by decide)]
    exact c1 j hj
  · rw [fr 239 (by decide) (by decide) (by decide) (by decide)]
    exact c2 j hj
  · unfold yAv
    simp (disch := omega) only [zuR_ne, zu_nj]
    rw [a1 2799 (by decide) (by decide) (by decide) (by decide) (by decide) (by decide) (by decide), a1 2864 (by decide) (by decide) (by decide) (by decide) (by decide) (by decide) (by decide), a1 2896 (by decide) (by decide) (by decide) (by decide) (by decide) (by decide) (by decide), a2 2833 (by decide)]
    exact ⟨rfl, rfl, rfl, rfl⟩
  · rw [fr 2928 (by decide) (by decide) (by decide) (by decide), fr 2960 (by decide) (by decide) (by decide) (by decide), a1 2928 (by decide) (by decide) (by decide) (by decide) (by decide) (by decide) (by decide), a1 2960 (by decide) (by decide) (by decide) (by decide) (by decide) (by decide) (by decide)]
    exact ⟨rfl, rfl⟩
  · have q := hw (yAv I1 tp k f s) (zu J1 2833 tp x) fr (fun c hc => zuR_ne hc) (fun v hv => by unfold yAv; simp (disch := omega) only [zuR_ne, zu_nj, and_self])
    unfold yCv
    have e1 : yAv I1 tp k f s 2799 tp = k := by unfold yAv; rw [zuR_ne (by decide), zuR_ne (by decide), zuR_ne (by decide), zu_at]
    have e2 : yAv I1 tp k f s 2864 tp = f := by unfold yAv; rw [zuR_ne (by decide), zuR_ne (by decide), zu_at]
    have e3 : yAv I1 tp k f s 2896 tp = s := by unfold yAv; rw [zuR_ne (by decide), zu_at]
    rw [e1, e2, e3, zu_at]
    exact q
theorem yCo_mk {k f s : Int32} {x : Int64} {w : yV} (H : yCh I J I1 J1 nt bt nt' bt') (h1 : nt' ≤ nt + ysz w) (h2 : bt' ≤ bt + 8 * ysz w) (h3 : nt' ≤ nt + 200) (hw : ∀ I' J', (∀ c, c ≠ 2762 → c ≠ 2799 → c ≠ 2864 → c ≠ 2896 → I' c = I1 c) → (∀ c, c ≠ 2833 → J' c = J1 c) → yCw I' J' nt' bt' (tp + 1) bn k f s x w) : yCo I J (yAv I1 tp k f s) (zu J1 2833 tp x) nt bt tp bn nt' bt' w := yCo_mk2 H h1 h2 h3 (fun I' J' a b _ => hw I' J' a b)
set_option maxRecDepth 20000 in
theorem m152 {k f s : Int32} {x : Int64} (hS : zStat P N) (e : k.toInt8.toInt32 = k) (ht : tp < 3201) (h5 : I 2762 5 = nI tp) (Q : Option Value → zS → Prop) : zC 152 [.ref 2762, .int k, .long x, .int f, .int s] (I, J, P, N, n, z) Q = Q (some (.int (nI tp))) (yAv I tp k f s, zu J 2833 tp x, P, N, n, z) := by
  refine zC_eq (fun Q hQ => ?_) Q
  have c : (3201 ≤ nI tp) = (3201 ≤ tp) := wI_gec (c := 3201)
  simp (decide := true) (disch := omega) only [h5, c, e, zuR_ne, zi152, zt152, zo152_0, zo152_1, zo152_2, zy_ldI, zy_ldL, zy_ldA, zy_stI, zy_stL, zy_stA, zy_cI, zy_cL, zy_nul, zy_inc, zy_bI, zy_bL, zy_sL, zy_un, zy_cmp, zy_dup, zy_dup2, zy_pop, zy_pop2, zy_jn, zy_jnn, zy_go, zy_fal, zy_tsw, zy_lsw, zy_get, zy_put, zy_ald, zy_ast, zy_len, zy_newa, zy_new, zy_cal, zy_ret, zy_tak, zy_cst, zy_acp, zy_oini, zy_cln, zy_thr, zy_bad, zy_lco, zy_if0, zy_ic0, zy_if1, zy_ic1, zy_if2, zy_ic2, zy_if3, zy_ic3, zy_if4, zy_ic4, zy_if5, zy_ic5, zK_go, zK_to, zK_end, zK_callH, zK_iteC, zK_none, zsLd, zsSt, zsInc, zsBI, zsBL, zsSL, zsUn, zsCmp, zsDup, zsDup2, zsPop, zsPop2, zsJn, zsTsw, zsLsw, zsGet, zsPut, zsAld, zsAst, zsLen, zsNewa, zsCal, zsRet, zsCst, zsAcp, zsOini, zsCln, zsLco, zsThr, zxBI, zxBL, zxSL, zxU, zset1, zset2, zclr, zcat, zmake_mk, zcomp, zH_i, zH_l, zH_r, zH_u, zH_n, List.set_cons_zero, List.set_cons_succ, List.getElem?_cons_zero, List.getElem?_cons_succ, List.length_cons, List.length_nil, List.take_succ_cons, List.take_zero, List.drop_succ_cons, List.drop_zero, List.reverse_cons, List.reverse_nil, List.nil_append, List.cons_append, List.map_cons, List.map_nil, List.sum_cons, List.sum_nil, Option.toList_some, Option.toList_none, Value.category, Nat.reduceAdd, Nat.reduceMul, Nat.reduceMod, Nat.reduceDiv, Nat.reduceSub, Nat.reduceLT, Nat.reduceLeDiff, Nat.reduceEqDiff, Nat.zero_le, Nat.le_refl, Int32.reduceToNatClampNeg, Int32.reduceLT, Int32.reduceLE, Int32.reduceAdd, Int32.reduceSub, Int32.reduceMul, ↓reduceIte, reduceCtorEq, Nat.add_zero, Nat.zero_add, true_or, or_true, false_or, or_false, true_and, and_true, false_and, and_false, not_true_eq_false, not_false_eq_true, if_true, if_false, true_implies, false_implies, implies_true, forall_const, false_imp_iff, true_imp_iff, va_rf, zlay, zent, List.replicate_zero, List.append_nil, List.replicate_succ, List.length_append, ne_eq, Option.some.injEq, Value.int.injEq, Value.long.injEq, Int32.reduceOfNat, Int32.reduceToInt, Int.reduceLT, Int.reduceLE, Int.reduceSub, Int.reduceToNat, Int.reduceAdd, Int.reduceNeg, Int32.reduceDiv, Int64.reduceAdd, Int64.reduceSub, lg_cmp_ge, lg_cmp_le, lg_cmp_gt, lg_cmp_lt, lg_cmp_eq, wlt_t, wlt_f, wle_t, wle_f, wmod, wI_lt, wI_le, wI_eq, wI_neg, wI_pos, wI_cl, wI_ge, wI_po, w64_lt, w64_le, w64_eq, w64_lt0, w64_le0, w64_eq0, w64_32, zc317, zc319, wI_add, wI_a1, wI_s1, wI_e0, wI_m8, wI_m128, wI_m64, wI_m190, not_true_eq_false, not_false_eq_true, sP_2762_1 hS, sP_2762_2 hS, sP_2762_3 hS, sP_2762_4 hS, sN_2799 hS, sN_2833 hS, sN_2864 hS, sN_2896 hS, sN_6417 hS]
  exact hQ
/-- what is to be shown of a BUILTIN's result -/
def yPo (I : zI) (J : zJ) (P : zP) (N : Nat → Nat) (n z nt bt tp bn : Nat) (Q : Option Value → zS → Prop) : Option yV → Prop
  | none => ∀ I' : zI, (∀ c, c ≠ 272 → I' c = I c) → Q (some (.int (-1))) (I', J, P, N, n, z)
  | some w => ∀ I' J' nt' bt', yCo I J I' J' nt bt tp bn nt' bt' w → Q (some (.int (nI tp))) (I', J', P, N, n, z)
theorem yPo_m {Q' : Option Value → zS → Prop} {o : Option yV} (h : yPo I J P N n z nt bt tp bn Q o) (hq : ∀ v τ, Q (some (.int v)) τ → Q' (some (.int v)) τ) : yPo I J P N n z nt bt tp bn Q' o := by
  cases o with
  | none => exact fun I' hI => hq _ _ (h I' hI)
  | some w => exact fun I' J' nt' bt' hI => hq _ _ (h I' J' nt' bt' hI)
theorem yPo_I {x : Int64} (h7 : I 37 7 = nI nt) (h8 : I 37 8 = nI bt) (h : yPo I J P N n z nt bt tp bn Q (some (yvI x))) : Q (some (.int (nI tp))) (yAv I tp 0 0 0, zu J 2833 tp x, P, N, n, z) := by
  refine h _ _ nt bt (yCo_mk (yCh_r h7 h8) (Nat.le_add_right _ _) (Nat.le_add_right _ _) (Nat.le_add_right _ _) (fun I' J' _ _ => ?_))
  exact ⟨rfl, fun _ => rfl, fun h => by omega, fun h => by omega, fun h => by omega, fun h => by omega⟩
theorem yPo_T {p : Prop} (h7 : I 37 7 = nI nt) (h8 : I 37 8 = nI bt) (h : yPo I J P N n z nt bt tp bn Q (some (yvT p))) : Q (some (.int (nI tp))) (yAv I tp 2 0 0, zu J 2833 tp (zyn p).toInt64, P, N, n, z) := by
  refine h _ _ nt bt (yCo_mk (yCh_r h7 h8) (Nat.le_add_right _ _) (Nat.le_add_right _ _) (Nat.le_add_right _ _) (fun I' J' _ _ => ?_))
  exact ⟨rfl, fun _ => rfl, fun h => by omega, fun h => by omega, fun h => by omega, fun h => by omega⟩
set_option maxRecDepth 20000 in
theorem m16 {x : Int64} (hS : zStat P N) (ht : tp < 3201) (h5 : I 2762 5 = nI tp) (Q : Option Value → zS → Prop) : zC 16 [.ref 2976, .long x] (I, J, P, N, n, z) Q = Q (some (.int (nI tp))) (yAv I tp 0 0 0, zu J 2833 tp x, P, N, n, z) := by
  refine zC_eq (fun Q hQ => ?_) Q
  have q := fun Q => m152 (J := J) (n := n) (z := z) (k := 0) (f := 0) (s := 0) (x := x) hS (by decide) ht h5 Q
  simp (decide := true) (disch := omega) only [q, zi16, zt16, zo16_0, zy_ldI, zy_ldL, zy_ldA, zy_stI, zy_stL, zy_stA, zy_cI, zy_cL, zy_nul, zy_inc, zy_bI, zy_bL, zy_sL, zy_un, zy_cmp, zy_dup, zy_dup2, zy_pop, zy_pop2, zy_jn, zy_jnn, zy_go, zy_fal, zy_tsw, zy_lsw, zy_get, zy_put, zy_ald, zy_ast, zy_len, zy_newa, zy_new, zy_cal, zy_ret, zy_tak, zy_cst, zy_acp, zy_oini, zy_cln, zy_thr, zy_bad, zy_lco, zy_if0, zy_ic0, zy_if1, zy_ic1, zy_if2, zy_ic2, zy_if3, zy_ic3, zy_if4, zy_ic4, zy_if5, zy_ic5, zK_go, zK_to, zK_end, zK_callH, zK_iteC, zK_none, zsLd, zsSt, zsInc, zsBI, zsBL, zsSL, zsUn, zsCmp, zsDup, zsDup2, zsPop, zsPop2, zsJn, zsTsw, zsLsw, zsGet, zsPut, zsAld, zsAst, zsLen, zsNewa, zsCal, zsRet, zsCst, zsAcp, zsOini, zsCln, zsLco, zsThr, zxBI, zxBL, zxSL, zxU, zset1, zset2, zclr, zcat, zmake_mk, zcomp, zH_i, zH_l, zH_r, zH_u, zH_n, List.set_cons_zero, List.set_cons_succ, List.getElem?_cons_zero, List.getElem?_cons_succ, List.length_cons, List.length_nil, List.take_succ_cons, List.take_zero, List.drop_succ_cons, List.drop_zero, List.reverse_cons, List.reverse_nil, List.nil_append, List.cons_append, List.map_cons, List.map_nil, List.sum_cons, List.sum_nil, Option.toList_some, Option.toList_none, Value.category, Nat.reduceAdd, Nat.reduceMul, Nat.reduceMod, Nat.reduceDiv, Nat.reduceSub, Nat.reduceLT, Nat.reduceLeDiff, Nat.reduceEqDiff, Nat.zero_le, Nat.le_refl, Int32.reduceToNatClampNeg, Int32.reduceLT, Int32.reduceLE, Int32.reduceAdd, Int32.reduceSub, Int32.reduceMul, ↓reduceIte, reduceCtorEq, Nat.add_zero, Nat.zero_add, true_or, or_true, false_or, or_false, true_and, and_true, false_and, and_false, not_true_eq_false, not_false_eq_true, if_true, if_false, true_implies, false_implies, implies_true, forall_const, false_imp_iff, true_imp_iff, va_rf, zlay, zent, List.replicate_zero, List.append_nil, List.replicate_succ, List.length_append, ne_eq, Option.some.injEq, Value.int.injEq, Value.long.injEq, Int32.reduceOfNat, Int32.reduceToInt, Int.reduceLT, Int.reduceLE, Int.reduceSub, Int.reduceToNat, Int.reduceAdd, Int.reduceNeg, Int32.reduceDiv, Int64.reduceAdd, Int64.reduceSub, lg_cmp_ge, lg_cmp_le, lg_cmp_gt, lg_cmp_lt, lg_cmp_eq, wlt_t, wlt_f, wle_t, wle_f, wmod, wI_lt, wI_le, wI_eq, wI_neg, wI_pos, wI_cl, wI_ge, wI_po, w64_lt, w64_le, w64_eq, w64_lt0, w64_le0, w64_eq0, w64_32, zc317, zc319, wI_add, wI_a1, wI_s1, wI_e0, wI_m8, wI_m128, wI_m64, wI_m190, not_true_eq_false, not_false_eq_true, sP_2976_1 hS, sN_6417 hS]
  exact hQ
set_option maxRecDepth 20000 in
theorem m17 {b : Int32} (hS : zStat P N) (hb : b = 0 ∨ b = 1) (ht : tp < 3201) (h5 : I 2762 5 = nI tp) (Q : Option Value → zS → Prop) : zC 17 [.ref 2976, .int b] (I, J, P, N, n, z) Q = Q (some (.int (nI tp))) (yAv I tp 2 0 0, zu J 2833 tp b.toInt64, P, N, n, z) := by
  refine zC_eq (fun Q hQ => ?_) Q
  have q := fun x Q => m152 (J := J) (n := n) (z := z) (k := 2) (f := 0) (s := 0) (x := x) hS (by decide) ht h5 Q
  rcases hb with rfl | rfl
  · simp (decide := true) (disch := omega) only [q, zi17, zt17, zo17_0, zo17_1, zo17_2, zy_ldI, zy_ldL, zy_ldA, zy_stI, zy_stL, zy_stA, zy_cI, zy_cL, zy_nul, zy_inc, zy_bI, zy_bL, zy_sL, zy_un, zy_cmp, zy_dup, zy_dup2, zy_pop, zy_pop2, zy_jn, zy_jnn, zy_go, zy_fal, zy_tsw, zy_lsw, zy_get, zy_put, zy_ald, zy_ast, zy_len, zy_newa, zy_new, zy_cal, zy_ret, zy_tak, zy_cst, zy_acp, zy_oini, zy_cln, zy_thr, zy_bad, zy_lco, zy_if0, zy_ic0, zy_if1, zy_ic1, zy_if2, zy_ic2, zy_if3, zy_ic3, zy_if4, zy_ic4, zy_if5, zy_ic5, zK_go, zK_to, zK_end, zK_callH, zK_iteC, zK_none, zsLd, zsSt, zsInc, zsBI, zsBL, zsSL, zsUn, zsCmp, zsDup, zsDup2, zsPop, zsPop2, zsJn, zsTsw, zsLsw, zsGet, zsPut, zsAld, zsAst, zsLen, zsNewa, zsCal, zsRet, zsCst, zsAcp, zsOini, zsCln, zsLco, zsThr, zxBI, zxBL, zxSL, zxU, zset1, zset2, zclr, zcat, zmake_mk, zcomp, zH_i, zH_l, zH_r, zH_u, zH_n, List.set_cons_zero, List.set_cons_succ, List.getElem?_cons_zero, List.getElem?_cons_succ, List.length_cons, List.length_nil, List.take_succ_cons, List.take_zero, List.drop_succ_cons, List.drop_zero, List.reverse_cons, List.reverse_nil, List.nil_append, List.cons_append, List.map_cons, List.map_nil, List.sum_cons, List.sum_nil, Option.toList_some, Option.toList_none, Value.category, Nat.reduceAdd, Nat.reduceMul, Nat.reduceMod, Nat.reduceDiv, Nat.reduceSub, Nat.reduceLT, Nat.reduceLeDiff, Nat.reduceEqDiff, Nat.zero_le, Nat.le_refl, Int32.reduceToNatClampNeg, Int32.reduceLT, Int32.reduceLE, Int32.reduceAdd, Int32.reduceSub, Int32.reduceMul, ↓reduceIte, reduceCtorEq, Nat.add_zero, Nat.zero_add, true_or, or_true, false_or, or_false, true_and, and_true, false_and, and_false, not_true_eq_false, not_false_eq_true, if_true, if_false, true_implies, false_implies, implies_true, forall_const, false_imp_iff, true_imp_iff, va_rf, zlay, zent, List.replicate_zero, List.append_nil, List.replicate_succ, List.length_append, ne_eq, Option.some.injEq, Value.int.injEq, Value.long.injEq, Int32.reduceOfNat, Int32.reduceToInt, Int.reduceLT, Int.reduceLE, Int.reduceSub, Int.reduceToNat, Int.reduceAdd, Int.reduceNeg, Int32.reduceDiv, Int64.reduceAdd, Int64.reduceSub, lg_cmp_ge, lg_cmp_le, lg_cmp_gt, lg_cmp_lt, lg_cmp_eq, wlt_t, wlt_f, wle_t, wle_f, wmod, wI_lt, wI_le, wI_eq, wI_neg, wI_pos, wI_cl, wI_ge, wI_po, w64_lt, w64_le, w64_eq, w64_lt0, w64_le0, w64_eq0, w64_32, zc317, zc319, wI_add, wI_a1, wI_s1, wI_e0, wI_m8, wI_m128, wI_m64, wI_m190, not_true_eq_false, not_false_eq_true, sP_2976_1 hS, sN_6417 hS]
    exact hQ
  · simp (decide := true) (disch := omega) only [q, zi17, zt17, zo17_0, zo17_1, zo17_2, zy_ldI, zy_ldL, zy_ldA, zy_stI, zy_stL, zy_stA, zy_cI, zy_cL, zy_nul, zy_inc, zy_bI, zy_bL, zy_sL, zy_un, zy_cmp, zy_dup, zy_dup2, zy_pop, zy_pop2, zy_jn, zy_jnn, zy_go, zy_fal, zy_tsw, zy_lsw, zy_get, zy_put, zy_ald, zy_ast, zy_len, zy_newa, zy_new, zy_cal, zy_ret, zy_tak, zy_cst, zy_acp, zy_oini, zy_cln, zy_thr, zy_bad, zy_lco, zy_if0, zy_ic0, zy_if1, zy_ic1, zy_if2, zy_ic2, zy_if3, zy_ic3, zy_if4, zy_ic4, zy_if5, zy_ic5, zK_go, zK_to, zK_end, zK_callH, zK_iteC, zK_none, zsLd, zsSt, zsInc, zsBI, zsBL, zsSL, zsUn, zsCmp, zsDup, zsDup2, zsPop, zsPop2, zsJn, zsTsw, zsLsw, zsGet, zsPut, zsAld, zsAst, zsLen, zsNewa, zsCal, zsRet, zsCst, zsAcp, zsOini, zsCln, zsLco, zsThr, zxBI, zxBL, zxSL, zxU, zset1, zset2, zclr, zcat, zmake_mk, zcomp, zH_i, zH_l, zH_r, zH_u, zH_n, List.set_cons_zero, List.set_cons_succ, List.getElem?_cons_zero, List.getElem?_cons_succ, List.length_cons, List.length_nil, List.take_succ_cons, List.take_zero, List.drop_succ_cons, List.drop_zero, List.reverse_cons, List.reverse_nil, List.nil_append, List.cons_append, List.map_cons, List.map_nil, List.sum_cons, List.sum_nil, Option.toList_some, Option.toList_none, Value.category, Nat.reduceAdd, Nat.reduceMul, Nat.reduceMod, Nat.reduceDiv, Nat.reduceSub, Nat.reduceLT, Nat.reduceLeDiff, Nat.reduceEqDiff, Nat.zero_le, Nat.le_refl, Int32.reduceToNatClampNeg, Int32.reduceLT, Int32.reduceLE, Int32.reduceAdd, Int32.reduceSub, Int32.reduceMul, ↓reduceIte, reduceCtorEq, Nat.add_zero, Nat.zero_add, true_or, or_true, false_or, or_false, true_and, and_true, false_and, and_false, not_true_eq_false, not_false_eq_true, if_true, if_false, true_implies, false_implies, implies_true, forall_const, false_imp_iff, true_imp_iff, va_rf, zlay, zent, List.replicate_zero, List.append_nil, List.replicate_succ, List.length_append, ne_eq, Option.some.injEq, Value.int.injEq, Value.long.injEq, Int32.reduceOfNat, Int32.reduceToInt, Int.reduceLT, Int.reduceLE, Int.reduceSub, Int.reduceToNat, Int.reduceAdd, Int.reduceNeg, Int32.reduceDiv, Int64.reduceAdd, Int64.reduceSub, lg_cmp_ge, lg_cmp_le, lg_cmp_gt, lg_cmp_lt, lg_cmp_eq, wlt_t, wlt_f, wle_t, wle_f, wmod, wI_lt, wI_le, wI_eq, wI_neg, wI_pos, wI_cl, wI_ge, wI_po, w64_lt, w64_le, w64_eq, w64_lt0, w64_le0, w64_eq0, w64_32, zc317, zc319, wI_add, wI_a1, wI_s1, wI_e0, wI_m8, wI_m128, wI_m64, wI_m190, not_true_eq_false, not_false_eq_true, sP_2976_1 hS, sN_6417 hS]
    exact hQ
set_option maxRecDepth 20000 in
theorem m18 {f : Int32} (hS : zStat P N) (ht : tp < 3201) (h5 : I 2762 5 = nI tp) (Q : Option Value → zS → Prop) : zC 18 [.ref 2976, .int f] (I, J, P, N, n, z) Q = Q (some (.int (nI tp))) (yAv I tp 4 f 0, zu J 2833 tp 0, P, N, n, z) := by
  refine zC_eq (fun Q hQ => ?_) Q
  have q := fun Q => m152 (J := J) (n := n) (z := z) (k := 4) (f := f) (s := 0) (x := 0) hS (by decide) ht h5 Q
  simp (decide := true) (disch := omega) only [q, zi18, zt18, zo18_0, zy_ldI, zy_ldL, zy_ldA, zy_stI, zy_stL, zy_stA, zy_cI, zy_cL, zy_nul, zy_inc, zy_bI, zy_bL, zy_sL, zy_un, zy_cmp, zy_dup, zy_dup2, zy_pop, zy_pop2, zy_jn, zy_jnn, zy_go, zy_fal, zy_tsw, zy_lsw, zy_get, zy_put, zy_ald, zy_ast, zy_len, zy_newa, zy_new, zy_cal, zy_ret, zy_tak, zy_cst, zy_acp, zy_oini, zy_cln, zy_thr, zy_bad, zy_lco, zy_if0, zy_ic0, zy_if1, zy_ic1, zy_if2, zy_ic2, zy_if3, zy_ic3, zy_if4, zy_ic4, zy_if5, zy_ic5, zK_go, zK_to, zK_end, zK_callH, zK_iteC, zK_none, zsLd, zsSt, zsInc, zsBI, zsBL, zsSL, zsUn, zsCmp, zsDup, zsDup2, zsPop, zsPop2, zsJn, zsTsw, zsLsw, zsGet, zsPut, zsAld, zsAst, zsLen, zsNewa, zsCal, zsRet, zsCst, zsAcp, zsOini, zsCln, zsLco, zsThr, zxBI, zxBL, zxSL, zxU, zset1, zset2, zclr, zcat, zmake_mk, zcomp, zH_i, zH_l, zH_r, zH_u, zH_n, List.set_cons_zero, List.set_cons_succ, List.getElem?_cons_zero, List.getElem?_cons_succ, List.length_cons, List.length_nil, List.take_succ_cons, List.take_zero, List.drop_succ_cons, List.drop_zero, List.reverse_cons, List.reverse_nil, List.nil_append, List.cons_append, List.map_cons, List.map_nil, List.sum_cons, List.sum_nil, Option.toList_some, Option.toList_none, Value.category, Nat.reduceAdd, Nat.reduceMul, Nat.reduceMod, Nat.reduceDiv, Nat.reduceSub, Nat.reduceLT, Nat.reduceLeDiff, Nat.reduceEqDiff, Nat.zero_le, Nat.le_refl, Int32.reduceToNatClampNeg, Int32.reduceLT, Int32.reduceLE, Int32.reduceAdd, Int32.reduceSub, Int32.reduceMul, ↓reduceIte, reduceCtorEq, Nat.add_zero, Nat.zero_add, true_or, or_true, false_or, or_false, true_and, and_true, false_and, and_false, not_true_eq_false, not_false_eq_true, if_true, if_false, true_implies, false_implies, implies_true, forall_const, false_imp_iff, true_imp_iff, va_rf, zlay, zent, List.replicate_zero, List.append_nil, List.replicate_succ, List.length_append, ne_eq, Option.some.injEq, Value.int.injEq, Value.long.injEq, Int32.reduceOfNat, Int32.reduceToInt, Int.reduceLT, Int.reduceLE, Int.reduceSub, Int.reduceToNat, Int.reduceAdd, Int.reduceNeg, Int32.reduceDiv, Int64.reduceAdd, Int64.reduceSub, lg_cmp_ge, lg_cmp_le, lg_cmp_gt, lg_cmp_lt, lg_cmp_eq, wlt_t, wlt_f, wle_t, wle_f, wmod, wI_lt, wI_le, wI_eq, wI_neg, wI_pos, wI_cl, wI_ge, wI_po, w64_lt, w64_le, w64_eq, w64_lt0, w64_le0, w64_eq0, w64_32, zc317, zc319, wI_add, wI_a1, wI_s1, wI_e0, wI_m8, wI_m128, wI_m64, wI_m190, not_true_eq_false, not_false_eq_true, sP_2976_1 hS, sN_6417 hS]
  exact hQ
end
