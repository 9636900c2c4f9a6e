-- needs: 01 02.names 03 04 05 18 19 20 22 23 24 25 30 31 32 33 36 40 42 43 44 46 47 60 61 62 63 64 79f 79g 79h 79i
/-! READING DATA by the class: the loop -/
/-- what the reading of data leaves as it was -/
def zFd (I : zI) (J : zJ) (I' : zI) (J' : zJ) (b0 : Nat) : Prop := (∀ c, c ≠ 290 → c ≠ 336 → c ≠ 368 → c ≠ 400 → c ≠ 79 → c ≠ 112 → c ≠ 144 → c ≠ 176 → c ≠ 37 → I' c = I c) ∧ (∀ j, j ≠ 7 → I' 37 j = I 37 j) ∧ (∀ j, j < b0 → I' 79 j = I 79 j ∧ I' 112 j = I 112 j ∧ I' 144 j = I 144 j ∧ I' 176 j = I 176 j ∧ J' 209 j = J 209 j) ∧ ∀ c, c ≠ 290 → c ≠ 209 → J' c = J c
theorem zFd_rf {I : zI} {J : zJ} {b0 : Nat} : zFd I J I J b0 := ⟨fun _ _ _ _ _ _ _ _ _ _ => rfl, fun _ _ => rfl, fun _ _ => ⟨rfl, rfl, rfl, rfl, rfl⟩, fun _ _ _ => rfl⟩
theorem zFd_tr {I I' I'' : zI} {J J' J'' : zJ} {b0 : Nat} (h : zFd I J I' J' b0) (h' : zFd I' J' I'' J'' b0) : zFd I J I'' J'' b0 := by
  obtain ⟨a1, a2, a3, a4⟩ := h
  obtain ⟨b1, b2, b3, b4⟩ := h'
  refine ⟨fun c x1 x2 x3 x4 x5 x6 x7 x8 x9 => (b1 c x1 x2 x3 x4 x5 x6 x7 x8 x9).trans (a1 c x1 x2 x3 x4 x5 x6 x7 x8 x9), fun j hj => (b2 j hj).trans (a2 j hj), fun j hj => ?_, fun c x1 x2 => (b4 c x1 x2).trans (a4 c x1 x2)⟩
  obtain ⟨c1, c2, c3, c4, c5⟩ := a3 j hj
  obtain ⟨d1, d2, d3, d4, d5⟩ := b3 j hj
  exact ⟨d1.trans c1, d2.trans c2, d3.trans c3, d4.trans c4, d5.trans c5⟩
theorem zFd_w {I I' : zI} {J J' : zJ} {fr b0 k L a : Nat} {B : Nat → Nat} (h : zNw I J I' J' fr b0 k L B a) : zFd I J I' J' b0 := by
  obtain ⟨⟨h1, h2⟩, -⟩ := h
  refine ⟨fun c x1 x2 x3 x4 x5 x6 x7 x8 x9 => by funext j; exact h1 c j x1 (by omega) (by omega) (by omega) (by omega), fun j hj => h1 37 j (by decide) (by omega) (by omega) (by omega) (by omega), fun j hj => ⟨h1 79 j (by decide) (by omega) (by omega) (by omega) (by omega), h1 112 j (by decide) (by omega) (by omega) (by omega) (by omega), h1 144 j (by decide) (by omega) (by omega) (by omega) (by omega), h1 176 j (by decide) (by omega) (by omega) (by omega) (by omega), h2 209 j (by omega) (by omega)⟩, fun c x1 x2 => by funext j; exact h2 c j (by omega) (by omega)⟩
theorem zFd_f {I I' : zI} {J : zJ} {b0 : Nat} (h : zCf I I' b0) : zFd I J I' J b0 := ⟨fun c x1 x2 x3 x4 x5 x6 x7 x8 x9 => by funext j; exact h c j (by omega) (by omega) x4, fun j hj => h 37 j (by omega) (by omega) (by decide), fun j hj => ⟨h 79 j (by omega) (by omega) (by decide), h 112 j (by omega) (by omega) (by decide), h 144 j (by omega) (by omega) (by decide), h 176 j (by omega) (by omega) (by decide), rfl⟩, fun _ _ _ => rfl⟩
theorem zhF_x {B : Nat → Nat} {t a : Nat} {fc : Prop} (h : zhF B t fc a = 0) : zhX B a ≤ t := by
  unfold zhF at h
  split at h
  · cases h
  · split at h
    · cases h
    · split at h
      · cases h
      · omega
theorem zhF_lt {B : Nat → Nat} {t a : Nat} {fc : Prop} : zhF B t fc a < 4 := by
  unfold zhF
  repeat' split
  all_goals omega
theorem znF_lt {B : Nat → Nat} {t l k a : Nat} : znF B t l k a < 6 := by
  have h1 := zhF_lt (B := B) (t := t) (a := a) (fc := False)
  have h2 := zhF_lt (B := B) (t := t) (a := zhX B a) (fc := True)
  unfold znF
  repeat' split
  all_goals omega
theorem znF_h {B : Nat → Nat} {t l k a : Nat} (h : znF B t l k a = 0) : zhF B t False a = 0 ∧ l ≤ 12 ∧ k < 200 ∧ (zhQ B a = 2 → zhX B a + znC B a ≤ t) ∧ (zhQ B a = 6 → zhF B t True (zhX B a) = 0) := by
  unfold znF at h
  split at h
  · rename_i h1; exact absurd h h1
  · rename_i h1
    have h1 := Classical.not_not.1 h1
    split at h
    · cases h
    · split at h
      · cases h
      · split at h
        · rename_i h2
          split at h
          · cases h
          · exact ⟨h1, by omega, by omega, fun _ => by omega, fun h6 => by omega⟩
        · rename_i h2
          split at h
          · exact ⟨h1, by omega, by omega, fun h3 => absurd h3 h2, fun _ => h⟩
          · rename_i h6
            exact ⟨h1, by omega, by omega, fun h3 => absurd h3 h2, fun h => absurd h h6⟩
theorem znX_le {B : Nat → Nat} {t l k a : Nat} (h : znF B t l k a = 0) : znX B a ≤ t := by
  obtain ⟨h1, h2, h3, h4, h5⟩ := znF_h h
  unfold znX
  split
  · rename_i h; exact h4 h
  · split
    · rename_i h; exact zhF_x (h5 h)
    · exact zhF_x h1
theorem zCa_le {v : Int64} : zCa v ≤ 201 := by
  by_cases h : v < 0 ∨ 200 < v
  · unfold zCa; rw [if_pos h]; omega
  · have := (zCa_i (fun x => h (Or.inl x)) (fun x => h (Or.inr x))).2.1
    omega
theorem znH_le {B : Nat → Nat} {a : Nat} : znH B a ≤ 402 := by
  have h1 := zCa_le (v := zhN B a)
  have h2 := zCa_le (v := zhN B (zhX B a))
  unfold znH znC
  repeat' split
  all_goals omega
/-- the class, about to read node k -/
def zCd (I : zI) (J : zJ) (t fr b0 : Nat) (B : Nat → Nat) (k : Nat) (O : List Nat) : Prop :=
  (I 290 9 = nI (fr + zat B k) ∧ I 290 6 = nI (fr + t) ∧ I 290 4 = nI O.length ∧ I 290 5 = nI k ∧ I 37 7 = nI (b0 + k)) ∧
  (∃ l W, (zsq B k).2 = (l + 1) :: W ∧ zLo I b0 (if k = 0 then 1 else 0) 0 ((l + 1) :: W) O) ∧ O.length ≤ 12 ∧ zOl B k O ∧ zRw I J fr b0 B k ∧ zSpn I B b0 k O
section
variable {P : zP} {N : Nat → Nat} {n z t fr : Nat} {Q : Option Value → zS → Prop}
set_option maxRecDepth 20000 in
set_option maxHeartbeats 8000000 in
/-- a node and its closing -/
theorem s30 {I : zI} {J : zJ} {b0 k : Nat} {B : Nat → Nat} {O : List Nat} (hS : zStat P N) (hb : b0 + k < 3801) (hk : k ≤ 200) (C : zCd I J t fr b0 B k O) (hf : zsF B t k = 0) {I1 : zI} {J1 : zJ} (M : zNw I J I1 J1 fr b0 k O.length B (zat B k))
    (hQ : ∀ (I' : zI) (O' : List Nat), zFd I J I' J1 b0 → (((zsq B (k + 1)).2 = [] ∧ O' = []) ∨ (¬ (zsq B (k + 1)).2 = [] ∧ ¬ O' = [] ∧ zLo I' b0 0 0 (zsq B (k + 1)).2 O')) → (I' 290 9 = nI (fr + zat B (k + 1)) ∧ I' 290 6 = nI (fr + t) ∧ I' 290 4 = nI O'.length ∧ I' 290 5 = nI (k + 1) ∧ I' 37 7 = nI (b0 + (k + 1))) → O'.length ≤ 12 → zOl B (k + 1) O' → zRw I' J1 fr b0 B (k + 1) → zSpn I' B b0 (k + 1) O' → I' 290 10 = I 290 10 → Q none (I', J1, P, N, n, z)) :
    zC 40 [.ref 290] (I1, J1, P, N, n, z) Q := by
  obtain ⟨⟨a9, a6, a4, a5, a7⟩, ⟨l, W, eW, hLo⟩, h12, hOl, hRw, hSp⟩ := C
  have hlv : zlvl B k = O.length + 1 := by
    show (zsq B k).2.length = _
    rw [eW]
    exact zLo_len _ _ _ hLo
  obtain ⟨⟨M1, M2⟩, ⟨m79, m112, m144, m209, m176, m336⟩, ⟨m7, m5, m9, m6, m10⟩, mo⟩ := id M
  obtain ⟨f1, f2, f3, f4, f5⟩ := znF_h hf
  have hOl1 := zOl_up O (by omega) hOl
  have eS : (zsq B (k + 1)).2 = zppx (zpus (znH B (zat B k)) ((l + 1) :: W)) := by
    show zppx (zpus (znH B (zsq B k).1) (zsq B k).2) = _
    rw [eW]
  have hH : znH B (zat B k) ≤ 402 := znH_le
  have bot : ∀ (W : List Nat) (l : Nat), zLo I b0 (if k = 0 then 1 else 0) 0 ((l + 1) :: W) O → O = [] → W = [] ∧ l = 0 := fun W l h e => by
    subst e
    have h : (l + 1) :: W = [if k = 0 then 1 else 0] := h
    injection h with h1 h2
    refine ⟨h2, ?_⟩
    split at h1 <;> omega
  -- the rest of the call, from a state I2
  have fin : ∀ (X : List Nat) (O2 : List Nat) (I2 : zI) (x : Int32), zFd I J I2 J1 b0 → (∀ c j, c ≠ 400 → I2 c j = I1 c j) → O2.length ≤ 12 → I2 290 4 = nI O2.length → zLo I2 b0 0 0 X O2 → zppx X = (zsq B (k + 1)).2 → zOl B (k + 1) O2 → zSpn I2 B b0 (k + 1) O2 → zQ zt40 zo40_3 [some (.ref 290), some (.int x)] [] (I2, J1, P, N, n, z) Q := fun X O2 I2 x g0 g1 g2 g3 g4 g5 g6 g7 => by
    refine l40 (b0 := b0) (k := k) (B := B) hS (by omega) O2 X I2 g2 g3 (by rw [g1 37 7 (by decide)]; exact m7) g4 g5 g6 g7 (fun I' O' k1 k2 k3 k4 k5 k6 => ?_)
    have gg : ∀ c j, ¬ (c = 290 ∧ j = 4) → ¬ (c = 144 ∧ b0 ≤ j) → c ≠ 400 → I' c j = I1 c j := fun c j x1 x2 x3 => by rw [k1 c j x1 x2 x3, g1 c j x3]
    refine hQ I' O' (zFd_tr g0 (zFd_f k1)) k3 ⟨?_, ?_, k2, ?_, ?_⟩ k4 k5 (fun j hj => ?_) k6 ?_
    · rw [gg 290 9 (by omega) (by omega) (by decide)]; exact m9
    · rw [gg 290 6 (by omega) (by omega) (by decide)]; exact m6.trans a6
    · rw [gg 290 5 (by omega) (by omega) (by decide)]; exact m5
    · rw [gg 37 7 (by omega) (by omega) (by decide)]; exact m7
    · rw [gg 79 _ (by omega) (by omega) (by decide), gg 112 _ (by omega) (by omega) (by decide), gg 176 _ (by omega) (by omega) (by decide), gg 336 _ (by omega) (by omega) (by decide)]
      by_cases hjk : j = k
      · subst hjk
        exact ⟨m79, m112, m209, m176, m336⟩
      · obtain ⟨r1, r2, r3, r4, r5⟩ := hRw j (by omega)
        rw [M1 79 _ (by decide) (by omega) (by omega) (by omega) (by omega), M1 112 _ (by decide) (by omega) (by omega) (by omega) (by omega), M1 176 _ (by decide) (by omega) (by omega) (by omega) (by omega), M1 336 _ (by decide) (by omega) (by omega) (by omega) (by omega), M2 209 _ (by omega) (by omega)]
        exact ⟨r1, r2, r3, r4, r5⟩
    · rw [gg 290 10 (by omega) (by omega) (by decide)]; exact m10
  have sp1 : ∀ j, j < k → j ∈ O ∨ ∃ n, zIsp B j n ∧ j + n ≤ k + 1 ∧ I1 144 (b0 + j) = nI n := fun j hj => by
    rcases hSp j hj with h | ⟨m, m1, m2, m3⟩
    · exact Or.inl h
    · refine Or.inr ⟨m, m1, by omega, ?_⟩
      rw [M1 144 _ (by decide) (by omega) (by omega) (by omega) (by omega)]
      exact m3
  rcases mo with ⟨q4, o4⟩ | ⟨q4, o4, o368, o400⟩
  · -- a leaf
    have hc0 : znH B (zat B k) = 0 := by
      unfold znH znC
      unfold znQ at q4
      repeat' split
      all_goals first
        | rfl
        | (exfalso; split at q4 <;> omega)
    rw [hc0] at eS
    have eS : (zsq B (k + 1)).2 = zppx (l :: W) := eS
    have hisp : zIsp B k 1 := by
      refine ⟨by omega, fun i h1 h2 => by omega, ?_⟩
      show (zsq B (k + 1)).2.length ≤ zlvl B k
      rw [eS]
      have := zppx_l (l :: W)
      have h3 := zLo_len _ _ _ hLo
      have h4 : (l :: W).length = ((l + 1) :: W).length := rfl
      omega
    have spn : ∀ I2 : zI, I2 144 = I1 144 → zSpn I2 B b0 (k + 1) O := fun I2 e j hj => by
      rw [e]
      by_cases hjk : j = k
      · subst hjk
        exact Or.inr ⟨1, hisp, by omega, m144⟩
      · exact sp1 j (by omega)
    cases O with
    | nil =>
      obtain ⟨rfl, rfl⟩ := bot W l hLo rfl
      have q := fin [0] [] I1 0 (zFd_w M) (fun _ _ _ => rfl) (by decide) o4 rfl eS.symm trivial (spn I1 rfl)
      have e0 : nI ([] : List Nat).length = 0 := rfl
      rw [e0] at o4
      simp (decide := true) (disch := omega) only [o4, zi40, zt40, zo40_0, zo40_1, zo40_2, zo40_4, zy_ldI, zy_ldL, zy_ldA, zy_stI, zy_stL, zy_stA, zy_cI, zy_cL, zy_nul, zy_inc, zy_bI, zy_bL, zy_sL, zy_un, zy_cmp, zy_dup, zy_dup2, zy_pop, zy_pop2, zy_jn, zy_jnn, zy_go, zy_fal, zy_tsw, zy_lsw, zy_get, zy_put, zy_ald, zy_ast, zy_len, zy_newa, zy_new, zy_cal, zy_ret, zy_tak, zy_cst, zy_acp, zy_oini, zy_cln, zy_thr, zy_bad, zy_lco, zy_if0, zy_ic0, zy_if1, zy_ic1, zy_if2, zy_ic2, zy_if3, zy_ic3, zy_if4, zy_ic4, zy_if5, zy_ic5, zK_go, zK_to, zK_end, zK_callH, zK_iteC, zK_none, zsLd, zsSt, zsInc, zsBI, zsBL, zsSL, zsUn, zsCmp, zsDup, zsDup2, zsPop, zsPop2, zsJn, zsTsw, zsLsw, zsGet, zsPut, zsAld, zsAst, zsLen, zsNewa, zsCal, zsRet, zsCst, zsAcp, zsOini, zsCln, zsLco, zsThr, zxBI, zxBL, zxSL, zxU, zset1, zset2, zclr, zcat, zmake_mk, zcomp, zH_i, zH_l, zH_r, zH_u, zH_n, List.set_cons_zero, List.set_cons_succ, List.getElem?_cons_zero, List.getElem?_cons_succ, List.length_cons, List.length_nil, List.take_succ_cons, List.take_zero, List.drop_succ_cons, List.drop_zero, List.reverse_cons, List.reverse_nil, List.nil_append, List.cons_append, List.map_cons, List.map_nil, List.sum_cons, List.sum_nil, Option.toList_some, Option.toList_none, Value.category, Nat.reduceAdd, Nat.reduceMul, Nat.reduceMod, Nat.reduceDiv, Nat.reduceSub, Nat.reduceLT, Nat.reduceLeDiff, Nat.reduceEqDiff, Nat.zero_le, Nat.le_refl, Int32.reduceToNatClampNeg, Int32.reduceLT, Int32.reduceLE, Int32.reduceAdd, Int32.reduceSub, Int32.reduceMul, ↓reduceIte, reduceCtorEq, Nat.add_zero, Nat.zero_add, true_or, or_true, false_or, or_false, true_and, and_true, false_and, and_false, not_true_eq_false, not_false_eq_true, if_true, if_false, true_implies, false_implies, implies_true, forall_const, false_imp_iff, true_imp_iff, va_rf, zlay, zent, List.replicate_zero, List.append_nil, List.replicate_succ, List.length_append, ne_eq, Option.some.injEq, Value.int.injEq, Value.long.injEq, Int32.reduceOfNat, Int32.reduceToInt, Int.reduceLT, Int.reduceLE, Int.reduceSub, Int.reduceToNat, Int.reduceAdd, Int.reduceNeg, Int32.reduceDiv, Int64.reduceAdd, Int64.reduceSub, lg_cmp_ge, lg_cmp_le, lg_cmp_gt, lg_cmp_lt, lg_cmp_eq, wlt_t, wlt_f, wle_t, wle_f, wmod, wI_lt, wI_le, wI_eq, wI_neg, wI_pos, wI_cl, wI_ge, wI_po, w64_lt, w64_le, w64_eq, w64_lt0, w64_le0, w64_eq0, w64_32, zc317, zc319, wI_add, wI_a1, wI_s1, wI_e0, wI_m8, wI_m128, wI_m64, wI_m190, not_true_eq_false, not_false_eq_true, sP_290_0 hS, sP_290_2 hS, sP_290_3 hS, sN_368 hS, sN_400 hS, sN_6417 hS]
      exact q
    | cons o O =>
      obtain ⟨l', W', e, g1, g2, g3, g4⟩ := hLo
      injection e with e1 e2
      subst e1 e2
      obtain ⟨ol1, ol2, ol3, ol4⟩ := hOl
      have h12 : O.length + 1 ≤ 12 := h12
      have o4 : I1 290 4 = nI (O.length + 1) := o4
      have g1 : I1 368 O.length = nI (b0 + o) := by rw [M1 368 _ (by decide) (by omega) (by omega) (by omega) (fun h => by have h : O.length = O.length + 1 := h.2; omega)]; exact g1
      have g2 : I1 400 O.length = nI (l + 1) := by rw [M1 400 _ (by decide) (by omega) (by omega) (by omega) (fun h => by have h : O.length = O.length + 1 := h.2; omega)]; exact g2
      have bt0 : (if k = 0 then 1 else 0) = 0 := if_neg (by omega)
      rw [bt0] at g4
      have q := fin (l :: W) (o :: O) (zu I1 400 O.length (nI l)) 0 (zFd_tr (zFd_w M) ⟨fun c x1 x2 x3 x4 x5 x6 x7 x8 x9 => zuR_ne x4, fun j hj => by rw [zuR_ne (by decide)], fun j hj => ⟨by rw [zuR_ne (by decide)], by rw [zuR_ne (by decide)], by rw [zuR_ne (by decide)], by rw [zuR_ne (by decide)], rfl⟩, fun _ _ _ => rfl⟩) (fun c j x => by rw [zuR_ne x]) h12 (by rw [zuR_ne (by decide)]; exact o4) ⟨l, W, rfl, by rw [zuR_ne (by decide)]; exact g1, zu_at, by omega, zLo_c _ _ _ (fun j hj => ⟨by rw [zuR_ne (by decide), M1 368 _ (by decide) (by omega) (by omega) (by omega) (fun h => by have h : j = O.length + 1 := h.2; omega)], by rw [zu_nj (by omega), M1 400 _ (by decide) (by omega) (by omega) (by omega) (fun h => by have h : j = O.length + 1 := h.2; omega)]⟩) g4⟩ eS.symm hOl1 (spn _ (zuR_ne (by decide)))
      have eP : nI (O.length + 1) - 1 = nI O.length := nI_pred _
      have eP2 : nI (b0 + k + 1) - 1 = nI (b0 + k) := nI_pred _
      have eP3 : nI (l + 1) - 1 = nI l := nI_pred _
      have hne : ¬ b0 + o = b0 + k := by omega
      simp (decide := true) (disch := omega) only [o4, eP, g1, m7, eP2, hne, g2, eP3, zi40, zt40, zo40_0, zo40_1, zo40_2, zo40_4, zy_ldI, zy_ldL, zy_ldA, zy_stI, zy_stL, zy_stA, zy_cI, zy_cL, zy_nul, zy_inc, zy_bI, zy_bL, zy_sL, zy_un, zy_cmp, zy_dup, zy_dup2, zy_pop, zy_pop2, zy_jn, zy_jnn, zy_go, zy_fal, zy_tsw, zy_lsw, zy_get, zy_put, zy_ald, zy_ast, zy_len, zy_newa, zy_new, zy_cal, zy_ret, zy_tak, zy_cst, zy_acp, zy_oini, zy_cln, zy_thr, zy_bad, zy_lco, zy_if0, zy_ic0, zy_if1, zy_ic1, zy_if2, zy_ic2, zy_if3, zy_ic3, zy_if4, zy_ic4, zy_if5, zy_ic5, zK_go, zK_to, zK_end, zK_callH, zK_iteC, zK_none, zsLd, zsSt, zsInc, zsBI, zsBL, zsSL, zsUn, zsCmp, zsDup, zsDup2, zsPop, zsPop2, zsJn, zsTsw, zsLsw, zsGet, zsPut, zsAld, zsAst, zsLen, zsNewa, zsCal, zsRet, zsCst, zsAcp, zsOini, zsCln, zsLco, zsThr, zxBI, zxBL, zxSL, zxU, zset1, zset2, zclr, zcat, zmake_mk, zcomp, zH_i, zH_l, zH_r, zH_u, zH_n, List.set_cons_zero, List.set_cons_succ, List.getElem?_cons_zero, List.getElem?_cons_succ, List.length_cons, List.length_nil, List.take_succ_cons, List.take_zero, List.drop_succ_cons, List.drop_zero, List.reverse_cons, List.reverse_nil, List.nil_append, List.cons_append, List.map_cons, List.map_nil, List.sum_cons, List.sum_nil, Option.toList_some, Option.toList_none, Value.category, Nat.reduceAdd, Nat.reduceMul, Nat.reduceMod, Nat.reduceDiv, Nat.reduceSub, Nat.reduceLT, Nat.reduceLeDiff, Nat.reduceEqDiff, Nat.zero_le, Nat.le_refl, Int32.reduceToNatClampNeg, Int32.reduceLT, Int32.reduceLE, Int32.reduceAdd, Int32.reduceSub, Int32.reduceMul, ↓reduceIte, reduceCtorEq, Nat.add_zero, Nat.zero_add, true_or, or_true, false_or, or_false, true_and, and_true, false_and, and_false, not_true_eq_false, not_false_eq_true, if_true, if_false, true_implies, false_implies, implies_true, forall_const, false_imp_iff, true_imp_iff, va_rf, zlay, zent, List.replicate_zero, List.append_nil, List.replicate_succ, List.length_append, ne_eq, Option.some.injEq, Value.int.injEq, Value.long.injEq, Int32.reduceOfNat, Int32.reduceToInt, Int.reduceLT, Int.reduceLE, Int.reduceSub, Int.reduceToNat, Int.reduceAdd, Int.reduceNeg, Int32.reduceDiv, Int64.reduceAdd, Int64.reduceSub, lg_cmp_ge, lg_cmp_le, lg_cmp_gt, lg_cmp_lt, lg_cmp_eq, wlt_t, wlt_f, wle_t, wle_f, wmod, wI_lt, wI_le, wI_eq, wI_neg, wI_pos, wI_cl, wI_ge, wI_po, w64_lt, w64_le, w64_eq, w64_lt0, w64_le0, w64_eq0, w64_32, zc317, zc319, wI_add, wI_a1, wI_s1, wI_e0, wI_m8, wI_m128, wI_m64, wI_m190, not_true_eq_false, not_false_eq_true, sP_290_0 hS, sP_290_2 hS, sP_290_3 hS, sN_368 hS, sN_400 hS, sN_6417 hS]
      exact q
  · -- a node that holds others
    have hcC : znH B (zat B k) = znC B (zat B k) := by
      unfold znH
      rw [if_neg]
      intro h
      unfold znQ at q4
      rw [h, if_neg (by decide)] at q4
      omega
    have eX : zppx (znC B (zat B k) :: l :: W) = (zsq B (k + 1)).2 := by
      rw [eS, hcC]
      show zppx (znC B (zat B k) :: l :: W) = zppx (if 0 < znC B (zat B k) then znC B (zat B k) :: l :: W else l :: W)
      by_cases hz : znC B (zat B k) = 0
      · rw [hz]; rfl
      · rw [if_pos (by omega)]
    have below : zLo I1 b0 0 1 (l :: W) O := by
      cases O with
      | nil =>
        obtain ⟨rfl, rfl⟩ := bot W l hLo rfl
        rfl
      | cons o O =>
        obtain ⟨l', W', e, g1, g2, g3, g4⟩ := hLo
        injection e with e1 e2
        subst e1 e2
        have bt0 : (if k = 0 then 1 else 0) = 0 := if_neg (by have := hOl.2.1; omega)
        rw [bt0] at g4
        have nj : ∀ j, j ≤ O.length → ¬ j = (o :: O).length := fun j hj h => by have h : j = O.length + 1 := h; omega
        exact ⟨l, W, rfl, by rw [M1 368 _ (by decide) (by omega) (by omega) (by omega) (fun h => nj _ (by omega) h.2)]; exact g1, by rw [M1 400 _ (by decide) (by omega) (by omega) (by omega) (fun h => nj _ (by omega) h.2)]; exact g2, by omega, zLo_c _ _ _ (fun j hj => ⟨by rw [M1 368 _ (by decide) (by omega) (by omega) (by omega) (fun h => nj _ (by omega) h.2)], by rw [M1 400 _ (by decide) (by omega) (by omega) (by omega) (fun h => nj _ (by omega) h.2)]⟩) g4⟩
    have q := fin (znC B (zat B k) :: l :: W) (k :: O) I1 1 (zFd_w M) (fun _ _ _ => rfl) (by show O.length + 1 ≤ 12; omega) o4 ⟨_, _, rfl, o368, o400, by rw [← hcC]; exact hH, below⟩ eX ⟨hlv, by omega, fun i i1 i2 => by omega, hOl1⟩ (fun j hj => by
      by_cases hjk : j = k
      · subst hjk
        exact Or.inl (List.mem_cons_self)
      · rcases sp1 j (by omega) with h | h
        · exact Or.inl (List.mem_cons_of_mem _ h)
        · exact Or.inr h)
    have eP : nI (O.length + 1) - 1 = nI O.length := nI_pred _
    have eP2 : nI (b0 + k + 1) - 1 = nI (b0 + k) := nI_pred _
    have h11 : O.length + 1 ≤ 12 := by omega
    simp (decide := true) (disch := omega) only [o4, eP, o368, m7, eP2, zi40, zt40, zo40_0, zo40_1, zo40_2, zo40_4, zy_ldI, zy_ldL, zy_ldA, zy_stI, zy_stL, zy_stA, zy_cI, zy_cL, zy_nul, zy_inc, zy_bI, zy_bL, zy_sL, zy_un, zy_cmp, zy_dup, zy_dup2, zy_pop, zy_pop2, zy_jn, zy_jnn, zy_go, zy_fal, zy_tsw, zy_lsw, zy_get, zy_put, zy_ald, zy_ast, zy_len, zy_newa, zy_new, zy_cal, zy_ret, zy_tak, zy_cst, zy_acp, zy_oini, zy_cln, zy_thr, zy_bad, zy_lco, zy_if0, zy_ic0, zy_if1, zy_ic1, zy_if2, zy_ic2, zy_if3, zy_ic3, zy_if4, zy_ic4, zy_if5, zy_ic5, zK_go, zK_to, zK_end, zK_callH, zK_iteC, zK_none, zsLd, zsSt, zsInc, zsBI, zsBL, zsSL, zsUn, zsCmp, zsDup, zsDup2, zsPop, zsPop2, zsJn, zsTsw, zsLsw, zsGet, zsPut, zsAld, zsAst, zsLen, zsNewa, zsCal, zsRet, zsCst, zsAcp, zsOini, zsCln, zsLco, zsThr, zxBI, zxBL, zxSL, zxU, zset1, zset2, zclr, zcat, zmake_mk, zcomp, zH_i, zH_l, zH_r, zH_u, zH_n, List.set_cons_zero, List.set_cons_succ, List.getElem?_cons_zero, List.getElem?_cons_succ, List.length_cons, List.length_nil, List.take_succ_cons, List.take_zero, List.drop_succ_cons, List.drop_zero, List.reverse_cons, List.reverse_nil, List.nil_append, List.cons_append, List.map_cons, List.map_nil, List.sum_cons, List.sum_nil, Option.toList_some, Option.toList_none, Value.category, Nat.reduceAdd, Nat.reduceMul, Nat.reduceMod, Nat.reduceDiv, Nat.reduceSub, Nat.reduceLT, Nat.reduceLeDiff, Nat.reduceEqDiff, Nat.zero_le, Nat.le_refl, Int32.reduceToNatClampNeg, Int32.reduceLT, Int32.reduceLE, Int32.reduceAdd, Int32.reduceSub, Int32.reduceMul, ↓reduceIte, reduceCtorEq, Nat.add_zero, Nat.zero_add, true_or, or_true, false_or, or_false, true_and, and_true, false_and, and_false, not_true_eq_false, not_false_eq_true, if_true, if_false, true_implies, false_implies, implies_true, forall_const, false_imp_iff, true_imp_iff, va_rf, zlay, zent, List.replicate_zero, List.append_nil, List.replicate_succ, List.length_append, ne_eq, Option.some.injEq, Value.int.injEq, Value.long.injEq, Int32.reduceOfNat, Int32.reduceToInt, Int.reduceLT, Int.reduceLE, Int.reduceSub, Int.reduceToNat, Int.reduceAdd, Int.reduceNeg, Int32.reduceDiv, Int64.reduceAdd, Int64.reduceSub, lg_cmp_ge, lg_cmp_le, lg_cmp_gt, lg_cmp_lt, lg_cmp_eq, wlt_t, wlt_f, wle_t, wle_f, wmod, wI_lt, wI_le, wI_eq, wI_neg, wI_pos, wI_cl, wI_ge, wI_po, w64_lt, w64_le, w64_eq, w64_lt0, w64_le0, w64_eq0, w64_32, zc317, zc319, wI_add, wI_a1, wI_s1, wI_e0, wI_m8, wI_m128, wI_m64, wI_m190, not_true_eq_false, not_false_eq_true, sP_290_0 hS, sP_290_2 hS, sP_290_3 hS, sN_368 hS, sN_400 hS, sN_6417 hS]
    exact q
end
