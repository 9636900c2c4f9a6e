-- needs: 01 02.names 03 04 05 18 19 20 22 23 24 25 30 31 32 33 36 40 42 43 44 46 47 60 61 62 63 64 79f 79g 79h 79i 79j 79k 79l 79m 79n 79o 79p 79q 79r 79s 79t 79u 7a 7b 7c 7d 7e 7f 7g 7h 7i 7j 7k 7l 7m 7n 7o 7p 7q
/-! The class's machine runs as ours does -/
section
variable {Kd Sc l : Nat → Nat} {Nm : Nat → Int64} {M top S W x v f m a : Nat} {tab : Nat → yV} {e : List Nat} {st : List (Nat × Nat × List Nat)} {g : Nat × Nat × Nat}
/-- evaluation: at most five more turns wait -/
theorem ymu_e : (yev Kd Nm tab top x e st S W).2.2.1 = 2 ∨ yph (yev Kd Nm tab top x e st S W).2.2.2.2.2.1 + 1 + 6 * S ≤ yph st + 6 * (yev Kd Nm tab top x e st S W).2.2.2.2.2.2.1 := by
  have nw : ∀ w, (ynw tab top st (S + 1) W w 1).2.2.1 = 2 ∨ yph (ynw tab top st (S + 1) W w 1).2.2.2.2.2.1 + 1 + 6 * S ≤ yph st + 6 * (ynw tab top st (S + 1) W w 1).2.2.2.2.2.2.1 := fun w => by
    unfold ynw
    split
    · exact Or.inl rfl
    · exact Or.inr (by show yph st + 1 + 6 * S ≤ yph st + 6 * (S + 1); omega)
  have ph : ∀ k : Nat, yph ((k, x, e) :: st) ≤ 5 + yph st := fun k => by
    show (if k = 0 then 5 else if k = 1 then 4 else 1) + yph st ≤ _
    split
    · omega
    · split <;> omega
  unfold yev
  split
  · exact Or.inl rfl
  · split
    · exact Or.inr (by show yph st + 1 + 6 * S ≤ yph st + 6 * (S + 1); omega)
    · exact nw _
    · split
      · exact Or.inl rfl
      · exact Or.inr (by have := ph 0; show yph ((0, x, e) :: st) + 1 + 6 * S ≤ yph st + 6 * (S + 1); omega)
    · exact nw _
    · split
      · exact Or.inl rfl
      · exact Or.inr (by have := ph 2; show yph ((2, x, e) :: st) + 1 + 6 * S ≤ yph st + 6 * (S + 1); omega)
    · exact Or.inl rfl
    · exact nw _
    · exact Or.inr (by show yph st + 1 + 6 * S ≤ yph st + 6 * (S + 1); omega)
/-- a value given: what waited pays -/
theorem ymu_g (hw : yws Kd l M top st) : (ygv Sc tab top v st S W).2.2.1 = 2 ∨ yph (ygv Sc tab top v st S W).2.2.2.2.2.1 + ytn st + 6 * S ≤ yph st + 6 * (ygv Sc tab top v st S W).2.2.2.2.2.2.1 := by
  unfold ygv
  split
  · exact Or.inl rfl
  · rename_i k y e' r
    split
    · exact Or.inr (by show (4 + yph r) + 1 + 6 * S ≤ (5 + yph r) + 6 * S; omega)
    · show (yap tab top r S W y v).2.2.1 = 2 ∨ yph (yap tab top r S W y v).2.2.2.2.2.1 + 4 + 6 * S ≤ (4 + yph r) + 6 * (yap tab top r S W y v).2.2.2.2.2.2.1
      have nw : ∀ (S' c : Nat) w, S ≤ S' → (ynw tab top r S' W w c).2.2.1 = 2 ∨ yph (ynw tab top r S' W w c).2.2.2.2.2.1 + 4 + 6 * S ≤ (4 + yph r) + 6 * (ynw tab top r S' W w c).2.2.2.2.2.2.1 := fun S' c w h => by
        unfold ynw
        split
        · exact Or.inl rfl
        · exact Or.inr (by show yph r + 4 + 6 * S ≤ (4 + yph r) + 6 * S'; omega)
      unfold yap
      generalize tab y = u
      obtain ⟨kd, nm, bd, ee, d⟩ := u
      show (if kd = 5 then _ else _ : yM).2.2.1 = 2 ∨ _
      dsimp only
      split
      · split
        · exact Or.inl rfl
        · exact Or.inr (by show yph r + 4 + 6 * S ≤ (4 + yph r) + 6 * S; omega)
      · split
        · split
          · exact nw S 1 _ (Nat.le_refl _)
          · split
            · exact Or.inl rfl
            · unfold yfn
              by_cases hf : yft bd (tab (yga ee v).1) (tab (yga ee v).2.1) (tab (yga ee v).2.2)
              · rw [yif_f (fun x => x hf)]
                split
                · generalize yif ((tab (yga ee v).1).2.1 = 1) (yga ee v).2.1 (yga ee v).2.2 = i
                  dsimp only
                  split
                  · exact Or.inl rfl
                  · exact Or.inr (by show yph r + 4 + 6 * S ≤ (4 + yph r) + 6 * (S + _); omega)
                · split
                  · exact Or.inl rfl
                  · exact nw _ _ _ (by omega)
              · rw [yif_t hf]
                exact Or.inl rfl
        · exact Or.inl rfl
    · rename_i hk0 hk1
      have e : yph ((k, y, e') :: r) = 1 + yph r ∧ ytn ((k, y, e') :: r) = 1 := by
        have a0 : ¬ k = 0 := hk0
        have a1 : ¬ k = 1 := hk1
        constructor
        · show (if k = 0 then 5 else if k = 1 then 4 else 1) + yph r = _
          rw [if_neg a0, if_neg a1]
        · show (if k = 1 then 4 else 1) = 1
          rw [if_neg a1]
      rw [e.1, e.2]
      split
      · exact Or.inr (by show yph r + 1 + 6 * S ≤ (1 + yph r) + 6 * S; omega)
      · exact Or.inl rfl
end
section
variable {I I0 : zI} {J J0 : zJ} {P : zP} {N : Nat → Nat} {n z nt bt bn b0 : Nat} {Q : Option Value → zS → Prop} {Kd Sc l : Nat → Nat} {Nm : Nat → Int64} {M : Nat} {s0 : yM}
set_option maxRecDepth 20000 in
theorem l69 (hS : zStat P N) (hT : I0 54 = zTK0 ∧ N 54 = 32) (hc : yco Kd Sc Nm l M) (hw : ywm Kd l M s0) (hQ : ∀ I' J' nt' bt' bn' k, yend (yit Kd Sc Nm s0 k) → yCf b0 I0 J0 I' J' → yCS Kd Sc Nm M I' J' nt' bt' bn' (yit Kd Sc Nm s0 k) → Q none (I', J', P, N, n, z)) : ∀ r t k (I : zI) (J : zJ) nt bt bn, t + r = 120010 → b0 ≤ nt → 8320 ≤ bt → yCf b0 I0 J0 I J → yCS Kd Sc Nm M I J nt bt bn (yit Kd Sc Nm s0 k) → (yend (yit Kd Sc Nm s0 k) ∨ t + yph (yit Kd Sc Nm s0 k).2.2.2.2.2.1 ≤ 6 * (yit Kd Sc Nm s0 k).2.2.2.2.2.2.1) → yLo P N n z Q t I J := by
  intro r
  induction r using Nat.strongRecOn with
  | ind r ih =>
    intro t k I J nt bt bn hr hb hb2 hf hs hm
    have wk := ywm_i hc hw k
    have nx : yit Kd Sc Nm s0 (k + 1) = yst Kd Sc Nm (yit Kd Sc Nm s0 k) := rfl
    have hT' : I 54 = zTK0 ∧ N 54 = 32 := ⟨by rw [hf.1 54 (by unfold yCm; omega)]; exact hT.1, hT.2⟩
    have ihn := fun r' (h : r' < r) t' (I' : zI) (J' : zJ) nt' bt' bn' => ih r' h t' (k + 1) I' J' nt' bt' bn'
    have fin := fun nt' bt' bn' => hQ I J nt' bt' bn' k
    generalize yit Kd Sc Nm s0 k = s at wk nx hs hm fin
    obtain ⟨tab, top, m, x, e, st, S, W, a⟩ := s
    obtain ⟨⟨w1, w2, w3, w4, w5, w6⟩, wv, ws, wx, wy⟩ := wk
    have hm' : m = 0 ∨ m = 1 ∨ m = 2 := by omega
    rcases hm' with rfl | rfl | rfl
    · have hm : t + yph st ≤ 6 * S := by
        rcases hm with h | h
        · cases h
        · exact h
      refine s69e (l := l) (x := x) (e := e) (st := st) (S := S) (W := W) (tab := tab) (top := top) hS hc ⟨⟨w1, w2, w3, w4, w5, w6⟩, wv, ws, wx, fun h => by omega⟩ hs hb hb2 (by omega) (fun I' J' nt' bt' bn' t' a1 a2 a3 a4 a5 a6 => ?_)
      have e1 : yit Kd Sc Nm s0 (k + 1) = yev Kd Nm tab top x e st S W := nx
      have wk' := ywm_i hc hw (k + 1)
      refine ih (120010 - t') (by omega) t' (k + 1) I' J' nt' bt' bn' (by omega) a3 a4 (yCf_t hf a5) (by rw [e1]; exact a6) ?_
      rw [e1]
      rcases ymu_e (Kd := Kd) (Nm := Nm) (tab := tab) (top := top) (x := x) (e := e) (st := st) (S := S) (W := W) with h | h
      · exact Or.inl h
      · exact Or.inr (by omega)
    · have hm : t + yph st ≤ 6 * S := by
        rcases hm with h | h
        · cases h
        · exact h
      have tn : ytn st ≤ 4 := by
        match st with
        | [] => show 1 ≤ 4; omega
        | (k, _, _) :: _ => show (if k = 1 then 4 else 1) ≤ 4; split <;> omega
      refine s69g (l := l) (v := x) (e := e) (st := st) (S := S) (W := W) (tab := tab) (top := top) hS hT' hc ⟨⟨w1, w2, w3, w4, w5, w6⟩, wv, ws, fun h => by omega, fun _ => wy (Or.inl rfl)⟩ hs hb hb2 (by omega) (fun I' J' nt' bt' bn' t' a1 a2 a3 a4 a5 a6 => ?_)
      have e1 : yit Kd Sc Nm s0 (k + 1) = ygv Sc tab top x st S W := nx
      refine ih (120010 - t') (by omega) t' (k + 1) I' J' nt' bt' bn' (by omega) a3 a4 (yCf_t hf a5) (by rw [e1]; exact a6) ?_
      rw [e1]
      rcases ymu_g (Sc := Sc) (tab := tab) (v := x) (S := S) (W := W) ws with h | h
      · exact Or.inl h
      · exact Or.inr (by omega)
    · have q := fin nt bt bn rfl hf hs
      have h10 : I 2532 10 = 5 := hs.1
      have tt : ¬ 160000 ≤ nI t := by rw [wI_gec (c := 160000)]; omega
      have t5 : ((5 : Int32) = 5) = True := eq_true rfl
      unfold yLo
      rw [zo69_1]
      simp (decide := true) (disch := omega) only [tt, h10, t5, zi69, zt69, zo69_0, zo69_2, zo69_3, zo69_4, zo69_5, zo69_6, zo69_7, zo69_8, zy_ldI, zy_ldL, zy_ldA, zy_stI, zy_stL, zy_stA, zy_cI, zy_cL, zy_nul, zy_inc, zy_bI, zy_bL, zy_sL, zy_un, zy_cmp, zy_dup, zy_dup2, zy_pop, zy_pop2, zy_jn, zy_jnn, zy_go, zy_fal, zy_tsw, zy_lsw, zy_get, zy_put, zy_ald, zy_ast, zy_len, zy_newa, zy_new, zy_cal, zy_ret, zy_tak, zy_cst, zy_acp, zy_oini, zy_cln, zy_thr, zy_bad, zy_lco, zy_if0, zy_ic0, zy_if1, zy_ic1, zy_if2, zy_ic2, zy_if3, zy_ic3, zy_if4, zy_ic4, zy_if5, zy_ic5, zK_go, zK_to, zK_end, zK_callH, zK_iteC, zK_none, zsLd, zsSt, zsInc, zsBI, zsBL, zsSL, zsUn, zsCmp, zsDup, zsDup2, zsPop, zsPop2, zsJn, zsTsw, zsLsw, zsGet, zsPut, zsAld, zsAst, zsLen, zsNewa, zsCal, zsRet, zsCst, zsAcp, zsOini, zsCln, zsLco, zsThr, zxBI, zxBL, zxSL, zxU, zset1, zset2, zclr, zcat, zmake_mk, zcomp, zH_i, zH_l, zH_r, zH_u, zH_n, List.set_cons_zero, List.set_cons_succ, List.getElem?_cons_zero, List.getElem?_cons_succ, List.length_cons, List.length_nil, List.take_succ_cons, List.take_zero, List.drop_succ_cons, List.drop_zero, List.reverse_cons, List.reverse_nil, List.nil_append, List.cons_append, List.map_cons, List.map_nil, List.sum_cons, List.sum_nil, Option.toList_some, Option.toList_none, Value.category, Nat.reduceAdd, Nat.reduceMul, Nat.reduceMod, Nat.reduceDiv, Nat.reduceSub, Nat.reduceLT, Nat.reduceLeDiff, Nat.reduceEqDiff, Nat.zero_le, Nat.le_refl, Int32.reduceToNatClampNeg, Int32.reduceLT, Int32.reduceLE, Int32.reduceAdd, Int32.reduceSub, Int32.reduceMul, ↓reduceIte, reduceCtorEq, Nat.add_zero, Nat.zero_add, true_or, or_true, false_or, or_false, true_and, and_true, false_and, and_false, not_true_eq_false, not_false_eq_true, if_true, if_false, true_implies, false_implies, implies_true, forall_const, false_imp_iff, true_imp_iff, va_rf, zlay, zent, List.replicate_zero, List.append_nil, List.replicate_succ, List.length_append, ne_eq, Option.some.injEq, Value.int.injEq, Value.long.injEq, Int32.reduceOfNat, Int32.reduceToInt, Int.reduceLT, Int.reduceLE, Int.reduceSub, Int.reduceToNat, Int.reduceAdd, Int.reduceNeg, Int32.reduceDiv, Int64.reduceAdd, Int64.reduceSub, lg_cmp_ge, lg_cmp_le, lg_cmp_gt, lg_cmp_lt, lg_cmp_eq, wlt_t, wlt_f, wle_t, wle_f, wmod, wI_lt, wI_le, wI_eq, wI_neg, wI_pos, wI_cl, wI_ge, wI_po, w64_lt, w64_le, w64_eq, w64_lt0, w64_le0, w64_eq0, w64_32, zc317, zc319, wI_add, wI_a1, wI_s1, wI_e0, wI_m8, wI_m128, wI_m64, wI_m190, not_true_eq_false, not_false_eq_true, sP_2532_1 hS, sP_2532_2 hS, sP_2762_2 hS, sN_2833 hS, sN_6417 hS]
      exact q
/-- the answer: kind of the value, and is it TRUE? -/
def ykn : yM → Int32
  | (tab, _, _, x, _, _, _, _, a) => if a = 0 then nI (tab x).1 else -1
def yac : yM → Prop
  | (tab, _, _, x, _, _, _, _, a) => a = 0 ∧ (tab x).1 = 2 ∧ (tab x).2.1 = 1
def yOc (I : zI) (J : zJ) : yM → Prop
  | (tab, _, _, x, _, _, S, W, a) => I 2532 15 = nI a ∧ I 2532 16 = nI S ∧ I 2532 17 = nI W ∧ a < 7 ∧ S ≤ 20000 ∧ W ≤ 3000 ∧ (a = 0 → x < 3201 ∧ I 2532 14 = nI x ∧ I 2799 x = nI (tab x).1 ∧ (tab x).1 < 8 ∧ ((tab x).1 = 2 → J 2833 x = (tab x).2.1))
/-- a new machine -/
def yini (tab : Nat → yV) : yM := (tab, 200, 0, 0, [], [], 0, 0, 0)
/-- answers are few -/
def yan7 : yM → Prop
  | (_, _, _, _, _, _, _, _, a) => a < 7
theorem yan7_n {tab : Nat → yV} {top S W c : Nat} {st : List (Nat × Nat × List Nat)} {w : yV} : yan7 (ynw tab top st S W w c) := by
  unfold ynw
  split
  · show 5 < 7; omega
  · show 0 < 7; omega
theorem yan7_s {s : yM} (h : yan7 s) : yan7 (yst Kd Sc Nm s) := by
  obtain ⟨tab, top, m, x, e, st, S, W, a⟩ := s
  unfold yst
  dsimp only
  split
  · unfold yev
    split
    · show 4 < 7; omega
    · split
      · show 0 < 7; omega
      · exact yan7_n
      · split
        · show 6 < 7; omega
        · show 0 < 7; omega
      · exact yan7_n
      · split
        · show 6 < 7; omega
        · show 0 < 7; omega
      · show 1 < 7; omega
      · exact yan7_n
      · show 0 < 7; omega
  · unfold ygv
    split
    · show 0 < 7; omega
    · split
      · show 0 < 7; omega
      · unfold yap
        split
        split
        · split
          · show 5 < 7; omega
          · show 0 < 7; omega
        · split
          · split
            · exact yan7_n
            · split
              · show 4 < 7; omega
              · unfold yfn
                rename_i b ee _ _ _ _ _ _
                by_cases hf : yft b (tab (yga ee x).1) (tab (yga ee x).2.1) (tab (yga ee x).2.2)
                · rw [yif_f (fun x => x hf)]
                  split
                  · generalize yif ((tab (yga ee x).1).2.1 = 1) (yga ee x).2.1 (yga ee x).2.2 = i
                    dsimp only
                    split
                    · show 5 < 7; omega
                    · show 0 < 7; omega
                  · split
                    · show 3 < 7; omega
                    · exact yan7_n
                · rw [yif_t hf]
                  show 2 < 7; omega
          · show 2 < 7; omega
      · split
        · show 0 < 7; omega
        · show 2 < 7; omega
  · exact h
theorem yan7_i {s : yM} (h : yan7 s) : ∀ k, yan7 (yit Kd Sc Nm s k) := by
  intro k
  induction k with
  | zero => exact h
  | succ k ih => exact yan7_s ih
set_option maxRecDepth 20000 in
theorem e69 {tab : Nat → yV} (hS : zStat P N) (hT : I 54 = zTK0 ∧ N 54 = 32) (hc : yco Kd Sc Nm l M) (hw : ywm Kd l M (yini tab)) (hC : yCc Kd Sc Nm M I J) (h7 : I 37 7 = nI nt) (h8 : I 37 8 = nI 8320) (h5 : I 2762 5 = nI 200) (hB : I 2762 8 = nI 0) (hn : nt ≤ 601) (hb : b0 ≤ nt) (hv : ∀ v, v < M → 7 ≤ Kd v → yCv I J nt 8320 200 0 v (tab v))
    (hQ : ∀ I' J' k, yend (yit Kd Sc Nm (yini tab) k) → yCf b0 I J I' J' → yOc I' J' (yit Kd Sc Nm (yini tab) k) → Q none (I', J', P, N, n, z)) : zC 69 [.ref 2532] (I, J, P, N, n, z) Q := by
  have q := l69 (I0 := I) (J0 := J) (b0 := b0) (s0 := yini tab) (Q := Q) (n := n) (z := z) hS hT hc hw (fun I' J' nt' bt' bn' k h1 h2 h3 => hQ I' J' k h1 h2 (by
    have a7 := yan7_i (Kd := Kd) (Sc := Sc) (Nm := Nm) (s := yini tab) (show 0 < 7 by omega) k
    have wk := ywm_i hc hw k
    generalize yit Kd Sc Nm (yini tab) k = s at h1 h3 a7 wk
    obtain ⟨tab, top, m, x, e, st, S, W, a⟩ := s
    have : m = 2 := h1
    subst this
    obtain ⟨-, g1, g2, g3, g4⟩ := h3
    refine ⟨g1, g2, g3, a7, wk.1.2.2.1, wk.1.2.2.2.1, fun h0 => ?_⟩
    obtain ⟨x1, x2, x3, x4⟩ := g4 h0
    have vx := wk.2.1 x (wk.2.2.2.2 (Or.inr ⟨rfl, h0⟩))
    refine ⟨x1, x2, x3, ?_, x4⟩
    generalize tab x = u at vx
    obtain ⟨kd, nm, bd, ee, K, F, C, T, Z, L, Y⟩ := u
    exact vx.1)) 120010 0 0 (zu (zu (zu (zu (zu (zu (zu I 2532 9 0) 2532 16 0) 2532 17 0) 2532 15 0) 2532 11 0) 2532 12 (-1)) 2532 10 0) J nt 8320 0 (by omega) hb (by omega) (yCf_k (fun c h => by simp only [zuR_ne h])) (by
    have fr : ∀ c, c ≠ 2532 → zu (zu (zu (zu (zu (zu (zu I 2532 9 0) 2532 16 0) 2532 17 0) 2532 15 0) 2532 11 0) 2532 12 (-1)) 2532 10 0 c = I c := fun c h => by simp only [zuR_ne h]
    refine ⟨⟨fun i hi => ?_, ⟨?_, ?_, ?_, ?_⟩, ⟨?_, ?_, ?_, ?_⟩, ⟨by omega, by omega, by omega⟩, fun v hv' => ?_, trivial⟩, zu_at, ?_, ?_⟩
    · rw [fr 2575 (by decide), fr 2640 (by decide)]
      exact hC i hi
    · rw [fr 37 (by decide), h7]
    · rw [fr 37 (by decide), h8]
    · rw [fr 2762 (by decide), h5]
    · rw [fr 2762 (by decide), hB]
    · simp (disch := omega) only [zu_nj, zu_at]; rfl
    · simp (disch := omega) only [zu_nj, zu_at]
    · simp (disch := omega) only [zu_nj, zu_at]; rfl
    · simp (disch := omega) only [zu_nj, zu_at]; rfl
    · have hv' : v < M ∧ 7 ≤ Kd v := by unfold yvl at hv'; omega
      have := hc.1
      exact yCv_g (Nat.le_refl _) (Nat.le_refl _) (Nat.le_refl _) (Nat.le_refl _) (by omega) (yCg_m (fun c h1 _ _ _ _ _ => fr c h1)) (hv v hv'.1 hv'.2)
    · simp (disch := omega) only [zu_nj, zu_at]; rfl
    · show _ = _
      simp (disch := omega) only [zu_nj, zu_at]) (Or.inr (by show 0 + 0 ≤ 6 * 0; omega))
  unfold yLo at q
  simp (decide := true) (disch := omega) only [zi69, zt69, zo69_0, zo69_2, zo69_3, zo69_4, zo69_5, zo69_6, zo69_7, zo69_8, zy_ldI, zy_ldL, zy_ldA, zy_stI, zy_stL, zy_stA, zy_cI, zy_cL, zy_nul, zy_inc, zy_bI, zy_bL, zy_sL, zy_un, zy_cmp, zy_dup, zy_dup2, zy_pop, zy_pop2, zy_jn, zy_jnn, zy_go, zy_fal, zy_tsw, zy_lsw, zy_get, zy_put, zy_ald, zy_ast, zy_len, zy_newa, zy_new, zy_cal, zy_ret, zy_tak, zy_cst, zy_acp, zy_oini, zy_cln, zy_thr, zy_bad, zy_lco, zy_if0, zy_ic0, zy_if1, zy_ic1, zy_if2, zy_ic2, zy_if3, zy_ic3, zy_if4, zy_ic4, zy_if5, zy_ic5, zK_go, zK_to, zK_end, zK_callH, zK_iteC, zK_none, zsLd, zsSt, zsInc, zsBI, zsBL, zsSL, zsUn, zsCmp, zsDup, zsDup2, zsPop, zsPop2, zsJn, zsTsw, zsLsw, zsGet, zsPut, zsAld, zsAst, zsLen, zsNewa, zsCal, zsRet, zsCst, zsAcp, zsOini, zsCln, zsLco, zsThr, zxBI, zxBL, zxSL, zxU, zset1, zset2, zclr, zcat, zmake_mk, zcomp, zH_i, zH_l, zH_r, zH_u, zH_n, List.set_cons_zero, List.set_cons_succ, List.getElem?_cons_zero, List.getElem?_cons_succ, List.length_cons, List.length_nil, List.take_succ_cons, List.take_zero, List.drop_succ_cons, List.drop_zero, List.reverse_cons, List.reverse_nil, List.nil_append, List.cons_append, List.map_cons, List.map_nil, List.sum_cons, List.sum_nil, Option.toList_some, Option.toList_none, Value.category, Nat.reduceAdd, Nat.reduceMul, Nat.reduceMod, Nat.reduceDiv, Nat.reduceSub, Nat.reduceLT, Nat.reduceLeDiff, Nat.reduceEqDiff, Nat.zero_le, Nat.le_refl, Int32.reduceToNatClampNeg, Int32.reduceLT, Int32.reduceLE, Int32.reduceAdd, Int32.reduceSub, Int32.reduceMul, ↓reduceIte, reduceCtorEq, Nat.add_zero, Nat.zero_add, true_or, or_true, false_or, or_false, true_and, and_true, false_and, and_false, not_true_eq_false, not_false_eq_true, if_true, if_false, true_implies, false_implies, implies_true, forall_const, false_imp_iff, true_imp_iff, va_rf, zlay, zent, List.replicate_zero, List.append_nil, List.replicate_succ, List.length_append, ne_eq, Option.some.injEq, Value.int.injEq, Value.long.injEq, Int32.reduceOfNat, Int32.reduceToInt, Int.reduceLT, Int.reduceLE, Int.reduceSub, Int.reduceToNat, Int.reduceAdd, Int.reduceNeg, Int32.reduceDiv, Int64.reduceAdd, Int64.reduceSub, lg_cmp_ge, lg_cmp_le, lg_cmp_gt, lg_cmp_lt, lg_cmp_eq, wlt_t, wlt_f, wle_t, wle_f, wmod, wI_lt, wI_le, wI_eq, wI_neg, wI_pos, wI_cl, wI_ge, wI_po, w64_lt, w64_le, w64_eq, w64_lt0, w64_le0, w64_eq0, w64_32, zc317, zc319, wI_add, wI_a1, wI_s1, wI_e0, wI_m8, wI_m128, wI_m64, wI_m190, not_true_eq_false, not_false_eq_true, sP_2532_1 hS, sP_2532_2 hS, sP_2762_2 hS, sN_2833 hS, sN_6417 hS]
  exact q
set_option maxRecDepth 20000 in
theorem m70 {s : yM} (hS : zStat P N) (h : yOc I J s) (Q : Option Value → zS → Prop) : zC 70 [.ref 2532] (I, J, P, N, n, z) Q = Q (some (.int (ykn s))) (I, J, P, N, n, z) := by
  refine zC_eq (fun Q hQ => ?_) Q
  obtain ⟨tab, top, m, x, e, st, S, W, a⟩ := s
  obtain ⟨h1, h2, h3, h4, -, -, h5⟩ := h
  have hQ : Q (some (.int (if a = 0 then nI (tab x).1 else -1))) (I, J, P, N, n, z) := hQ
  by_cases h0 : a = 0
  · rw [if_pos h0] at hQ
    obtain ⟨x1, x2, x3, x4, x5⟩ := h5 h0
    rw [h0] at h1
    have h1 : I 2532 15 = 0 := h1
    simp (decide := true) (disch := omega) only [h1, x2, x3, zi70, zt70, zo70_0, zo70_1, zo70_2, zy_ldI, zy_ldL, zy_ldA, zy_stI, zy_stL, zy_stA, zy_cI, zy_cL, zy_nul, zy_inc, zy_bI, zy_bL, zy_sL, zy_un, zy_cmp, zy_dup, zy_dup2, zy_pop, zy_pop2, zy_jn, zy_jnn, zy_go, zy_fal, zy_tsw, zy_lsw, zy_get, zy_put, zy_ald, zy_ast, zy_len, zy_newa, zy_new, zy_cal, zy_ret, zy_tak, zy_cst, zy_acp, zy_oini, zy_cln, zy_thr, zy_bad, zy_lco, zy_if0, zy_ic0, zy_if1, zy_ic1, zy_if2, zy_ic2, zy_if3, zy_ic3, zy_if4, zy_ic4, zy_if5, zy_ic5, zK_go, zK_to, zK_end, zK_callH, zK_iteC, zK_none, zsLd, zsSt, zsInc, zsBI, zsBL, zsSL, zsUn, zsCmp, zsDup, zsDup2, zsPop, zsPop2, zsJn, zsTsw, zsLsw, zsGet, zsPut, zsAld, zsAst, zsLen, zsNewa, zsCal, zsRet, zsCst, zsAcp, zsOini, zsCln, zsLco, zsThr, zxBI, zxBL, zxSL, zxU, zset1, zset2, zclr, zcat, zmake_mk, zcomp, zH_i, zH_l, zH_r, zH_u, zH_n, List.set_cons_zero, List.set_cons_succ, List.getElem?_cons_zero, List.getElem?_cons_succ, List.length_cons, List.length_nil, List.take_succ_cons, List.take_zero, List.drop_succ_cons, List.drop_zero, List.reverse_cons, List.reverse_nil, List.nil_append, List.cons_append, List.map_cons, List.map_nil, List.sum_cons, List.sum_nil, Option.toList_some, Option.toList_none, Value.category, Nat.reduceAdd, Nat.reduceMul, Nat.reduceMod, Nat.reduceDiv, Nat.reduceSub, Nat.reduceLT, Nat.reduceLeDiff, Nat.reduceEqDiff, Nat.zero_le, Nat.le_refl, Int32.reduceToNatClampNeg, Int32.reduceLT, Int32.reduceLE, Int32.reduceAdd, Int32.reduceSub, Int32.reduceMul, ↓reduceIte, reduceCtorEq, Nat.add_zero, Nat.zero_add, true_or, or_true, false_or, or_false, true_and, and_true, false_and, and_false, not_true_eq_false, not_false_eq_true, if_true, if_false, true_implies, false_implies, implies_true, forall_const, false_imp_iff, true_imp_iff, va_rf, zlay, zent, List.replicate_zero, List.append_nil, List.replicate_succ, List.length_append, ne_eq, Option.some.injEq, Value.int.injEq, Value.long.injEq, Int32.reduceOfNat, Int32.reduceToInt, Int.reduceLT, Int.reduceLE, Int.reduceSub, Int.reduceToNat, Int.reduceAdd, Int.reduceNeg, Int32.reduceDiv, Int64.reduceAdd, Int64.reduceSub, lg_cmp_ge, lg_cmp_le, lg_cmp_gt, lg_cmp_lt, lg_cmp_eq, wlt_t, wlt_f, wle_t, wle_f, wmod, wI_lt, wI_le, wI_eq, wI_neg, wI_pos, wI_cl, wI_ge, wI_po, w64_lt, w64_le, w64_eq, w64_lt0, w64_le0, w64_eq0, w64_32, zc317, zc319, wI_add, wI_a1, wI_s1, wI_e0, wI_m8, wI_m128, wI_m64, wI_m190, not_true_eq_false, not_false_eq_true, sP_2532_1 hS, sP_2762_1 hS, sN_2799 hS, sN_6417 hS]
    exact hQ
  · rw [if_neg h0] at hQ
    have n0 : ¬ nI a = 0 := by rw [show (0 : Int32) = nI 0 from rfl, wI_eq (by omega) (by omega)]; exact h0
    simp (decide := true) (disch := omega) only [h1, h0, n0, zi70, zt70, zo70_0, zo70_1, zo70_2, zy_ldI, zy_ldL, zy_ldA, zy_stI, zy_stL, zy_stA, zy_cI, zy_cL, zy_nul, zy_inc, zy_bI, zy_bL, zy_sL, zy_un, zy_cmp, zy_dup, zy_dup2, zy_pop, zy_pop2, zy_jn, zy_jnn, zy_go, zy_fal, zy_tsw, zy_lsw, zy_get, zy_put, zy_ald, zy_ast, zy_len, zy_newa, zy_new, zy_cal, zy_ret, zy_tak, zy_cst, zy_acp, zy_oini, zy_cln, zy_thr, zy_bad, zy_lco, zy_if0, zy_ic0, zy_if1, zy_ic1, zy_if2, zy_ic2, zy_if3, zy_ic3, zy_if4, zy_ic4, zy_if5, zy_ic5, zK_go, zK_to, zK_end, zK_callH, zK_iteC, zK_none, zsLd, zsSt, zsInc, zsBI, zsBL, zsSL, zsUn, zsCmp, zsDup, zsDup2, zsPop, zsPop2, zsJn, zsTsw, zsLsw, zsGet, zsPut, zsAld, zsAst, zsLen, zsNewa, zsCal, zsRet, zsCst, zsAcp, zsOini, zsCln, zsLco, zsThr, zxBI, zxBL, zxSL, zxU, zset1, zset2, zclr, zcat, zmake_mk, zcomp, zH_i, zH_l, zH_r, zH_u, zH_n, List.set_cons_zero, List.set_cons_succ, List.getElem?_cons_zero, List.getElem?_cons_succ, List.length_cons, List.length_nil, List.take_succ_cons, List.take_zero, List.drop_succ_cons, List.drop_zero, List.reverse_cons, List.reverse_nil, List.nil_append, List.cons_append, List.map_cons, List.map_nil, List.sum_cons, List.sum_nil, Option.toList_some, Option.toList_none, Value.category, Nat.reduceAdd, Nat.reduceMul, Nat.reduceMod, Nat.reduceDiv, Nat.reduceSub, Nat.reduceLT, Nat.reduceLeDiff, Nat.reduceEqDiff, Nat.zero_le, Nat.le_refl, Int32.reduceToNatClampNeg, Int32.reduceLT, Int32.reduceLE, Int32.reduceAdd, Int32.reduceSub, Int32.reduceMul, ↓reduceIte, reduceCtorEq, Nat.add_zero, Nat.zero_add, true_or, or_true, false_or, or_false, true_and, and_true, false_and, and_false, not_true_eq_false, not_false_eq_true, if_true, if_false, true_implies, false_implies, implies_true, forall_const, false_imp_iff, true_imp_iff, va_rf, zlay, zent, List.replicate_zero, List.append_nil, List.replicate_succ, List.length_append, ne_eq, Option.some.injEq, Value.int.injEq, Value.long.injEq, Int32.reduceOfNat, Int32.reduceToInt, Int.reduceLT, Int.reduceLE, Int.reduceSub, Int.reduceToNat, Int.reduceAdd, Int.reduceNeg, Int32.reduceDiv, Int64.reduceAdd, Int64.reduceSub, lg_cmp_ge, lg_cmp_le, lg_cmp_gt, lg_cmp_lt, lg_cmp_eq, wlt_t, wlt_f, wle_t, wle_f, wmod, wI_lt, wI_le, wI_eq, wI_neg, wI_pos, wI_cl, wI_ge, wI_po, w64_lt, w64_le, w64_eq, w64_lt0, w64_le0, w64_eq0, w64_32, zc317, zc319, wI_add, wI_a1, wI_s1, wI_e0, wI_m8, wI_m128, wI_m64, wI_m190, not_true_eq_false, not_false_eq_true, sP_2532_1 hS, sP_2762_1 hS, sN_2799 hS, sN_6417 hS]
    exact hQ
set_option maxRecDepth 20000 in
theorem m71 {s : yM} (hS : zStat P N) (h : yOc I J s) (Q : Option Value → zS → Prop) : zC 71 [.ref 2532] (I, J, P, N, n, z) Q = Q (some (.int (zyn (yac s)))) (I, J, P, N, n, z) := by
  refine zC_eq (fun Q hQ => ?_) Q
  obtain ⟨tab, top, m, x, e, st, S, W, a⟩ := s
  obtain ⟨h1, h2, h3, h4, -, -, h5⟩ := h
  by_cases h0 : a = 0
  case neg =>
    rw [zyn_f (fun h => h0 h.1)] at hQ
    have n0 : ¬ nI a = 0 := by rw [show (0 : Int32) = nI 0 from rfl, wI_eq (by omega) (by omega)]; exact h0
    simp (decide := true) (disch := omega) only [h1, h0, n0, zi71, zt71, zo71_0, zo71_1, zo71_2, zy_ldI, zy_ldL, zy_ldA, zy_stI, zy_stL, zy_stA, zy_cI, zy_cL, zy_nul, zy_inc, zy_bI, zy_bL, zy_sL, zy_un, zy_cmp, zy_dup, zy_dup2, zy_pop, zy_pop2, zy_jn, zy_jnn, zy_go, zy_fal, zy_tsw, zy_lsw, zy_get, zy_put, zy_ald, zy_ast, zy_len, zy_newa, zy_new, zy_cal, zy_ret, zy_tak, zy_cst, zy_acp, zy_oini, zy_cln, zy_thr, zy_bad, zy_lco, zy_if0, zy_ic0, zy_if1, zy_ic1, zy_if2, zy_ic2, zy_if3, zy_ic3, zy_if4, zy_ic4, zy_if5, zy_ic5, zK_go, zK_to, zK_end, zK_callH, zK_iteC, zK_none, zsLd, zsSt, zsInc, zsBI, zsBL, zsSL, zsUn, zsCmp, zsDup, zsDup2, zsPop, zsPop2, zsJn, zsTsw, zsLsw, zsGet, zsPut, zsAld, zsAst, zsLen, zsNewa, zsCal, zsRet, zsCst, zsAcp, zsOini, zsCln, zsLco, zsThr, zxBI, zxBL, zxSL, zxU, zset1, zset2, zclr, zcat, zmake_mk, zcomp, zH_i, zH_l, zH_r, zH_u, zH_n, List.set_cons_zero, List.set_cons_succ, List.getElem?_cons_zero, List.getElem?_cons_succ, List.length_cons, List.length_nil, List.take_succ_cons, List.take_zero, List.drop_succ_cons, List.drop_zero, List.reverse_cons, List.reverse_nil, List.nil_append, List.cons_append, List.map_cons, List.map_nil, List.sum_cons, List.sum_nil, Option.toList_some, Option.toList_none, Value.category, Nat.reduceAdd, Nat.reduceMul, Nat.reduceMod, Nat.reduceDiv, Nat.reduceSub, Nat.reduceLT, Nat.reduceLeDiff, Nat.reduceEqDiff, Nat.zero_le, Nat.le_refl, Int32.reduceToNatClampNeg, Int32.reduceLT, Int32.reduceLE, Int32.reduceAdd, Int32.reduceSub, Int32.reduceMul, ↓reduceIte, reduceCtorEq, Nat.add_zero, Nat.zero_add, true_or, or_true, false_or, or_false, true_and, and_true, false_and, and_false, not_true_eq_false, not_false_eq_true, if_true, if_false, true_implies, false_implies, implies_true, forall_const, false_imp_iff, true_imp_iff, va_rf, zlay, zent, List.replicate_zero, List.append_nil, List.replicate_succ, List.length_append, ne_eq, Option.some.injEq, Value.int.injEq, Value.long.injEq, Int32.reduceOfNat, Int32.reduceToInt, Int.reduceLT, Int.reduceLE, Int.reduceSub, Int.reduceToNat, Int.reduceAdd, Int.reduceNeg, Int32.reduceDiv, Int64.reduceAdd, Int64.reduceSub, lg_cmp_ge, lg_cmp_le, lg_cmp_gt, lg_cmp_lt, lg_cmp_eq, wlt_t, wlt_f, wle_t, wle_f, wmod, wI_lt, wI_le, wI_eq, wI_neg, wI_pos, wI_cl, wI_ge, wI_po, w64_lt, w64_le, w64_eq, w64_lt0, w64_le0, w64_eq0, w64_32, zc317, zc319, wI_add, wI_a1, wI_s1, wI_e0, wI_m8, wI_m128, wI_m64, wI_m190, not_true_eq_false, not_false_eq_true, sP_2532_1 hS, sP_2762_1 hS, sP_2762_2 hS, sN_2799 hS, sN_2833 hS, sN_6417 hS]
    exact hQ
  case pos =>
  obtain ⟨x1, x2, x3, x4, x5⟩ := h5 h0
  rw [h0] at h1
  have h1 : I 2532 15 = 0 := h1
  have c2 : (nI (tab x).1 = 2) = ((tab x).1 = 2) := wI_eqc (c := 2)
  by_cases k2 : (tab x).1 = 2
  case neg =>
    rw [zyn_f (fun h => k2 h.2.1)] at hQ
    simp (decide := true) (disch := omega) only [h1, x2, x3, c2, k2, zi71, zt71, zo71_0, zo71_1, zo71_2, zy_ldI, zy_ldL, zy_ldA, zy_stI, zy_stL, zy_stA, zy_cI, zy_cL, zy_nul, zy_inc, zy_bI, zy_bL, zy_sL, zy_un, zy_cmp, zy_dup, zy_dup2, zy_pop, zy_pop2, zy_jn, zy_jnn, zy_go, zy_fal, zy_tsw, zy_lsw, zy_get, zy_put, zy_ald, zy_ast, zy_len, zy_newa, zy_new, zy_cal, zy_ret, zy_tak, zy_cst, zy_acp, zy_oini, zy_cln, zy_thr, zy_bad, zy_lco, zy_if0, zy_ic0, zy_if1, zy_ic1, zy_if2, zy_ic2, zy_if3, zy_ic3, zy_if4, zy_ic4, zy_if5, zy_ic5, zK_go, zK_to, zK_end, zK_callH, zK_iteC, zK_none, zsLd, zsSt, zsInc, zsBI, zsBL, zsSL, zsUn, zsCmp, zsDup, zsDup2, zsPop, zsPop2, zsJn, zsTsw, zsLsw, zsGet, zsPut, zsAld, zsAst, zsLen, zsNewa, zsCal, zsRet, zsCst, zsAcp, zsOini, zsCln, zsLco, zsThr, zxBI, zxBL, zxSL, zxU, zset1, zset2, zclr, zcat, zmake_mk, zcomp, zH_i, zH_l, zH_r, zH_u, zH_n, List.set_cons_zero, List.set_cons_succ, List.getElem?_cons_zero, List.getElem?_cons_succ, List.length_cons, List.length_nil, List.take_succ_cons, List.take_zero, List.drop_succ_cons, List.drop_zero, List.reverse_cons, List.reverse_nil, List.nil_append, List.cons_append, List.map_cons, List.map_nil, List.sum_cons, List.sum_nil, Option.toList_some, Option.toList_none, Value.category, Nat.reduceAdd, Nat.reduceMul, Nat.reduceMod, Nat.reduceDiv, Nat.reduceSub, Nat.reduceLT, Nat.reduceLeDiff, Nat.reduceEqDiff, Nat.zero_le, Nat.le_refl, Int32.reduceToNatClampNeg, Int32.reduceLT, Int32.reduceLE, Int32.reduceAdd, Int32.reduceSub, Int32.reduceMul, ↓reduceIte, reduceCtorEq, Nat.add_zero, Nat.zero_add, true_or, or_true, false_or, or_false, true_and, and_true, false_and, and_false, not_true_eq_false, not_false_eq_true, if_true, if_false, true_implies, false_implies, implies_true, forall_const, false_imp_iff, true_imp_iff, va_rf, zlay, zent, List.replicate_zero, List.append_nil, List.replicate_succ, List.length_append, ne_eq, Option.some.injEq, Value.int.injEq, Value.long.injEq, Int32.reduceOfNat, Int32.reduceToInt, Int.reduceLT, Int.reduceLE, Int.reduceSub, Int.reduceToNat, Int.reduceAdd, Int.reduceNeg, Int32.reduceDiv, Int64.reduceAdd, Int64.reduceSub, lg_cmp_ge, lg_cmp_le, lg_cmp_gt, lg_cmp_lt, lg_cmp_eq, wlt_t, wlt_f, wle_t, wle_f, wmod, wI_lt, wI_le, wI_eq, wI_neg, wI_pos, wI_cl, wI_ge, wI_po, w64_lt, w64_le, w64_eq, w64_lt0, w64_le0, w64_eq0, w64_32, zc317, zc319, wI_add, wI_a1, wI_s1, wI_e0, wI_m8, wI_m128, wI_m64, wI_m190, not_true_eq_false, not_false_eq_true, sP_2532_1 hS, sP_2762_1 hS, sP_2762_2 hS, sN_2799 hS, sN_2833 hS, sN_6417 hS]
    exact hQ
  case pos =>
  have x3 : I 2799 x = 2 := by rw [x3, k2]; rfl
  have y := x5 k2
  by_cases h1' : (tab x).2.1 = 1
  · rw [zyn_t ⟨h0, k2, h1'⟩] at hQ
    have t1 : ((tab x).2.1 = 1) = True := eq_true h1'
    simp (decide := true) (disch := omega) only [h1, x2, x3, y, t1, zi71, zt71, zo71_0, zo71_1, zo71_2, zy_ldI, zy_ldL, zy_ldA, zy_stI, zy_stL, zy_stA, zy_cI, zy_cL, zy_nul, zy_inc, zy_bI, zy_bL, zy_sL, zy_un, zy_cmp, zy_dup, zy_dup2, zy_pop, zy_pop2, zy_jn, zy_jnn, zy_go, zy_fal, zy_tsw, zy_lsw, zy_get, zy_put, zy_ald, zy_ast, zy_len, zy_newa, zy_new, zy_cal, zy_ret, zy_tak, zy_cst, zy_acp, zy_oini, zy_cln, zy_thr, zy_bad, zy_lco, zy_if0, zy_ic0, zy_if1, zy_ic1, zy_if2, zy_ic2, zy_if3, zy_ic3, zy_if4, zy_ic4, zy_if5, zy_ic5, zK_go, zK_to, zK_end, zK_callH, zK_iteC, zK_none, zsLd, zsSt, zsInc, zsBI, zsBL, zsSL, zsUn, zsCmp, zsDup, zsDup2, zsPop, zsPop2, zsJn, zsTsw, zsLsw, zsGet, zsPut, zsAld, zsAst, zsLen, zsNewa, zsCal, zsRet, zsCst, zsAcp, zsOini, zsCln, zsLco, zsThr, zxBI, zxBL, zxSL, zxU, zset1, zset2, zclr, zcat, zmake_mk, zcomp, zH_i, zH_l, zH_r, zH_u, zH_n, List.set_cons_zero, List.set_cons_succ, List.getElem?_cons_zero, List.getElem?_cons_succ, List.length_cons, List.length_nil, List.take_succ_cons, List.take_zero, List.drop_succ_cons, List.drop_zero, List.reverse_cons, List.reverse_nil, List.nil_append, List.cons_append, List.map_cons, List.map_nil, List.sum_cons, List.sum_nil, Option.toList_some, Option.toList_none, Value.category, Nat.reduceAdd, Nat.reduceMul, Nat.reduceMod, Nat.reduceDiv, Nat.reduceSub, Nat.reduceLT, Nat.reduceLeDiff, Nat.reduceEqDiff, Nat.zero_le, Nat.le_refl, Int32.reduceToNatClampNeg, Int32.reduceLT, Int32.reduceLE, Int32.reduceAdd, Int32.reduceSub, Int32.reduceMul, ↓reduceIte, reduceCtorEq, Nat.add_zero, Nat.zero_add, true_or, or_true, false_or, or_false, true_and, and_true, false_and, and_false, not_true_eq_false, not_false_eq_true, if_true, if_false, true_implies, false_implies, implies_true, forall_const, false_imp_iff, true_imp_iff, va_rf, zlay, zent, List.replicate_zero, List.append_nil, List.replicate_succ, List.length_append, ne_eq, Option.some.injEq, Value.int.injEq, Value.long.injEq, Int32.reduceOfNat, Int32.reduceToInt, Int.reduceLT, Int.reduceLE, Int.reduceSub, Int.reduceToNat, Int.reduceAdd, Int.reduceNeg, Int32.reduceDiv, Int64.reduceAdd, Int64.reduceSub, lg_cmp_ge, lg_cmp_le, lg_cmp_gt, lg_cmp_lt, lg_cmp_eq, wlt_t, wlt_f, wle_t, wle_f, wmod, wI_lt, wI_le, wI_eq, wI_neg, wI_pos, wI_cl, wI_ge, wI_po, w64_lt, w64_le, w64_eq, w64_lt0, w64_le0, w64_eq0, w64_32, zc317, zc319, wI_add, wI_a1, wI_s1, wI_e0, wI_m8, wI_m128, wI_m64, wI_m190, not_true_eq_false, not_false_eq_true, sP_2532_1 hS, sP_2762_1 hS, sP_2762_2 hS, sN_2799 hS, sN_2833 hS, sN_6417 hS]
    exact hQ
  · rw [zyn_f (fun h => h1' h.2.2)] at hQ
    simp (decide := true) (disch := omega) only [h1, x2, x3, y, h1', zi71, zt71, zo71_0, zo71_1, zo71_2, zy_ldI, zy_ldL, zy_ldA, zy_stI, zy_stL, zy_stA, zy_cI, zy_cL, zy_nul, zy_inc, zy_bI, zy_bL, zy_sL, zy_un, zy_cmp, zy_dup, zy_dup2, zy_pop, zy_pop2, zy_jn, zy_jnn, zy_go, zy_fal, zy_tsw, zy_lsw, zy_get, zy_put, zy_ald, zy_ast, zy_len, zy_newa, zy_new, zy_cal, zy_ret, zy_tak, zy_cst, zy_acp, zy_oini, zy_cln, zy_thr, zy_bad, zy_lco, zy_if0, zy_ic0, zy_if1, zy_ic1, zy_if2, zy_ic2, zy_if3, zy_ic3, zy_if4, zy_ic4, zy_if5, zy_ic5, zK_go, zK_to, zK_end, zK_callH, zK_iteC, zK_none, zsLd, zsSt, zsInc, zsBI, zsBL, zsSL, zsUn, zsCmp, zsDup, zsDup2, zsPop, zsPop2, zsJn, zsTsw, zsLsw, zsGet, zsPut, zsAld, zsAst, zsLen, zsNewa, zsCal, zsRet, zsCst, zsAcp, zsOini, zsCln, zsLco, zsThr, zxBI, zxBL, zxSL, zxU, zset1, zset2, zclr, zcat, zmake_mk, zcomp, zH_i, zH_l, zH_r, zH_u, zH_n, List.set_cons_zero, List.set_cons_succ, List.getElem?_cons_zero, List.getElem?_cons_succ, List.length_cons, List.length_nil, List.take_succ_cons, List.take_zero, List.drop_succ_cons, List.drop_zero, List.reverse_cons, List.reverse_nil, List.nil_append, List.cons_append, List.map_cons, List.map_nil, List.sum_cons, List.sum_nil, Option.toList_some, Option.toList_none, Value.category, Nat.reduceAdd, Nat.reduceMul, Nat.reduceMod, Nat.reduceDiv, Nat.reduceSub, Nat.reduceLT, Nat.reduceLeDiff, Nat.reduceEqDiff, Nat.zero_le, Nat.le_refl, Int32.reduceToNatClampNeg, Int32.reduceLT, Int32.reduceLE, Int32.reduceAdd, Int32.reduceSub, Int32.reduceMul, ↓reduceIte, reduceCtorEq, Nat.add_zero, Nat.zero_add, true_or, or_true, false_or, or_false, true_and, and_true, false_and, and_false, not_true_eq_false, not_false_eq_true, if_true, if_false, true_implies, false_implies, implies_true, forall_const, false_imp_iff, true_imp_iff, va_rf, zlay, zent, List.replicate_zero, List.append_nil, List.replicate_succ, List.length_append, ne_eq, Option.some.injEq, Value.int.injEq, Value.long.injEq, Int32.reduceOfNat, Int32.reduceToInt, Int.reduceLT, Int.reduceLE, Int.reduceSub, Int.reduceToNat, Int.reduceAdd, Int.reduceNeg, Int32.reduceDiv, Int64.reduceAdd, Int64.reduceSub, lg_cmp_ge, lg_cmp_le, lg_cmp_gt, lg_cmp_lt, lg_cmp_eq, wlt_t, wlt_f, wle_t, wle_f, wmod, wI_lt, wI_le, wI_eq, wI_neg, wI_pos, wI_cl, wI_ge, wI_po, w64_lt, w64_le, w64_eq, w64_lt0, w64_le0, w64_eq0, w64_32, zc317, zc319, wI_add, wI_a1, wI_s1, wI_e0, wI_m8, wI_m128, wI_m64, wI_m190, not_true_eq_false, not_false_eq_true, sP_2532_1 hS, sP_2762_1 hS, sP_2762_2 hS, sN_2799 hS, sN_2833 hS, sN_6417 hS]
    exact hQ
end
