-- needs: 01 02.names 03 04 05 18 19 20 22 23 24 25 30 31 32 33 35 36 37 40 42 43 44 45 46 47 60 61 62 63 64 65 66 67 68 69 79f 79g 79h 79i 79j 79k 79l 79m 79n 79o 79p 79q 79r 79s 79t 79u 79v 79w 79x 79zd 79zl
/-! tables of the class: one more amount -/
theorem zPl_c {po po' : Nat → Int32} {nm nm' : Nat → Int64} {p : Int32} {x : Int64} {w : Nat} (h : ∀ i, i < w → po' i = po i ∧ nm' i = nm i) : ∀ r i, i + r ≤ w → zPl po' nm' p x r i = zPl po nm p x r i := by
  intro r
  induction r with
  | zero => intro i _; rfl
  | succ r ih =>
    intro i hi
    unfold zPl
    rw [ih (i + 1) (by omega), (h i (by omega)).1, (h i (by omega)).2]
theorem zAm_cg {po po' : Nat → Int32} {nm nm' am am' : Nat → Int64} {w : Nat} (h : ∀ i, i < w → po' i = po i ∧ nm' i = nm i) (h2 : ∀ i, i < w → am' i = am i) {p : Int32} {x : Int64} : zAm po' nm' am' w p x = zAm po nm am w p x := by
  unfold zAm
  rw [zPl_c h w 0 (by omega)]
  generalize zPl po nm p x w 0 = k
  by_cases hk : k < w
  · rw [(h k hk).1, (h k hk).2, h2 k hk]
  · rw [if_neg (fun x => hk x.1), if_neg (fun x => hk x.1)]
theorem zSrt_c {po po' : Nat → Int32} {nm nm' : Nat → Int64} {w : Nat} (h : ∀ i, i < w → po' i = po i ∧ nm' i = nm i) (hs : zSrt po nm w) : zSrt po' nm' w := fun i j hi hj => by
  rw [(h i (by omega)).1, (h i (by omega)).2, (h j hj).1, (h j hj).2]
  exact hs i j hi hj
theorem zHsk_c {po po' : Nat → Int32} {nm nm' : Nat → Int64} {w : Nat} (h : ∀ i, i < w → po' i = po i ∧ nm' i = nm i) {p : Int32} {x : Int64} : zHsk po' nm' w p x ↔ zHsk po nm w p x := by
  constructor
  · rintro ⟨i, i1, i2, i3⟩
    exact ⟨i, i1, (h i i1).1.symm.trans i2, (h i i1).2.symm.trans i3⟩
  · rintro ⟨i, i1, i2, i3⟩
    exact ⟨i, i1, (h i i1).1.trans i2, (h i i1).2.trans i3⟩
/-- two tables in order that hold the same kinds are the same -/
theorem zSrt_u1 {po po' : Nat → Int32} {nm nm' : Nat → Int64} {w w' : Nat} (hs : zSrt po nm w) (hs' : zSrt po' nm' w') (hk : ∀ p x, zHsk po nm w p x → zHsk po' nm' w' p x) (hk' : ∀ p x, zHsk po' nm' w' p x → zHsk po nm w p x) : ∀ i, i < w → i < w' ∧ po' i = po i ∧ nm' i = nm i := by
  intro i
  induction i using Nat.strongRecOn with
  | _ i ih =>
    intro hi
    obtain ⟨j, j1, j2, j3⟩ := hk _ _ ⟨i, hi, rfl, rfl⟩
    have hij : i ≤ j := Nat.le_of_not_lt fun hlt => by
      obtain ⟨-, a2, a3⟩ := ih j hlt (by omega)
      have := hs j i hlt hi
      rw [← j2, ← j3, a2, a3] at this
      exact zAhd_irr this
    have hiw : i < w' := by omega
    refine ⟨hiw, ?_⟩
    obtain ⟨k, k1, k2, k3⟩ := hk' _ _ ⟨i, hiw, rfl, rfl⟩
    have hik : i ≤ k := Nat.le_of_not_lt fun hlt => by
      obtain ⟨-, a2, a3⟩ := ih k hlt k1
      have := hs' k i hlt hiw
      rw [← k2, ← k3, a2, a3] at this
      exact zAhd_irr this
    by_cases h1 : i = j
    · rw [h1]; rw [← h1, ← j2, ← j3, ← h1]; exact ⟨rfl, rfl⟩
    · have b1 := hs' i j (by omega) j1
      rw [j2, j3] at b1
      by_cases h2 : i = k
      · rw [← k2, ← k3, ← h2]; exact ⟨rfl, rfl⟩
      · have b2 := hs i k (by omega) k1
        rw [k2, k3] at b2
        exact absurd (zAhd_tr b1 b2) zAhd_irr
theorem zSrt_u {po po' : Nat → Int32} {nm nm' : Nat → Int64} {w w' : Nat} (hs : zSrt po nm w) (hs' : zSrt po' nm' w') (hk : ∀ p x, zHsk po nm w p x ↔ zHsk po' nm' w' p x) : w = w' ∧ ∀ i, i < w → po' i = po i ∧ nm' i = nm i := by
  have h1 := zSrt_u1 hs hs' (fun p x => (hk p x).1) (fun p x => (hk p x).2)
  have h2 := zSrt_u1 hs' hs (fun p x => (hk p x).2) (fun p x => (hk p x).1)
  refine ⟨?_, fun i hi => (h1 i hi).2⟩
  rcases Nat.lt_trichotomy w w' with h | h | h
  · have := (h2 w h).1; omega
  · exact h
  · have := (h1 w' h).1; omega
/-- one more amount of a kind -/
def zUpV (V : Int32 → Int64 → Int) (p : Int32) (x : Int64) (a : Int) : Int32 → Int64 → Int := fun q y => V q y + if p = q ∧ x = y then a else 0
/-- a table of the class that holds V q y of each kind -/
def zTb (I : zI) (J : zJ) (P : zP) (N : Nat → Nat) (c rp rn ra w : Nat) (V : Int32 → Int64 → Int) : Prop := zCo I P N c rp rn ra w ∧ zSrt (I rp) (J rn) w ∧ ∀ q y, ((zAm (I rp) (J rn) (J ra) w q y).toInt = V q y ∧ 0 ≤ V q y ∧ V q y ≤ 4611686018427387904) ∧ (zHsk (I rp) (J rn) w q y ↔ 0 < V q y)
theorem zsh_at {α : Type} {F : Nat → Nat → α} {r k w i : Nat} {v : α} (hk : k ≤ w) (hi : i < w + 1) : zu (zcp F r k r (k + 1) (w - k)) r k v r i = zIns (F r) k v i := by
  unfold zu zcp zIns
  rcases Nat.lt_trichotomy i k with h | h | h
  · rw [if_neg (fun x => by omega), if_neg (fun x => by omega), if_pos h]
  · rw [if_pos ⟨rfl, h⟩, if_neg (by omega), if_pos h]
  · rw [if_neg (fun x => by omega), if_pos ⟨rfl, by omega, by omega⟩, if_neg (by omega), if_neg (by omega)]
    congr 1
    omega
section
variable {I : zI} {J : zJ} {P : zP} {N : Nat → Nat} {n z : Nat} {p : Int32} {x a : Int64} {c rp rn ra w : Nat} {V : Int32 → Int64 → Int} {Q : Option Value → zS → Prop}
theorem zUpV_ok (h : ∀ q y, 0 ≤ V q y ∧ V q y ≤ 4611686018427387904) {b : Int} (h1 : 1 ≤ b) (h2 : V p x + b ≤ 4611686018427387904) : ∀ q y, 0 ≤ zUpV V p x b q y ∧ zUpV V p x b q y ≤ 4611686018427387904 := fun q y => by
  unfold zUpV
  have := h q y
  by_cases e : p = q ∧ x = y
  · rw [if_pos e, ← e.1, ← e.2]; have := h p x; omega
  · rw [if_neg e]; omega
theorem zAdd_i {u v : Int64} (h1 : 0 ≤ u.toInt) (h2 : 0 ≤ v.toInt) (h3 : u.toInt + v.toInt ≤ 4611686018427387904) : (u + v).toInt = u.toInt + v.toInt := by
  rw [Int64.toInt_add]
  apply Int.bmod_eq_of_le <;> omega
set_option maxRecDepth 20000 in
set_option maxHeartbeats 4000000 in
theorem e24 (hT : zTb I J P N c rp rn ra w V) (hw1 : w < N rp) (hw2 : w < N rn) (hw3 : w < N ra) (hb : w < 65 ∧ N ra < 2 ^ 31) (hd : c ≠ rp) (hd2 : rn ≠ ra) (a1 : 1 ≤ a.toInt) (a2 : a.toInt ≤ 4611686018427387904)
    (hQ0 : 4611686018427387904 < V p x + a.toInt → Q (some (.int 0)) (I, J, P, N, n, z))
    (hQ1 : V p x + a.toInt ≤ 4611686018427387904 → ∀ I' J' w', zCxf I J I' J' c rp rn ra → w' ≤ w + 1 → zTb I' J' P N c rp rn ra w' (zUpV V p x a.toInt) → Q (some (.int 1)) (I', J', P, N, n, z)) : zC 24 [.ref c, .int p, .long x, .long a] (I, J, P, N, n, z) Q := by
  obtain ⟨hC, hs, hV⟩ := hT
  have hp := zPl_le (cp := I rp) (cx := J rn) (p := p) (x := x) w 0
  have q1 := m20 (J := J) (n := n) (z := z) (p := p) (x := x) hC
  have q2 := m22 (J := J) (n := n) (z := z) (p := p) (x := x) (i := zPl (I rp) (J rn) p x w 0) (by omega) hC
  have hph := zPl_h (p := p) (x := x) hs
  have hins := zIns_s (p := p) (x := x) hs
  have hinm := fun (h : ¬ zHsk (I rp) (J rn) w p x) (q : Int32) (y : Int64) => zIns_m (am := J ra) (q := q) (y := y) hs h (a := a)
  have hupm := fun (h : zHsk (I rp) (J rn) w p x) (q : Int32) (y : Int64) => zUpd_m (am := J ra) (q := q) (y := y) hs h (a := zAm (I rp) (J rn) (J ra) w p x + a)
  have hC0 := hC
  obtain ⟨p1, p2, p3, i1, n1, n2, n3, r1, r2, r3, r4, hw65⟩ := hC
  have e10 : ¬ (1 : Int32) = 0 := by decide
  have hVb := fun q y => (hV q y).1.2
  by_cases h : zHsk (I rp) (J rn) w p x
  · have hk := hph.2 h
    have q3 : zB (zPl (I rp) (J rn) p x w 0 < w ∧ I rp (zPl (I rp) (J rn) p x w 0) = p ∧ J rn (zPl (I rp) (J rn) p x w 0) = x) = 1 := zB_t hk
    simp only [q3] at q2
    have eam : zAm (I rp) (J rn) (J ra) w p x = J ra (zPl (I rp) (J rn) p x w 0) := if_pos hk
    have hupm := hupm h
    have hV1 := (hV p x).1
    rw [eam] at hV1 hupm
    generalize zPl (I rp) (J rn) p x w 0 = k at *
    have hkw := hk.1
    have cnd : (J ra k ≤ 4611686018427387904 - a) = (V p x + a.toInt ≤ 4611686018427387904) := by
      rw [Int64.le_iff_toInt_le, Int64.toInt_sub]
      have em : (4611686018427387904 : Int64).toInt = 4611686018427387904 := rfl
      rw [em, Int.bmod_eq_of_le (by omega) (by omega), hV1.1]
      exact propext (by omega)
    by_cases hfit : V p x + a.toInt ≤ 4611686018427387904
    · have t1 : (J ra k ≤ 4611686018427387904 - a) = True := by rw [cnd]; exact eq_true hfit
      have q := hQ1 hfit I (zu J ra k (J ra k + a)) w ⟨fun _ _ _ => rfl, fun _ _ => rfl, fun q _ h2 => zuR_ne h2⟩ (by omega) ⟨hC0, by rw [zuR_ne hd2]; exact hs, fun q y => by
        have ea : zAm (I rp) (zu J ra k (J ra k + a) rn) (zu J ra k (J ra k + a) ra) w q y = if q = p ∧ y = x then J ra k + a else zAm (I rp) (J rn) (J ra) w q y := by
          rw [zuR_ne hd2, ← hupm q y]
          exact zAm_cg (fun i _ => ⟨rfl, rfl⟩) (fun i _ => by
            unfold zu
            by_cases hik : i = k
            · rw [if_pos ⟨rfl, hik⟩, if_pos hik]
            · rw [if_neg (fun x => hik x.2), if_neg hik])
        refine ⟨⟨?_, zUpV_ok hVb a1 hfit q y⟩, ?_⟩
        · rw [ea]
          unfold zUpV
          by_cases e : q = p ∧ y = x
          · rw [if_pos e, if_pos ⟨e.1.symm, e.2.symm⟩, e.1, e.2, zAdd_i (by omega) (by omega) (by omega), hV1.1]
          · rw [if_neg e, if_neg (fun x => e ⟨x.1.symm, x.2.symm⟩), (hV q y).1.1]; omega
        · rw [zuR_ne hd2, (hV q y).2]
          unfold zUpV
          by_cases e : p = q ∧ x = y
          · rw [if_pos e, ← e.1, ← e.2]
            have := (hV p x).2.1 h
            omega
          · rw [if_neg e]; omega⟩
      simp (decide := true) (disch := omega) only [r1, r2, r3, r4, i1, p1, p2, p3, q1, q2, e10, t1, zi24, zt24, zo24_0, zo24_1, zo24_2, zo24_3, zy_ldI, zy_ldL, zy_ldA, zy_stI, zy_stL, zy_stA, zy_cI, zy_cL, zy_nul, zy_inc, zy_bI, zy_bL, zy_sL, zy_un, zy_cmp, zy_dup, zy_dup2, zy_pop, zy_pop2, zy_jn, zy_jnn, zy_go, zy_fal, zy_tsw, zy_lsw, zy_get, zy_put, zy_ald, zy_ast, zy_len, zy_newa, zy_new, zy_cal, zy_ret, zy_tak, zy_cst, zy_acp, zy_oini, zy_cln, zy_thr, zy_bad, zy_lco, zy_if0, zy_ic0, zy_if1, zy_ic1, zy_if2, zy_ic2, zy_if3, zy_ic3, zy_if4, zy_ic4, zy_if5, zy_ic5, zK_go, zK_to, zK_end, zK_callH, zK_iteC, zK_none, zsLd, zsSt, zsInc, zsBI, zsBL, zsSL, zsUn, zsCmp, zsDup, zsDup2, zsPop, zsPop2, zsJn, zsTsw, zsLsw, zsGet, zsPut, zsAld, zsAst, zsLen, zsNewa, zsCal, zsRet, zsCst, zsAcp, zsOini, zsCln, zsLco, zsThr, zxBI, zxBL, zxSL, zxU, zset1, zset2, zclr, zcat, zmake_mk, zcomp, zH_i, zH_l, zH_r, zH_u, zH_n, List.set_cons_zero, List.set_cons_succ, List.getElem?_cons_zero, List.getElem?_cons_succ, List.length_cons, List.length_nil, List.take_succ_cons, List.take_zero, List.drop_succ_cons, List.drop_zero, List.reverse_cons, List.reverse_nil, List.nil_append, List.cons_append, List.map_cons, List.map_nil, List.sum_cons, List.sum_nil, Option.toList_some, Option.toList_none, Value.category, Nat.reduceAdd, Nat.reduceMul, Nat.reduceMod, Nat.reduceDiv, Nat.reduceSub, Nat.reduceLT, Nat.reduceLeDiff, Nat.reduceEqDiff, Nat.zero_le, Nat.le_refl, Int32.reduceToNatClampNeg, Int32.reduceLT, Int32.reduceLE, Int32.reduceAdd, Int32.reduceSub, Int32.reduceMul, ↓reduceIte, reduceCtorEq, Nat.add_zero, Nat.zero_add, true_or, or_true, false_or, or_false, true_and, and_true, false_and, and_false, not_true_eq_false, not_false_eq_true, if_true, if_false, true_implies, false_implies, implies_true, forall_const, false_imp_iff, true_imp_iff, va_rf, zlay, zent, List.replicate_zero, List.append_nil, List.replicate_succ, List.length_append, ne_eq, Option.some.injEq, Value.int.injEq, Value.long.injEq, Int32.reduceOfNat, Int32.reduceToInt, Int.reduceLT, Int.reduceLE, Int.reduceSub, Int.reduceToNat, Int.reduceAdd, Int.reduceNeg, Int32.reduceDiv, Int64.reduceAdd, Int64.reduceSub, lg_cmp_ge, lg_cmp_le, lg_cmp_gt, lg_cmp_lt, lg_cmp_eq, wlt_t, wlt_f, wle_t, wle_f, wmod, wI_lt, wI_le, wI_eq, wI_neg, wI_pos, wI_cl, wI_ge, wI_po, w64_lt, w64_le, w64_eq, w64_lt0, w64_le0, w64_eq0, w64_32, zc317, zc319, wI_add, wI_a1, wI_s1, wI_e0, wI_m8, wI_m128, wI_m64, wI_m190, not_true_eq_false, not_false_eq_true]
      exact q
    · have t1 : ¬ J ra k ≤ 4611686018427387904 - a := by rw [cnd]; exact hfit
      have q := hQ0 (by omega)
      simp (decide := true) (disch := omega) only [r1, r2, r3, r4, i1, p1, p2, p3, q1, q2, e10, t1, zi24, zt24, zo24_0, zo24_1, zo24_2, zo24_3, zy_ldI, zy_ldL, zy_ldA, zy_stI, zy_stL, zy_stA, zy_cI, zy_cL, zy_nul, zy_inc, zy_bI, zy_bL, zy_sL, zy_un, zy_cmp, zy_dup, zy_dup2, zy_pop, zy_pop2, zy_jn, zy_jnn, zy_go, zy_fal, zy_tsw, zy_lsw, zy_get, zy_put, zy_ald, zy_ast, zy_len, zy_newa, zy_new, zy_cal, zy_ret, zy_tak, zy_cst, zy_acp, zy_oini, zy_cln, zy_thr, zy_bad, zy_lco, zy_if0, zy_ic0, zy_if1, zy_ic1, zy_if2, zy_ic2, zy_if3, zy_ic3, zy_if4, zy_ic4, zy_if5, zy_ic5, zK_go, zK_to, zK_end, zK_callH, zK_iteC, zK_none, zsLd, zsSt, zsInc, zsBI, zsBL, zsSL, zsUn, zsCmp, zsDup, zsDup2, zsPop, zsPop2, zsJn, zsTsw, zsLsw, zsGet, zsPut, zsAld, zsAst, zsLen, zsNewa, zsCal, zsRet, zsCst, zsAcp, zsOini, zsCln, zsLco, zsThr, zxBI, zxBL, zxSL, zxU, zset1, zset2, zclr, zcat, zmake_mk, zcomp, zH_i, zH_l, zH_r, zH_u, zH_n, List.set_cons_zero, List.set_cons_succ, List.getElem?_cons_zero, List.getElem?_cons_succ, List.length_cons, List.length_nil, List.take_succ_cons, List.take_zero, List.drop_succ_cons, List.drop_zero, List.reverse_cons, List.reverse_nil, List.nil_append, List.cons_append, List.map_cons, List.map_nil, List.sum_cons, List.sum_nil, Option.toList_some, Option.toList_none, Value.category, Nat.reduceAdd, Nat.reduceMul, Nat.reduceMod, Nat.reduceDiv, Nat.reduceSub, Nat.reduceLT, Nat.reduceLeDiff, Nat.reduceEqDiff, Nat.zero_le, Nat.le_refl, Int32.reduceToNatClampNeg, Int32.reduceLT, Int32.reduceLE, Int32.reduceAdd, Int32.reduceSub, Int32.reduceMul, ↓reduceIte, reduceCtorEq, Nat.add_zero, Nat.zero_add, true_or, or_true, false_or, or_false, true_and, and_true, false_and, and_false, not_true_eq_false, not_false_eq_true, if_true, if_false, true_implies, false_implies, implies_true, forall_const, false_imp_iff, true_imp_iff, va_rf, zlay, zent, List.replicate_zero, List.append_nil, List.replicate_succ, List.length_append, ne_eq, Option.some.injEq, Value.int.injEq, Value.long.injEq, Int32.reduceOfNat, Int32.reduceToInt, Int.reduceLT, Int.reduceLE, Int.reduceSub, Int.reduceToNat, Int.reduceAdd, Int.reduceNeg, Int32.reduceDiv, Int64.reduceAdd, Int64.reduceSub, lg_cmp_ge, lg_cmp_le, lg_cmp_gt, lg_cmp_lt, lg_cmp_eq, wlt_t, wlt_f, wle_t, wle_f, wmod, wI_lt, wI_le, wI_eq, wI_neg, wI_pos, wI_cl, wI_ge, wI_po, w64_lt, w64_le, w64_eq, w64_lt0, w64_le0, w64_eq0, w64_32, zc317, zc319, wI_add, wI_a1, wI_s1, wI_e0, wI_m8, wI_m128, wI_m64, wI_m190, not_true_eq_false, not_false_eq_true]
      exact q
  · have hk : ¬ (zPl (I rp) (J rn) p x w 0 < w ∧ I rp (zPl (I rp) (J rn) p x w 0) = p ∧ J rn (zPl (I rp) (J rn) p x w 0) = x) := fun h' => h (hph.1 h')
    have q3 : zB (zPl (I rp) (J rn) p x w 0 < w ∧ I rp (zPl (I rp) (J rn) p x w 0) = p ∧ J rn (zPl (I rp) (J rn) p x w 0) = x) = 0 := zB_f hk
    simp only [q3] at q2
    have hins := hins h
    have hinm := hinm h
    have hV0 : V p x = 0 := by
      have := hVb p x
      have := (hV p x).2
      by_cases h0 : 0 < V p x
      · exact absurd (this.2 h0) h
      · omega
    generalize zPl (I rp) (J rn) p x w 0 = k at *
    have hkw : k ≤ w := by omega
    have sb : nI w - nI k = nI (w - k) := wI_sub hkw
    have eI : ∀ i, i < w + 1 → zu (zu (zcp I rp k rp (k + 1) (w - k)) rp k p) c 3 (nI (w + 1)) rp i = zIns (I rp) k p i := fun i hi => by
      rw [zuR_ne (fun e => hd e.symm)]
      exact zsh_at hkw hi
    have eN : ∀ i, i < w + 1 → zu (zu (zcp (zcp J rn k rn (k + 1) (w - k)) ra k ra (k + 1) (w - k)) rn k x) ra k a rn i = zIns (J rn) k x i := fun i hi => by
      rw [zuR_ne hd2, ← zsh_at hkw hi]
      unfold zu
      by_cases hik : i = k
      · rw [if_pos ⟨rfl, hik⟩, if_pos ⟨rfl, hik⟩]
      · rw [if_neg (fun x => hik x.2), if_neg (fun x => hik x.2), zcp1_ne hd2]
    have eA : ∀ i, i < w + 1 → zu (zu (zcp (zcp J rn k rn (k + 1) (w - k)) ra k ra (k + 1) (w - k)) rn k x) ra k a ra i = zIns (J ra) k a i := fun i hi => by
      rw [← zsh_at hkw hi]
      have e2 : zcp J rn k rn (k + 1) (w - k) ra = J ra := zcp1_ne (Ne.symm hd2)
      show (if ra = ra ∧ i = k then a else zu (zcp (zcp J rn k rn (k + 1) (w - k)) ra k ra (k + 1) (w - k)) rn k x ra i) = if ra = ra ∧ i = k then a else zcp J ra k ra (k + 1) (w - k) ra i
      rw [zuR_ne (Ne.symm hd2)]
      show (if ra = ra ∧ i = k then a else if ra = ra ∧ k + 1 ≤ i ∧ i < k + 1 + (w - k) then zcp J rn k rn (k + 1) (w - k) ra (k + (i - (k + 1))) else zcp J rn k rn (k + 1) (w - k) ra i) = _
      rw [e2]
      rfl
    have q := hQ1 (by omega) (zu (zu (zcp I rp k rp (k + 1) (w - k)) rp k p) c 3 (nI (w + 1))) (zu (zu (zcp (zcp J rn k rn (k + 1) (w - k)) ra k ra (k + 1) (w - k)) rn k x) ra k a) (w + 1) ⟨fun q h1 h2 => by rw [zuR_ne h1, zuR_ne h2, zcp1_ne h2], fun j hj => by
        have : zu (zu (zcp I rp k rp (k + 1) (w - k)) rp k p) c 3 (nI (w + 1)) c j = zu (zcp I rp k rp (k + 1) (w - k)) rp k p c j := if_neg (fun x => hj x.2)
        rw [this, zuR_ne hd, zcp1_ne hd], fun q h1 h2 => by rw [zuR_ne h2, zuR_ne h1, zcp1_ne h2, zcp1_ne h1]⟩ (by omega)
      ⟨⟨p1, p2, p3, if_pos ⟨rfl, rfl⟩, by omega, by omega, by omega, r1, r2, r3, r4, by omega⟩, zSrt_c (fun i hi => ⟨eI i hi, eN i hi⟩) hins, fun q y => by
        have ea := zAm_cg (p := q) (x := y) (fun i hi => ⟨eI i hi, eN i hi⟩) eA
        rw [hinm q y] at ea
        refine ⟨⟨?_, zUpV_ok hVb a1 (by omega) q y⟩, ?_⟩
        · rw [ea]
          unfold zUpV
          by_cases e : q = p ∧ y = x
          · rw [if_pos e, if_pos ⟨e.1.symm, e.2.symm⟩, e.1, e.2, hV0]; omega
          · rw [if_neg e, if_neg (fun x => e ⟨x.1.symm, x.2.symm⟩), (hV q y).1.1]; omega
        · rw [zHsk_c (fun i hi => ⟨eI i hi, eN i hi⟩), zIns_h hkw, (hV q y).2]
          unfold zUpV
          by_cases e : p = q ∧ x = y
          · rw [if_pos e, ← e.1, ← e.2, hV0]
            exact ⟨fun _ => by omega, fun _ => Or.inr ⟨rfl, rfl⟩⟩
          · rw [if_neg e]
            exact ⟨fun h => h.elim (fun h => by omega) (fun h => absurd ⟨h.1.symm, h.2.symm⟩ e), fun h => Or.inl (by omega)⟩⟩
    have ng : ¬ N ra ≤ w := by omega
    simp (decide := true) (disch := omega) only [r1, r2, r3, r4, i1, p1, p2, p3, q1, q2, sb, ng, zuR_ne, zcp1_ne, hd, hd2, zi24, zt24, zo24_0, zo24_1, zo24_2, zo24_3, zy_ldI, zy_ldL, zy_ldA, zy_stI, zy_stL, zy_stA, zy_cI, zy_cL, zy_nul, zy_inc, zy_bI, zy_bL, zy_sL, zy_un, zy_cmp, zy_dup, zy_dup2, zy_pop, zy_pop2, zy_jn, zy_jnn, zy_go, zy_fal, zy_tsw, zy_lsw, zy_get, zy_put, zy_ald, zy_ast, zy_len, zy_newa, zy_new, zy_cal, zy_ret, zy_tak, zy_cst, zy_acp, zy_oini, zy_cln, zy_thr, zy_bad, zy_lco, zy_if0, zy_ic0, zy_if1, zy_ic1, zy_if2, zy_ic2, zy_if3, zy_ic3, zy_if4, zy_ic4, zy_if5, zy_ic5, zK_go, zK_to, zK_end, zK_callH, zK_iteC, zK_none, zsLd, zsSt, zsInc, zsBI, zsBL, zsSL, zsUn, zsCmp, zsDup, zsDup2, zsPop, zsPop2, zsJn, zsTsw, zsLsw, zsGet, zsPut, zsAld, zsAst, zsLen, zsNewa, zsCal, zsRet, zsCst, zsAcp, zsOini, zsCln, zsLco, zsThr, zxBI, zxBL, zxSL, zxU, zset1, zset2, zclr, zcat, zmake_mk, zcomp, zH_i, zH_l, zH_r, zH_u, zH_n, List.set_cons_zero, List.set_cons_succ, List.getElem?_cons_zero, List.getElem?_cons_succ, List.length_cons, List.length_nil, List.take_succ_cons, List.take_zero, List.drop_succ_cons, List.drop_zero, List.reverse_cons, List.reverse_nil, List.nil_append, List.cons_append, List.map_cons, List.map_nil, List.sum_cons, List.sum_nil, Option.toList_some, Option.toList_none, Value.category, Nat.reduceAdd, Nat.reduceMul, Nat.reduceMod, Nat.reduceDiv, Nat.reduceSub, Nat.reduceLT, Nat.reduceLeDiff, Nat.reduceEqDiff, Nat.zero_le, Nat.le_refl, Int32.reduceToNatClampNeg, Int32.reduceLT, Int32.reduceLE, Int32.reduceAdd, Int32.reduceSub, Int32.reduceMul, ↓reduceIte, reduceCtorEq, Nat.add_zero, Nat.zero_add, true_or, or_true, false_or, or_false, true_and, and_true, false_and, and_false, not_true_eq_false, not_false_eq_true, if_true, if_false, true_implies, false_implies, implies_true, forall_const, false_imp_iff, true_imp_iff, va_rf, zlay, zent, List.replicate_zero, List.append_nil, List.replicate_succ, List.length_append, ne_eq, Option.some.injEq, Value.int.injEq, Value.long.injEq, Int32.reduceOfNat, Int32.reduceToInt, Int.reduceLT, Int.reduceLE, Int.reduceSub, Int.reduceToNat, Int.reduceAdd, Int.reduceNeg, Int32.reduceDiv, Int64.reduceAdd, Int64.reduceSub, lg_cmp_ge, lg_cmp_le, lg_cmp_gt, lg_cmp_lt, lg_cmp_eq, wlt_t, wlt_f, wle_t, wle_f, wmod, wI_lt, wI_le, wI_eq, wI_neg, wI_pos, wI_cl, wI_ge, wI_po, w64_lt, w64_le, w64_eq, w64_lt0, w64_le0, w64_eq0, w64_32, zc317, zc319, wI_add, wI_a1, wI_s1, wI_e0, wI_m8, wI_m128, wI_m64, wI_m190, not_true_eq_false, not_false_eq_true]
    exact q
end
