-- needs: 01 02.names 03 04 05 18 19 20 22 23 24 25 30 31 32 33 35 36 37 40 42 43 44 45 46 47 60 61 62 63 64 65 66 67 68 69 79f 79g 79h 79i 79j 79k 79l 79m 79n 79o 79p 79q 79r 79s 79t 79u 79v 79w 79x 79y 79z. 79za 79zb 79zc 79zd 79ze 79zf 79zg 79zh 79zi 79zj 79zl 79zm 79zn 79zo 79zp 79zr
/-! the reference sums its inputs -/
section
variable {I I' : zI} {J J' : zJ} {P : zP} {N : Nat → Nat} {n z m K s e hx w k : Nat} {F C Z X H L ad ia ca : Nat → Nat} {g : Nat → Nat → Nat} {T : Nat → Int64} {p : Int32} {x : Int64} {Kk : Int32 → Int64 → Prop} {Vi Vo Vm : Int32 → Int64 → Int} {Q : Option Value → zS → Prop}
theorem zTrs_i (hT : zTrs I J w Kk Vi Vo Vm) (hk : k < w) (h1 : I 4144 k = p) (h2 : J 4177 k = x) {v : Int64} : zTrs I (zu J 4209 k v) w Kk (fun q y => if p = q ∧ x = y then v.toInt else Vi q y) Vo Vm := by
  obtain ⟨a, hs, hV⟩ := hT
  refine ⟨a, by rw [zuR_ne (by decide)]; exact hs, fun q y => ?_⟩
  rw [zuR_ne (F := J) (a' := 4177) (by decide), zuR_ne (F := J) (a' := 4241) (by decide), zuR_ne (F := J) (a' := 4273) (by decide), zu_r, zAm_st hs hk h1 h2 q y]
  refine ⟨(hV q y).1, ?_, (hV q y).2.2⟩
  by_cases h : p = q ∧ x = y
  · rw [if_pos h]; exact (if_pos h).symm
  · rw [if_neg h]; exact (hV q y).2.1.trans (if_neg h).symm
theorem zTrs_o (hT : zTrs I J w Kk Vi Vo Vm) (hk : k < w) (h1 : I 4144 k = p) (h2 : J 4177 k = x) {v : Int64} : zTrs I (zu J 4241 k v) w Kk Vi (fun q y => if p = q ∧ x = y then v.toInt else Vo q y) Vm := by
  obtain ⟨a, hs, hV⟩ := hT
  refine ⟨a, by rw [zuR_ne (by decide)]; exact hs, fun q y => ?_⟩
  rw [zuR_ne (F := J) (a' := 4177) (by decide), zuR_ne (F := J) (a' := 4209) (by decide), zuR_ne (F := J) (a' := 4273) (by decide), zu_r, zAm_st hs hk h1 h2 q y]
  refine ⟨(hV q y).1, (hV q y).2.1, ?_, (hV q y).2.2.2⟩
  by_cases h : p = q ∧ x = y
  · rw [if_pos h]; exact (if_pos h).symm
  · rw [if_neg h]; exact (hV q y).2.2.1.trans (if_neg h).symm
theorem zTrs_m (hT : zTrs I J w Kk Vi Vo Vm) (hk : k < w) (h1 : I 4144 k = p) (h2 : J 4177 k = x) {v : Int64} : zTrs I (zu J 4273 k v) w Kk Vi Vo (fun q y => if p = q ∧ x = y then v.toInt else Vm q y) := by
  obtain ⟨a, hs, hV⟩ := hT
  refine ⟨a, by rw [zuR_ne (by decide)]; exact hs, fun q y => ?_⟩
  rw [zuR_ne (F := J) (a' := 4177) (by decide), zuR_ne (F := J) (a' := 4209) (by decide), zuR_ne (F := J) (a' := 4241) (by decide), zu_r, zAm_st hs hk h1 h2 q y]
  refine ⟨(hV q y).1, (hV q y).2.1, (hV q y).2.2.1, ?_⟩
  by_cases h : p = q ∧ x = y
  · rw [if_pos h]; exact (if_pos h).symm
  · rw [if_neg h]; exact (hV q y).2.2.2.trans (if_neg h).symm
theorem zTrs_v (hT : zTrs I J w Kk Vi Vo Vm) (hk : k < w) : (J 4209 k).toInt = Vi (I 4144 k) (J 4177 k) ∧ (J 4241 k).toInt = Vo (I 4144 k) (J 4177 k) ∧ (J 4273 k).toInt = Vm (I 4144 k) (J 4177 k) := by
  obtain ⟨a, hs, hV⟩ := hT
  have := (hV (I 4144 k) (J 4177 k)).2
  rw [zAm_h hs hk rfl rfl, zAm_h hs hk rfl rfl, zAm_h hs hk rfl rfl] at this
  exact this
theorem zSmf_u {v : Int64} {c : Nat} (hc : c = 4209 ∨ c = 4241 ∨ c = 4273) : zSmf I J I (zu J c k v) := ⟨fun _ _ _ => rfl, fun _ _ => rfl, fun a h1 h2 h3 h4 => zuR_ne (by omega)⟩
theorem zTrs_e (h : I 3118 55 = 0) {Kk : Int32 → Int64 → Prop} (hK : ∀ q y, ¬ Kk q y) (h1 : ∀ q y, Vi q y = 0) (h2 : ∀ q y, Vo q y = 0) (h3 : ∀ q y, Vm q y = 0) : zTrs I J 0 Kk Vi Vo Vm := by
  refine ⟨h, fun i j _ hj => absurd hj (Nat.not_lt_zero _), fun q y => ?_⟩
  have : ∀ am : Nat → Int64, zAm (I 4144) (J 4177) am 0 q y = 0 := fun am => if_neg (fun h => absurd h.1 (Nat.not_lt_zero _))
  rw [this, this, this, h1, h2, h3]
  exact ⟨⟨fun ⟨i, hi, _⟩ => absurd hi (Nat.not_lt_zero _), fun h => absurd h (hK q y)⟩, rfl, rfl, rfl⟩
theorem zTrs_c {Kk' : Int32 → Int64 → Prop} {Vi' Vo' Vm' : Int32 → Int64 → Int} (hT : zTrs I J w Kk Vi Vo Vm) (hK : ∀ q y, Kk q y ↔ Kk' q y) (h1 : Vi = Vi') (h2 : Vo = Vo') (h3 : Vm = Vm') : zTrs I J w Kk' Vi' Vo' Vm' := by
  subst h1 h2 h3
  exact ⟨hT.1, hT.2.1, fun q y => ⟨(hT.2.2 q y).1.trans (hK q y), (hT.2.2 q y).2⟩⟩
/-- what the first i inputs and j coins of the next have -/
def zInj (I : zI) (J : zJ) (g : Nat → Nat → Nat) (ia : Nat → Nat) (i j : Nat) (q : Int32) (y : Int64) : Int := zIn I J g ia i q y + zAmt I J (ia i) q y j
theorem zInj_s {i j : Nat} : zInj I J g ia i (j + 1) = zUpV (zInj I J g ia i j) (I 3472 (8 * ia i + j)) (J 3505 (8 * ia i + j)) (J 3537 (8 * ia i + j)).toInt := by
  funext q y
  show zIn I J g ia i q y + zAmt I J (ia i) q y (j + 1) = zIn I J g ia i q y + zAmt I J (ia i) q y j + _
  have e : zAmt I J (ia i) q y (j + 1) = zAmt I J (ia i) q y j + if I 3472 (8 * ia i + j) = q ∧ J 3505 (8 * ia i + j) = y then (J 3537 (8 * ia i + j)).toInt else 0 := rfl
  rw [e]
  omega
set_option maxRecDepth 20000 in
set_option maxHeartbeats 4000000 in
theorem l280b {i : Nat} {u4 : Option Value} (hS : zStat P N) (hm : m ≤ 1024) (hg : ∀ k, k < m → I 3440 k = nI (g 6 k) ∧ g 6 k ≤ 8) (hn : zInm I C Z ia ca) (hi : i < C (zWi Z 0 0)) (hc8 : C (zWi Z 0 0) ≤ 8) (him : ia i < m) (ha : ∀ j, j < g 6 (ia i) → 1 ≤ (J 3537 (8 * ia i + j)).toInt) (hp : ∀ q y, 0 ≤ zIn I J g ia i q y) (hIn : ∀ q y, zInj I J g ia i (g 6 (ia i)) q y ≤ 4611686018427387904)
    (hQ : ∀ I' J' w u2 u3 u4, zSmf I J I' J' → w ≤ 8 * (i + 1) → zTrs I' J' w (fun q y => 0 < zIn I J g ia (i + 1) q y) (zIn I J g ia (i + 1)) (fun _ _ => 0) (fun _ _ => 0) → zQ zt280 zo280_1 [some (.ref 3118), some (.int (nI (i + 1))), u2, u3, u4] [] (I', J', P, N, n, z) Q) : ∀ r j I' J' w u3 u4, j + r = g 6 (ia i) → zSmf I J I' J' → w ≤ 8 * i + j → zTrs I' J' w (fun q y => 0 < zInj I J g ia i j q y) (zInj I J g ia i j) (fun _ _ => 0) (fun _ _ => 0) → zQ zt280 zo280_2 [some (.ref 3118), some (.int (nI i)), some (.int (nI j)), u3, u4] [] (I', J', P, N, n, z) Q := by
  obtain ⟨b1, b2⟩ := hg (ia i) him
  have x1 := hn.2.2.1 i hi
  have mono : ∀ j, j ≤ g 6 (ia i) → ∀ q y, 0 ≤ zAmt I J (ia i) q y j ∧ zInj I J g ia i j q y ≤ zInj I J g ia i (g 6 (ia i)) q y := fun j hj q y => by
    have := zKs_pos (cp := fun j => I 3472 (8 * ia i + j)) (cx := fun j => J 3505 (8 * ia i + j)) (ca := fun j => J 3537 (8 * ia i + j)) (q := q) (y := y) (w := g 6 (ia i)) (fun j hj => by have := ha j hj; omega) (g 6 (ia i) - j) j (by omega)
    rw [zKs_amt, zKs_amt] at this
    unfold zInj
    exact ⟨this.1, by omega⟩
  intro r
  induction r with
  | zero =>
    intro j I' J' w u3 u4 hj f hw hT
    obtain rfl : j = g 6 (ia i) := by omega
    have x1' : I' 4080 i = nI (ia i) := by rw [f.1 4080 (by decide) (by decide)]; exact x1
    have b1' : I' 3440 (ia i) = nI (g 6 (ia i)) := by rw [f.1 3440 (by decide) (by decide)]; exact b1
    have q := hQ I' J' w (some (.int (nI (g 6 (ia i))))) u3 u4 f (by omega) hT
    rw [zo280_2]
    simp (decide := true) (disch := omega) only [x1', b1', zi280, zt280, zo280_0, zo280_3, zo280_4, zy_ldI, zy_ldL, zy_ldA, zy_stI, zy_stL, zy_stA, zy_cI, zy_cL, zy_nul, zy_inc, zy_bI, zy_bL, zy_sL, zy_un, zy_cmp, zy_dup, zy_dup2, zy_pop, zy_pop2, zy_jn, zy_jnn, zy_go, zy_fal, zy_tsw, zy_lsw, zy_get, zy_put, zy_ald, zy_ast, zy_len, zy_newa, zy_new, zy_cal, zy_ret, zy_tak, zy_cst, zy_acp, zy_oini, zy_cln, zy_thr, zy_bad, zy_lco, zy_if0, zy_ic0, zy_if1, zy_ic1, zy_if2, zy_ic2, zy_if3, zy_ic3, zy_if4, zy_ic4, zy_if5, zy_ic5, zK_go, zK_to, zK_end, zK_callH, zK_iteC, zK_none, zsLd, zsSt, zsInc, zsBI, zsBL, zsSL, zsUn, zsCmp, zsDup, zsDup2, zsPop, zsPop2, zsJn, zsTsw, zsLsw, zsGet, zsPut, zsAld, zsAst, zsLen, zsNewa, zsCal, zsRet, zsCst, zsAcp, zsOini, zsCln, zsLco, zsThr, zxBI, zxBL, zxSL, zxU, zset1, zset2, zclr, zcat, zmake_mk, zcomp, zH_i, zH_l, zH_r, zH_u, zH_n, List.set_cons_zero, List.set_cons_succ, List.getElem?_cons_zero, List.getElem?_cons_succ, List.length_cons, List.length_nil, List.take_succ_cons, List.take_zero, List.drop_succ_cons, List.drop_zero, List.reverse_cons, List.reverse_nil, List.nil_append, List.cons_append, List.map_cons, List.map_nil, List.sum_cons, List.sum_nil, Option.toList_some, Option.toList_none, Value.category, Nat.reduceAdd, Nat.reduceMul, Nat.reduceMod, Nat.reduceDiv, Nat.reduceSub, Nat.reduceLT, Nat.reduceLeDiff, Nat.reduceEqDiff, Nat.zero_le, Nat.le_refl, Int32.reduceToNatClampNeg, Int32.reduceLT, Int32.reduceLE, Int32.reduceAdd, Int32.reduceSub, Int32.reduceMul, ↓reduceIte, reduceCtorEq, Nat.add_zero, Nat.zero_add, true_or, or_true, false_or, or_false, true_and, and_true, false_and, and_false, not_true_eq_false, not_false_eq_true, if_true, if_false, true_implies, false_implies, implies_true, forall_const, false_imp_iff, true_imp_iff, va_rf, zlay, zent, List.replicate_zero, List.append_nil, List.replicate_succ, List.length_append, ne_eq, Option.some.injEq, Value.int.injEq, Value.long.injEq, Int32.reduceOfNat, Int32.reduceToInt, Int.reduceLT, Int.reduceLE, Int.reduceSub, Int.reduceToNat, Int.reduceAdd, Int.reduceNeg, Int32.reduceDiv, Int64.reduceAdd, Int64.reduceSub, lg_cmp_ge, lg_cmp_le, lg_cmp_gt, lg_cmp_lt, lg_cmp_eq, wlt_t, wlt_f, wle_t, wle_f, wmod, wI_lt, wI_le, wI_eq, wI_neg, wI_pos, wI_cl, wI_ge, wI_po, w64_lt, w64_le, w64_eq, w64_lt0, w64_le0, w64_eq0, w64_32, zc317, zc319, wI_add, wI_a1, wI_s1, wI_e0, wI_m8, wI_m128, wI_m64, wI_m190, not_true_eq_false, not_false_eq_true, sP_3118_15 hS, sP_3118_16 hS, sP_3118_17 hS, sP_3118_18 hS, sP_3118_51 hS, sP_3118_58 hS, sN_3440 hS, sN_3472 hS, sN_3505 hS, sN_3537 hS, sN_4080 hS, sN_4209 hS, sN_6417 hS]
    exact q
  | succ r ih =>
    intro j I' J' w u3 u4 hj f hw hT
    have x1' : I' 4080 i = nI (ia i) := by rw [f.1 4080 (by decide) (by decide)]; exact x1
    have b1' : I' 3440 (ia i) = nI (g 6 (ia i)) := by rw [f.1 3440 (by decide) (by decide)]; exact b1
    have r1 : I' 3472 (8 * ia i + j) = I 3472 (8 * ia i + j) := by rw [f.1 3472 (by decide) (by decide)]
    have r2 : J' 3505 (8 * ia i + j) = J 3505 (8 * ia i + j) := by rw [f.2.2 3505 (by decide) (by decide) (by decide) (by decide)]
    rw [zo280_2]
    simp (decide := true) (disch := omega) only [x1', b1', r1, r2, zi280, zt280, zo280_0, zo280_3, zo280_4, zy_ldI, zy_ldL, zy_ldA, zy_stI, zy_stL, zy_stA, zy_cI, zy_cL, zy_nul, zy_inc, zy_bI, zy_bL, zy_sL, zy_un, zy_cmp, zy_dup, zy_dup2, zy_pop, zy_pop2, zy_jn, zy_jnn, zy_go, zy_fal, zy_tsw, zy_lsw, zy_get, zy_put, zy_ald, zy_ast, zy_len, zy_newa, zy_new, zy_cal, zy_ret, zy_tak, zy_cst, zy_acp, zy_oini, zy_cln, zy_thr, zy_bad, zy_lco, zy_if0, zy_ic0, zy_if1, zy_ic1, zy_if2, zy_ic2, zy_if3, zy_ic3, zy_if4, zy_ic4, zy_if5, zy_ic5, zK_go, zK_to, zK_end, zK_callH, zK_iteC, zK_none, zsLd, zsSt, zsInc, zsBI, zsBL, zsSL, zsUn, zsCmp, zsDup, zsDup2, zsPop, zsPop2, zsJn, zsTsw, zsLsw, zsGet, zsPut, zsAld, zsAst, zsLen, zsNewa, zsCal, zsRet, zsCst, zsAcp, zsOini, zsCln, zsLco, zsThr, zxBI, zxBL, zxSL, zxU, zset1, zset2, zclr, zcat, zmake_mk, zcomp, zH_i, zH_l, zH_r, zH_u, zH_n, List.set_cons_zero, List.set_cons_succ, List.getElem?_cons_zero, List.getElem?_cons_succ, List.length_cons, List.length_nil, List.take_succ_cons, List.take_zero, List.drop_succ_cons, List.drop_zero, List.reverse_cons, List.reverse_nil, List.nil_append, List.cons_append, List.map_cons, List.map_nil, List.sum_cons, List.sum_nil, Option.toList_some, Option.toList_none, Value.category, Nat.reduceAdd, Nat.reduceMul, Nat.reduceMod, Nat.reduceDiv, Nat.reduceSub, Nat.reduceLT, Nat.reduceLeDiff, Nat.reduceEqDiff, Nat.zero_le, Nat.le_refl, Int32.reduceToNatClampNeg, Int32.reduceLT, Int32.reduceLE, Int32.reduceAdd, Int32.reduceSub, Int32.reduceMul, ↓reduceIte, reduceCtorEq, Nat.add_zero, Nat.zero_add, true_or, or_true, false_or, or_false, true_and, and_true, false_and, and_false, not_true_eq_false, not_false_eq_true, if_true, if_false, true_implies, false_implies, implies_true, forall_const, false_imp_iff, true_imp_iff, va_rf, zlay, zent, List.replicate_zero, List.append_nil, List.replicate_succ, List.length_append, ne_eq, Option.some.injEq, Value.int.injEq, Value.long.injEq, Int32.reduceOfNat, Int32.reduceToInt, Int.reduceLT, Int.reduceLE, Int.reduceSub, Int.reduceToNat, Int.reduceAdd, Int.reduceNeg, Int32.reduceDiv, Int64.reduceAdd, Int64.reduceSub, lg_cmp_ge, lg_cmp_le, lg_cmp_gt, lg_cmp_lt, lg_cmp_eq, wlt_t, wlt_f, wle_t, wle_f, wmod, wI_lt, wI_le, wI_eq, wI_neg, wI_pos, wI_cl, wI_ge, wI_po, w64_lt, w64_le, w64_eq, w64_lt0, w64_le0, w64_eq0, w64_32, zc317, zc319, wI_add, wI_a1, wI_s1, wI_e0, wI_m8, wI_m128, wI_m64, wI_m190, not_true_eq_false, not_false_eq_true, sP_3118_15 hS, sP_3118_16 hS, sP_3118_17 hS, sP_3118_18 hS, sP_3118_51 hS, sP_3118_58 hS, sN_3440 hS, sN_3472 hS, sN_3505 hS, sN_3537 hS, sN_4080 hS, sN_4209 hS, sN_6417 hS]
    refine e279 hS (by omega) hT (fun I2 J2 w2 k f2 hw2 hk k1 k2 hT2 => ?_)
    have x2 : I2 4080 i = nI (ia i) := by rw [f2.1 4080 (by decide) (by decide)]; exact x1'
    have r3 : J2 3537 (8 * ia i + j) = J 3537 (8 * ia i + j) := by rw [f2.2.2 3537 (by decide) (by decide) (by decide) (by decide), f.2.2 3537 (by decide) (by decide) (by decide) (by decide)]
    have hv := (zTrs_v hT2 hk).1
    rw [k1, k2] at hv
    have hle := (mono (j + 1) (by omega) (I 3472 (8 * ia i + j)) (J 3505 (8 * ia i + j))).2
    have hin := hIn (I 3472 (8 * ia i + j)) (J 3505 (8 * ia i + j))
    have hps : 0 ≤ zInj I J g ia i j (I 3472 (8 * ia i + j)) (J 3505 (8 * ia i + j)) := by
      have h1 := hp (I 3472 (8 * ia i + j)) (J 3505 (8 * ia i + j))
      have h2 := (mono j (by omega) (I 3472 (8 * ia i + j)) (J 3505 (8 * ia i + j))).1
      unfold zInj
      omega
    rw [zInj_s] at hle
    unfold zUpV at hle
    rw [if_pos ⟨rfl, rfl⟩] at hle
    have haj := ha j (by omega)
    have hsum : (J2 4209 k + J 3537 (8 * ia i + j)).toInt = zInj I J g ia i j (I 3472 (8 * ia i + j)) (J 3505 (8 * ia i + j)) + (J 3537 (8 * ia i + j)).toInt := by rw [zAdd_i (by omega) (by omega) (by omega), hv]
    have hT3 := zTrs_i hT2 hk k1 k2 (v := J2 4209 k + J 3537 (8 * ia i + j))
    rw [hsum] at hT3
    have hV : (fun q y => if I 3472 (8 * ia i + j) = q ∧ J 3505 (8 * ia i + j) = y then zInj I J g ia i j (I 3472 (8 * ia i + j)) (J 3505 (8 * ia i + j)) + (J 3537 (8 * ia i + j)).toInt else zInj I J g ia i j q y) = zInj I J g ia i (j + 1) := by
      funext q y
      rw [zInj_s]
      unfold zUpV
      by_cases h : I 3472 (8 * ia i + j) = q ∧ J 3505 (8 * ia i + j) = y
      · rw [if_pos h, if_pos h, h.1, h.2]
      · rw [if_neg h, if_neg h]; omega
    have q := ih (j + 1) I2 (zu J2 4209 k (J2 4209 k + J 3537 (8 * ia i + j))) w2 (some (.int (nI (8 * ia i + j)))) (some (.int (nI k))) (by omega) (zSmf_tr (zSmf_tr f f2) (zSmf_u (Or.inl rfl))) (by omega) (zTrs_c hT3 (fun q y => by
      rw [← hV]
      show _ ↔ 0 < (if I 3472 (8 * ia i + j) = q ∧ J 3505 (8 * ia i + j) = y then _ else _)
      by_cases h : I 3472 (8 * ia i + j) = q ∧ J 3505 (8 * ia i + j) = y
      · rw [if_pos h]
        exact ⟨fun _ => by omega, fun _ => Or.inr ⟨h.1.symm, h.2.symm⟩⟩
      · rw [if_neg h]
        exact ⟨fun h' => h'.elim id (fun e => absurd ⟨e.1.symm, e.2.symm⟩ h), Or.inl⟩) hV rfl rfl)
    have hk72 : k < 144 := by omega
    simp (decide := true) (disch := omega) only [x2, r3, zi280, zt280, zo280_0, zo280_3, zo280_4, zy_ldI, zy_ldL, zy_ldA, zy_stI, zy_stL, zy_stA, zy_cI, zy_cL, zy_nul, zy_inc, zy_bI, zy_bL, zy_sL, zy_un, zy_cmp, zy_dup, zy_dup2, zy_pop, zy_pop2, zy_jn, zy_jnn, zy_go, zy_fal, zy_tsw, zy_lsw, zy_get, zy_put, zy_ald, zy_ast, zy_len, zy_newa, zy_new, zy_cal, zy_ret, zy_tak, zy_cst, zy_acp, zy_oini, zy_cln, zy_thr, zy_bad, zy_lco, zy_if0, zy_ic0, zy_if1, zy_ic1, zy_if2, zy_ic2, zy_if3, zy_ic3, zy_if4, zy_ic4, zy_if5, zy_ic5, zK_go, zK_to, zK_end, zK_callH, zK_iteC, zK_none, zsLd, zsSt, zsInc, zsBI, zsBL, zsSL, zsUn, zsCmp, zsDup, zsDup2, zsPop, zsPop2, zsJn, zsTsw, zsLsw, zsGet, zsPut, zsAld, zsAst, zsLen, zsNewa, zsCal, zsRet, zsCst, zsAcp, zsOini, zsCln, zsLco, zsThr, zxBI, zxBL, zxSL, zxU, zset1, zset2, zclr, zcat, zmake_mk, zcomp, zH_i, zH_l, zH_r, zH_u, zH_n, List.set_cons_zero, List.set_cons_succ, List.getElem?_cons_zero, List.getElem?_cons_succ, List.length_cons, List.length_nil, List.take_succ_cons, List.take_zero, List.drop_succ_cons, List.drop_zero, List.reverse_cons, List.reverse_nil, List.nil_append, List.cons_append, List.map_cons, List.map_nil, List.sum_cons, List.sum_nil, Option.toList_some, Option.toList_none, Value.category, Nat.reduceAdd, Nat.reduceMul, Nat.reduceMod, Nat.reduceDiv, Nat.reduceSub, Nat.reduceLT, Nat.reduceLeDiff, Nat.reduceEqDiff, Nat.zero_le, Nat.le_refl, Int32.reduceToNatClampNeg, Int32.reduceLT, Int32.reduceLE, Int32.reduceAdd, Int32.reduceSub, Int32.reduceMul, ↓reduceIte, reduceCtorEq, Nat.add_zero, Nat.zero_add, true_or, or_true, false_or, or_false, true_and, and_true, false_and, and_false, not_true_eq_false, not_false_eq_true, if_true, if_false, true_implies, false_implies, implies_true, forall_const, false_imp_iff, true_imp_iff, va_rf, zlay, zent, List.replicate_zero, List.append_nil, List.replicate_succ, List.length_append, ne_eq, Option.some.injEq, Value.int.injEq, Value.long.injEq, Int32.reduceOfNat, Int32.reduceToInt, Int.reduceLT, Int.reduceLE, Int.reduceSub, Int.reduceToNat, Int.reduceAdd, Int.reduceNeg, Int32.reduceDiv, Int64.reduceAdd, Int64.reduceSub, lg_cmp_ge, lg_cmp_le, lg_cmp_gt, lg_cmp_lt, lg_cmp_eq, wlt_t, wlt_f, wle_t, wle_f, wmod, wI_lt, wI_le, wI_eq, wI_neg, wI_pos, wI_cl, wI_ge, wI_po, w64_lt, w64_le, w64_eq, w64_lt0, w64_le0, w64_eq0, w64_32, zc317, zc319, wI_add, wI_a1, wI_s1, wI_e0, wI_m8, wI_m128, wI_m64, wI_m190, not_true_eq_false, not_false_eq_true, sP_3118_15 hS, sP_3118_16 hS, sP_3118_17 hS, sP_3118_18 hS, sP_3118_51 hS, sP_3118_58 hS, sN_3440 hS, sN_3472 hS, sN_3505 hS, sN_3537 hS, sN_4080 hS, sN_4209 hS, sN_6417 hS]
    exact q
set_option maxRecDepth 20000 in
set_option maxHeartbeats 4000000 in
theorem e280 {sp : Nat → Int32} {iv : Nat → Int64} (hS : zStat P N) (hm : m ≤ 1024) (hg : ∀ k, k < m → I 3440 k = nI (g 6 k) ∧ g 6 k ≤ 8) (hn : zInm I C Z ia ca) (hc8 : C (zWi Z 0 0) ≤ 8) (hW : zWfO I J g m e hx s) (hia : zNam sp m iv ia (C (zWi Z 0 0))) (hIn : ∀ q y, zIn I J g ia (C (zWi Z 0 0)) q y ≤ 4611686018427387904)
    (hQ : ∀ I' J' w, zSmf I J I' J' → w ≤ 64 → zTrs I' J' w (fun q y => 0 < zIn I J g ia (C (zWi Z 0 0)) q y) (zIn I J g ia (C (zWi Z 0 0))) (fun _ _ => 0) (fun _ _ => 0) → Q none (I', J', P, N, n, z)) : zC 280 [.ref 3118] (I, J, P, N, n, z) Q := by
  have pos : ∀ i, i ≤ C (zWi Z 0 0) → ∀ q y, 0 ≤ zIn I J g ia i q y := fun i hi q y => zsI_pos i (fun k hk => zAmt_pos _ (fun j hj => ((hW (ia k) (hia k (by omega)).1).2.2.2.1 j hj).2.1))
  have li : ∀ r i I' J' w u2 u3 u4, i + r = C (zWi Z 0 0) → zSmf I J I' J' → w ≤ 8 * i → zTrs I' J' w (fun q y => 0 < zIn I J g ia i q y) (zIn I J g ia i) (fun _ _ => 0) (fun _ _ => 0) → zQ zt280 zo280_1 [some (.ref 3118), some (.int (nI i)), u2, u3, u4] [] (I', J', P, N, n, z) Q := by
    intro r
    induction r with
    | zero =>
      intro i I' J' w u2 u3 u4 hi f hw hT
      obtain rfl : i = C (zWi Z 0 0) := by omega
      have n1 : I' 3118 52 = nI (C (zWi Z 0 0)) := by rw [f.2.1 52 (by decide)]; exact hn.1
      have q := hQ I' J' w f (by omega) hT
      rw [zo280_1]
      simp (decide := true) (disch := omega) only [n1, zi280, zt280, zo280_0, zo280_3, zo280_4, zy_ldI, zy_ldL, zy_ldA, zy_stI, zy_stL, zy_stA, zy_cI, zy_cL, zy_nul, zy_inc, zy_bI, zy_bL, zy_sL, zy_un, zy_cmp, zy_dup, zy_dup2, zy_pop, zy_pop2, zy_jn, zy_jnn, zy_go, zy_fal, zy_tsw, zy_lsw, zy_get, zy_put, zy_ald, zy_ast, zy_len, zy_newa, zy_new, zy_cal, zy_ret, zy_tak, zy_cst, zy_acp, zy_oini, zy_cln, zy_thr, zy_bad, zy_lco, zy_if0, zy_ic0, zy_if1, zy_ic1, zy_if2, zy_ic2, zy_if3, zy_ic3, zy_if4, zy_ic4, zy_if5, zy_ic5, zK_go, zK_to, zK_end, zK_callH, zK_iteC, zK_none, zsLd, zsSt, zsInc, zsBI, zsBL, zsSL, zsUn, zsCmp, zsDup, zsDup2, zsPop, zsPop2, zsJn, zsTsw, zsLsw, zsGet, zsPut, zsAld, zsAst, zsLen, zsNewa, zsCal, zsRet, zsCst, zsAcp, zsOini, zsCln, zsLco, zsThr, zxBI, zxBL, zxSL, zxU, zset1, zset2, zclr, zcat, zmake_mk, zcomp, zH_i, zH_l, zH_r, zH_u, zH_n, List.set_cons_zero, List.set_cons_succ, List.getElem?_cons_zero, List.getElem?_cons_succ, List.length_cons, List.length_nil, List.take_succ_cons, List.take_zero, List.drop_succ_cons, List.drop_zero, List.reverse_cons, List.reverse_nil, List.nil_append, List.cons_append, List.map_cons, List.map_nil, List.sum_cons, List.sum_nil, Option.toList_some, Option.toList_none, Value.category, Nat.reduceAdd, Nat.reduceMul, Nat.reduceMod, Nat.reduceDiv, Nat.reduceSub, Nat.reduceLT, Nat.reduceLeDiff, Nat.reduceEqDiff, Nat.zero_le, Nat.le_refl, Int32.reduceToNatClampNeg, Int32.reduceLT, Int32.reduceLE, Int32.reduceAdd, Int32.reduceSub, Int32.reduceMul, ↓reduceIte, reduceCtorEq, Nat.add_zero, Nat.zero_add, true_or, or_true, false_or, or_false, true_and, and_true, false_and, and_false, not_true_eq_false, not_false_eq_true, if_true, if_false, true_implies, false_implies, implies_true, forall_const, false_imp_iff, true_imp_iff, va_rf, zlay, zent, List.replicate_zero, List.append_nil, List.replicate_succ, List.length_append, ne_eq, Option.some.injEq, Value.int.injEq, Value.long.injEq, Int32.reduceOfNat, Int32.reduceToInt, Int.reduceLT, Int.reduceLE, Int.reduceSub, Int.reduceToNat, Int.reduceAdd, Int.reduceNeg, Int32.reduceDiv, Int64.reduceAdd, Int64.reduceSub, lg_cmp_ge, lg_cmp_le, lg_cmp_gt, lg_cmp_lt, lg_cmp_eq, wlt_t, wlt_f, wle_t, wle_f, wmod, wI_lt, wI_le, wI_eq, wI_neg, wI_pos, wI_cl, wI_ge, wI_po, w64_lt, w64_le, w64_eq, w64_lt0, w64_le0, w64_eq0, w64_32, zc317, zc319, wI_add, wI_a1, wI_s1, wI_e0, wI_m8, wI_m128, wI_m64, wI_m190, not_true_eq_false, not_false_eq_true, sP_3118_15 hS, sP_3118_16 hS, sP_3118_17 hS, sP_3118_18 hS, sP_3118_51 hS, sP_3118_58 hS, sN_3440 hS, sN_3472 hS, sN_3505 hS, sN_3537 hS, sN_4080 hS, sN_4209 hS, sN_6417 hS]
      exact q
    | succ r ih =>
      intro i I' J' w u2 u3 u4 hi f hw hT
      have n1 : I' 3118 52 = nI (C (zWi Z 0 0)) := by rw [f.2.1 52 (by decide)]; exact hn.1
      have him := (hia i (by omega)).1
      have e1 : zInj I J g ia i (g 6 (ia i)) = zIn I J g ia (i + 1) := by funext q y; rfl
      have e0 : zInj I J g ia i 0 = zIn I J g ia i := by funext q y; show _ + 0 = _; omega
      have q := l280b (n := n) (z := z) (u4 := u4) (Q := Q) hS hm hg hn (by omega) hc8 him (fun j hj => Int64.le_iff_toInt_le.1 ((hW (ia i) him).2.2.2.1 j hj).2.1) (pos i (by omega)) (fun q y => by rw [e1]; exact Int.le_trans (zIn_mono hW hia (by omega)) (hIn q y)) (fun I2 J2 w2 v2 v3 v4 f2 hw2 hT2 => ih (i + 1) I2 J2 w2 v2 v3 v4 (by omega) f2 (by omega) hT2) (g 6 (ia i)) 0 I' J' w u3 u4 (by omega) f (by omega) (by rw [e0]; exact hT)
      have en : nI 0 = 0 := rfl
      rw [en] at q
      rw [zo280_1]
      simp (decide := true) (disch := omega) only [n1, zi280, zt280, zo280_0, zo280_3, zo280_4, zy_ldI, zy_ldL, zy_ldA, zy_stI, zy_stL, zy_stA, zy_cI, zy_cL, zy_nul, zy_inc, zy_bI, zy_bL, zy_sL, zy_un, zy_cmp, zy_dup, zy_dup2, zy_pop, zy_pop2, zy_jn, zy_jnn, zy_go, zy_fal, zy_tsw, zy_lsw, zy_get, zy_put, zy_ald, zy_ast, zy_len, zy_newa, zy_new, zy_cal, zy_ret, zy_tak, zy_cst, zy_acp, zy_oini, zy_cln, zy_thr, zy_bad, zy_lco, zy_if0, zy_ic0, zy_if1, zy_ic1, zy_if2, zy_ic2, zy_if3, zy_ic3, zy_if4, zy_ic4, zy_if5, zy_ic5, zK_go, zK_to, zK_end, zK_callH, zK_iteC, zK_none, zsLd, zsSt, zsInc, zsBI, zsBL, zsSL, zsUn, zsCmp, zsDup, zsDup2, zsPop, zsPop2, zsJn, zsTsw, zsLsw, zsGet, zsPut, zsAld, zsAst, zsLen, zsNewa, zsCal, zsRet, zsCst, zsAcp, zsOini, zsCln, zsLco, zsThr, zxBI, zxBL, zxSL, zxU, zset1, zset2, zclr, zcat, zmake_mk, zcomp, zH_i, zH_l, zH_r, zH_u, zH_n, List.set_cons_zero, List.set_cons_succ, List.getElem?_cons_zero, List.getElem?_cons_succ, List.length_cons, List.length_nil, List.take_succ_cons, List.take_zero, List.drop_succ_cons, List.drop_zero, List.reverse_cons, List.reverse_nil, List.nil_append, List.cons_append, List.map_cons, List.map_nil, List.sum_cons, List.sum_nil, Option.toList_some, Option.toList_none, Value.category, Nat.reduceAdd, Nat.reduceMul, Nat.reduceMod, Nat.reduceDiv, Nat.reduceSub, Nat.reduceLT, Nat.reduceLeDiff, Nat.reduceEqDiff, Nat.zero_le, Nat.le_refl, Int32.reduceToNatClampNeg, Int32.reduceLT, Int32.reduceLE, Int32.reduceAdd, Int32.reduceSub, Int32.reduceMul, ↓reduceIte, reduceCtorEq, Nat.add_zero, Nat.zero_add, true_or, or_true, false_or, or_false, true_and, and_true, false_and, and_false, not_true_eq_false, not_false_eq_true, if_true, if_false, true_implies, false_implies, implies_true, forall_const, false_imp_iff, true_imp_iff, va_rf, zlay, zent, List.replicate_zero, List.append_nil, List.replicate_succ, List.length_append, ne_eq, Option.some.injEq, Value.int.injEq, Value.long.injEq, Int32.reduceOfNat, Int32.reduceToInt, Int.reduceLT, Int.reduceLE, Int.reduceSub, Int.reduceToNat, Int.reduceAdd, Int.reduceNeg, Int32.reduceDiv, Int64.reduceAdd, Int64.reduceSub, lg_cmp_ge, lg_cmp_le, lg_cmp_gt, lg_cmp_lt, lg_cmp_eq, wlt_t, wlt_f, wle_t, wle_f, wmod, wI_lt, wI_le, wI_eq, wI_neg, wI_pos, wI_cl, wI_ge, wI_po, w64_lt, w64_le, w64_eq, w64_lt0, w64_le0, w64_eq0, w64_32, zc317, zc319, wI_add, wI_a1, wI_s1, wI_e0, wI_m8, wI_m128, wI_m64, wI_m190, not_true_eq_false, not_false_eq_true, sP_3118_15 hS, sP_3118_16 hS, sP_3118_17 hS, sP_3118_18 hS, sP_3118_51 hS, sP_3118_58 hS, sN_3440 hS, sN_3472 hS, sN_3505 hS, sN_3537 hS, sN_4080 hS, sN_4209 hS, sN_6417 hS]
      exact q
  have q := li (C (zWi Z 0 0)) 0 (zu I 3118 55 0) J 0 none none none (by omega) ⟨fun c a b => zuR_ne a, fun j hj => if_neg (fun x => hj x.2), fun _ _ _ _ _ => rfl⟩ (by omega) (zTrs_e (if_pos ⟨rfl, rfl⟩) (fun q y h => absurd (show (0 : Int) < 0 from h) (by decide)) (fun _ _ => rfl) (fun _ _ => rfl) (fun _ _ => rfl))
  have en : nI 0 = 0 := rfl
  rw [en] at q
  simp (decide := true) (disch := omega) only [zi280, zt280, zo280_0, zo280_2, zo280_3, zo280_4, zy_ldI, zy_ldL, zy_ldA, zy_stI, zy_stL, zy_stA, zy_cI, zy_cL, zy_nul, zy_inc, zy_bI, zy_bL, zy_sL, zy_un, zy_cmp, zy_dup, zy_dup2, zy_pop, zy_pop2, zy_jn, zy_jnn, zy_go, zy_fal, zy_tsw, zy_lsw, zy_get, zy_put, zy_ald, zy_ast, zy_len, zy_newa, zy_new, zy_cal, zy_ret, zy_tak, zy_cst, zy_acp, zy_oini, zy_cln, zy_thr, zy_bad, zy_lco, zy_if0, zy_ic0, zy_if1, zy_ic1, zy_if2, zy_ic2, zy_if3, zy_ic3, zy_if4, zy_ic4, zy_if5, zy_ic5, zK_go, zK_to, zK_end, zK_callH, zK_iteC, zK_none, zsLd, zsSt, zsInc, zsBI, zsBL, zsSL, zsUn, zsCmp, zsDup, zsDup2, zsPop, zsPop2, zsJn, zsTsw, zsLsw, zsGet, zsPut, zsAld, zsAst, zsLen, zsNewa, zsCal, zsRet, zsCst, zsAcp, zsOini, zsCln, zsLco, zsThr, zxBI, zxBL, zxSL, zxU, zset1, zset2, zclr, zcat, zmake_mk, zcomp, zH_i, zH_l, zH_r, zH_u, zH_n, List.set_cons_zero, List.set_cons_succ, List.getElem?_cons_zero, List.getElem?_cons_succ, List.length_cons, List.length_nil, List.take_succ_cons, List.take_zero, List.drop_succ_cons, List.drop_zero, List.reverse_cons, List.reverse_nil, List.nil_append, List.cons_append, List.map_cons, List.map_nil, List.sum_cons, List.sum_nil, Option.toList_some, Option.toList_none, Value.category, Nat.reduceAdd, Nat.reduceMul, Nat.reduceMod, Nat.reduceDiv, Nat.reduceSub, Nat.reduceLT, Nat.reduceLeDiff, Nat.reduceEqDiff, Nat.zero_le, Nat.le_refl, Int32.reduceToNatClampNeg, Int32.reduceLT, Int32.reduceLE, Int32.reduceAdd, Int32.reduceSub, Int32.reduceMul, ↓reduceIte, reduceCtorEq, Nat.add_zero, Nat.zero_add, true_or, or_true, false_or, or_false, true_and, and_true, false_and, and_false, not_true_eq_false, not_false_eq_true, if_true, if_false, true_implies, false_implies, implies_true, forall_const, false_imp_iff, true_imp_iff, va_rf, zlay, zent, List.replicate_zero, List.append_nil, List.replicate_succ, List.length_append, ne_eq, Option.some.injEq, Value.int.injEq, Value.long.injEq, Int32.reduceOfNat, Int32.reduceToInt, Int.reduceLT, Int.reduceLE, Int.reduceSub, Int.reduceToNat, Int.reduceAdd, Int.reduceNeg, Int32.reduceDiv, Int64.reduceAdd, Int64.reduceSub, lg_cmp_ge, lg_cmp_le, lg_cmp_gt, lg_cmp_lt, lg_cmp_eq, wlt_t, wlt_f, wle_t, wle_f, wmod, wI_lt, wI_le, wI_eq, wI_neg, wI_pos, wI_cl, wI_ge, wI_po, w64_lt, w64_le, w64_eq, w64_lt0, w64_le0, w64_eq0, w64_32, zc317, zc319, wI_add, wI_a1, wI_s1, wI_e0, wI_m8, wI_m128, wI_m64, wI_m190, not_true_eq_false, not_false_eq_true, sP_3118_15 hS, sP_3118_16 hS, sP_3118_17 hS, sP_3118_18 hS, sP_3118_51 hS, sP_3118_58 hS, sN_3440 hS, sN_3472 hS, sN_3505 hS, sN_3537 hS, sN_4080 hS, sN_4209 hS, sN_6417 hS]
  exact q
end
