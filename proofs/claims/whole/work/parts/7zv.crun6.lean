-- needs: 01 02.names 03 04 05 18 19 20 22 23 24 25 30 31 32 33 35 36 37 40 42 43 44 45 46 47 60 61 62 63 64 65 66 67 68 69 79f 79g 79h 79i 79j 79k 79l 79m 79n 79o 79p 79q 79r 79s 79t 79u 79v 79w 79x 79y 79z. 79za 79zb 79zc 79zd 79ze 79zf 79zg 79zh 79zi 79zj 79zk 79zl 79zm 79zn 79zo 79zp 79zq 79zr 79zs 79zt 79zu 79zv 7a 7b 7c 7d 7e 7f 7g 7zl 7zm 7zn 7zo 7h 7i 7j 7k 7l 7m 7n 7o 7p 7q 7r 7zj 7zk 7zp 7zq 7zr 7zs 7zt 7zu
/-! PHASE TWO, by the class: with the CONTEXT -/
theorem ylv_m {m m' : Nat} {d : yD} (h : m ≤ m') (hl : ylv m d) : ylv m' d := by
  obtain ⟨K, F, C, T, Z, L, Y⟩ := d
  exact fun j hj => Nat.le_trans (hl j hj) h
section
variable {F C Z X H L : Nat → Nat} {T : Nat → Int64} {Y : Nat → Nat → Int32} {K s : Nat}
theorem ylv_sub {k d : Nat} (D : zDt F C Z L K) (hk : k < K) (hl : d ≤ L k) (h12 : d ≤ 12) : ylv (13 - d) (ysub k (K, F, C, T, Z, L, Y)) := by
  intro j hj
  have hj : j < Z k := hj
  have := (D.2 k hk).1
  have := (D.2 (k + j) (by omega)).2.2.2.2.2
  show L (k + j) + 1 - L k ≤ 13 - d
  omega
/-- levels of fields and addresses -/
theorem zTx_l (D : zDt F C Z L K) (t : zTx F T C Z H s) : (∀ i, i < 8 → L (zWi Z 0 i) = 2) ∧ ∀ i, i < C (zWi Z 0 2) → zWi Z (zWi Z 0 2) i + 1 < K ∧ L (zWi Z (zWi Z 0 2) i + 1) = 4 := by
  have fk := zTx_f D t
  have h0 : 0 < K := by have := D.1; omega
  have l0 : ∀ i, i < 8 → L (zWi Z 0 i) = 2 := fun i hi => by
    have := ((D.2 0 h0).2.2.2.2.1 i (by unfold zKc; rw [if_pos (by have := t.1.1; omega)]; have := t.1.2.2; omega)).2
    have := D.1
    omega
  refine ⟨l0, fun i hi => ?_⟩
  have k2 := fk 2 (by omega)
  have f4 := t.2.2.2.1.1.1
  have k1 := zDt_ch D k2 (by omega) (i := i) hi
  have l1 := ((D.2 _ k2).2.2.2.2.1 i (by unfold zKc; rw [if_pos (by omega)]; exact hi)).2
  obtain ⟨o1, -⟩ := t.2.2.2.1.2 i hi
  have l2 := ((D.2 _ k1).2.2.2.2.1 0 (by unfold zKc; rw [if_pos (by have := o1.1; omega)]; have := o1.2.2; omega))
  have e : zWi Z (zWi Z (zWi Z 0 2) i) 0 = zWi Z (zWi Z 0 2) i + 1 := rfl
  rw [e] at l2
  have := l0 2 (by omega)
  exact ⟨l2.1, by omega⟩
theorem yCx_w {po : Nat → Int32} {nm am ba : Nat → Int64} {w : Nat} (D : zDt F C Z L K) (hw : ywf (K, F, C, T, Z, L, Y)) (t : zTx F T C Z H s) (hn : zCtn C Z w ≤ 200) (x y : Int64) : ywf (yCx (K, F, C, T, Z, L, Y) Z (ySp po nm am w) (yPds (K, F, C, T, Z, L, Y) Z ba (C (zWi Z 0 2))) x y) := by
  have fk := zTx_f D t
  obtain ⟨l0, la⟩ := zTx_l D t
  obtain ⟨z3, z4, z5, z7, zz⟩ := zTx_z D t
  have en := yCx_n (Y := Y) (po := po) (nm := nm) (am := am) (w := w) (ba := ba) (x := x) (y := y) D t
  have hc := hn
  unfold zCtn at hc
  have sub : ∀ i, i < 8 → ywf (ysub (zWi Z 0 i) (K, F, C, T, Z, L, Y)) ∧ ylv 11 (ysub (zWi Z 0 i) (K, F, C, T, Z, L, Y)) := fun i hi => ⟨ywf_sub hw (fk i hi), ylv_sub (d := 2) D (fk i hi) (by rw [l0 i hi]; omega) (by omega)⟩
  have i1 : ∀ x : Int64, ywf (yint x) ∧ ylv 11 (yint x) := fun x => ⟨ywf_int, ylv_i (by omega)⟩
  have coin : ∀ d, d ∈ ySp po nm am w → ywf d ∧ ylv 2 d := fun d hd => by
    obtain ⟨i, -, rfl⟩ := List.mem_map.1 hd
    have : ∀ d, d ∈ [yint (po i).toInt64, yint (nm i), yint (am i)] → ywf d ∧ ylv 1 d := fun d hd => by
      simp only [List.mem_cons, List.not_mem_nil, or_false] at hd
      rcases hd with rfl | rfl | rfl <;> exact ⟨ywf_int, ylv_i (by omega)⟩
    exact ⟨ywf_ls (m := 1) (by omega) _ this (by show 1 + (1 + (1 + (1 + 0))) ≤ 200; omega), ylv_s _ (fun d hd => (this d hd).2)⟩
  have paid : ∀ d, d ∈ yPds (K, F, C, T, Z, L, Y) Z ba (C (zWi Z 0 2)) → ywf d ∧ ylv 10 d := fun d hd => by
    obtain ⟨i, hi, rfl⟩ := List.mem_map.1 hd
    have hi := List.mem_range.1 hi
    have : ∀ d, d ∈ [ysub (zWi Z (zWi Z 0 2) i + 1) (K, F, C, T, Z, L, Y), yint (ba i)] → ywf d ∧ ylv 9 d := fun d hd => by
      simp only [List.mem_cons, List.not_mem_nil, or_false] at hd
      rcases hd with rfl | rfl
      · exact ⟨ywf_sub hw (la i hi).1, ylv_sub (d := 4) D (la i hi).1 (by rw [(la i hi).2]; omega) (by omega)⟩
      · exact ⟨ywf_int, ylv_i (by omega)⟩
    exact ⟨ywf_als (m := 9) (by omega) _ this (by show 1 + (Z (zWi Z (zWi Z 0 2) i + 1) + (1 + 0)) ≤ 200; have := (zz i hi).1; omega), ylv_as (ylv_s _ (fun d hd => (this d hd).2))⟩
  have e1 : yll (ySp po nm am w) = 4 * w := yll_r w (fun i _ => rfl)
  have e2 : yll (yPds (K, F, C, T, Z, L, Y) Z ba (C (zWi Z 0 2))) = 4 * C (zWi Z 0 2) := yll_r _ (fun i hi => ypd_1 (zz i hi).1)
  refine ywf_als (m := 11) (by omega) _ (fun d hd => ?_) (by omega)
  unfold yCxl at hd
  simp only [List.mem_cons, List.not_mem_nil, or_false] at hd
  rcases hd with rfl | rfl | rfl | rfl | rfl | rfl | rfl | rfl
  · exact i1 _
  · exact i1 _
  · exact sub 3 (by omega)
  · exact sub 4 (by omega)
  · exact sub 7 (by omega)
  · exact sub 5 (by omega)
  · exact ⟨ywf_ls (m := 2) (by omega) _ coin (by omega), ylv_m (by omega) (ylv_s _ (fun d hd => (coin d hd).2))⟩
  · exact ⟨ywf_ls (m := 10) (by omega) _ paid (by omega), ylv_s _ (fun d hd => (paid d hd).2)⟩
/-- redeemers -/
theorem yrk_w (D : zDt F C Z L K) (hw : ywf (K, F, C, T, Z, L, Y)) (t : zTx F T C Z H s) {i : Nat} (hi : i < C (zWi Z 0 0) + ynp T C Z) : yrk C Z i < K ∧ yrk C Z i + Z (yrk C Z i) ≤ K ∧ ywf (ysub (yrk C Z i) (K, F, C, T, Z, L, Y)) := by
  have fk := zTx_f D t
  have key : yrk C Z i < K := by
    unfold yrk
    split
    · rename_i hn
      have k1 := zDt_ch D (fk 0 (by omega)) (by have := t.2.1.1.1; omega) (i := i) hn
      obtain ⟨o1, o2⟩ := t.2.1.2 i hn
      have k2 := zDt_ch D k1 (by have := o1.1; omega) (i := 1) (by have := o1.2.2; omega)
      have k0 := zDt_1st D k1 (by have := o1.1; omega) (by have := o1.2.2; omega)
      have e : zWi Z (zWi Z (zWi Z 0 0) i) 1 = zWi Z (zWi Z 0 0) i + 1 + Z (zWi Z (zWi Z 0 0) i + 1) := rfl
      rw [e, zDt_1 D k0 o2] at k2
      exact k2
    · rename_i hn
      have hq : i - C (zWi Z 0 0) < ynp T C Z := by omega
      generalize i - C (zWi Z 0 0) = q at hq
      have r := t.2.2.2.2.2.2.2.1
      have c6 : C (zWi Z 0 6) = 2 * ynp T C Z := r.2.1
      have k1 := zDt_ch D (fk 6 (by omega)) (by have := r.1; omega) (i := 2 * q) (by omega)
      have k2 := zDt_ch D (fk 6 (by omega)) (by have := r.1; omega) (i := 2 * q + 1) (by omega)
      have e : zWi Z (zWi Z 0 6) (2 * q + 1) = zWi Z (zWi Z 0 6) (2 * q) + Z (zWi Z (zWi Z 0 6) (2 * q)) := rfl
      rw [e, zDt_1 D k1 (r.2.2 q hq).1] at k2
      exact k2
  exact ⟨key, (D.2 _ key).1.2, ywf_sub hw key⟩
end
/-- phase two, with the context, leaves -/
def yFe (I : zI) (J : zJ) (I' : zI) (J' : zJ) (K : Nat) : Prop :=
  ((∀ c, yFx c → I' c = I c ∧ (c ≠ 11 → J' c = J c)) ∧ (∀ j, j ≠ 12 → J' 11 j = J 11 j) ∧ (∀ j, j ≠ 13 → I' 649 j = I 649 j) ∧ (∀ j, j < 2 ∨ 6 < j → I' 3088 j = I 3088 j)) ∧ (∀ c, 6432 ≤ c → (c % 32 ≠ 7 → I' c = I c) ∧ (∀ j, j ≠ 6 → I' c j = I c j) ∧ J' c = J c) ∧
  (∀ j, j < K → I' 79 j = I 79 j ∧ I' 112 j = I 112 j ∧ I' 144 j = I 144 j ∧ I' 176 j = I 176 j ∧ J' 209 j = J 209 j) ∧ ∀ j, j < 4096 → I' 239 j = I 239 j
section
variable {I : zI} {J : zJ} {P : zP} {N : Nat → Nat} {n z m K s : Nat} {F C Z X H L ad : Nat → Nat} {f g : Nat → Nat → Nat} {T : Nat → Int64} {Y : Nat → Nat → Int32} {Q : Option Value → zS → Prop} {Kq zq lq wq Wq Pq : Nat → Nat → Nat} {Vq : Nat → Nat → Int64} {Yq : Nat → Nat → Nat → Int32} {l0 : yLt}
set_option maxRecDepth 20000 in
set_option maxHeartbeats 4000000 in
theorem e173 {w : Nat} (hS : zStat P N) (hT : I 54 = zTK0 ∧ N 54 = 32) (h : zHas I J F T C Z H X L K s) (hs32 : s ≤ 32) (v8 : I 11 8 = nI s) (v1 : I 2115 2 = nI m) (hm : m ≤ 1024) (hO : ∀ a, a < m → zO1 I J P N I J g n a) (hdk : ∀ a, a < m → zDk (I 3567) a (g 7 a)) (had : ∀ k, k < m → I 3408 k = nI (ad k) ∧ ad k < 256 + s) (hia : zNam (I 3664) m (ziv T Z) (zia T Z) (C (zWi Z 0 0)))
    (hsf : ∀ k, k < s → ySf I J P N f n (Kq k) (zq k) (lq k) (wq k) (Wq k) (Pq k) (Vq k) (Yq k) k) (hfi : ∀ i k, i < s → k < s → f 0 i = f 0 k → i = k) (h7 : I 37 7 = nI K) (hw : w ≤ 64) (hw3 : I 2273 3 = nI w) (hcn : zCtn C Z w ≤ 200)
    (he : yEt (yEc I J 4096) 0 (K, F, C, T, Z, L, Y)) (wD : ywf (K, F, C, T, Z, L, Y)) (t0 : yTc I J f s l0)
    (hA : (∀ i, i < C (zWi Z 0 0) + ynp T C Z → yok (ysk T C Z ad) (yre (K, F, C, T, Z, L, Y) T C Z (ySp (I 2320) (J 2353) (J 2385) w) (yPds (K, F, C, T, Z, L, Y) Z (yba T C Z) (C (zWi Z 0 2))) Kq zq Wq Vq Yq (f 5) (fun a => yDm (I 3567) a (g 7 a))) i) → ∀ I' J', yFe I J I' J' K → yTc I' J' f s (ylg (ysk T C Z ad) (yre (K, F, C, T, Z, L, Y) T C Z (ySp (I 2320) (J 2353) (J 2385) w) (yPds (K, F, C, T, Z, L, Y) Z (yba T C Z) (C (zWi Z 0 2))) Kq zq Wq Vq Yq (f 5) (fun a => yDm (I 3567) a (g 7 a))) l0 (C (zWi Z 0 0) + ynp T C Z)) → Q (some (.int 0)) (I', J', P, N, n, z))
    (hB : ∀ i, i < C (zWi Z 0 0) + ynp T C Z → (∀ j, j < i → yok (ysk T C Z ad) (yre (K, F, C, T, Z, L, Y) T C Z (ySp (I 2320) (J 2353) (J 2385) w) (yPds (K, F, C, T, Z, L, Y) Z (yba T C Z) (C (zWi Z 0 2))) Kq zq Wq Vq Yq (f 5) (fun a => yDm (I 3567) a (g 7 a))) j) → ¬ yok (ysk T C Z ad) (yre (K, F, C, T, Z, L, Y) T C Z (ySp (I 2320) (J 2353) (J 2385) w) (yPds (K, F, C, T, Z, L, Y) Z (yba T C Z) (C (zWi Z 0 2))) Kq zq Wq Vq Yq (f 5) (fun a => yDm (I 3567) a (g 7 a))) i → ∀ I' J', yFe I J I' J' K → yTc I' J' f s (ylg (ysk T C Z ad) (yre (K, F, C, T, Z, L, Y) T C Z (ySp (I 2320) (J 2353) (J 2385) w) (yPds (K, F, C, T, Z, L, Y) Z (yba T C Z) (C (zWi Z 0 2))) Kq zq Wq Vq Yq (f 5) (fun a => yDm (I 3567) a (g 7 a))) l0 (i + 1)) → Q (some (.int 20)) (I', J', P, N, n, z)) :
    zC 173 [.ref 11] (I, J, P, N, n, z) Q := by
  have hD := h.1.1
  simp (decide := true) (disch := omega) only [zi173, zt173, zo173_0, zo173_2, zo173_3, zo173_4, zo173_5, zo173_6, zo173_7, zy_ldI, zy_ldL, zy_ldA, zy_stI, zy_stL, zy_stA, zy_cI, zy_cL, zy_nul, zy_inc, zy_bI, zy_bL, zy_sL, zy_un, zy_cmp, zy_dup, zy_dup2, zy_pop, zy_pop2, zy_jn, zy_jnn, zy_go, zy_fal, zy_tsw, zy_lsw, zy_get, zy_put, zy_ald, zy_ast, zy_len, zy_newa, zy_new, zy_cal, zy_ret, zy_tak, zy_cst, zy_acp, zy_oini, zy_cln, zy_thr, zy_bad, zy_lco, zy_if0, zy_ic0, zy_if1, zy_ic1, zy_if2, zy_ic2, zy_if3, zy_ic3, zy_if4, zy_ic4, zy_if5, zy_ic5, zK_go, zK_to, zK_end, zK_callH, zK_iteC, zK_none, zsLd, zsSt, zsInc, zsBI, zsBL, zsSL, zsUn, zsCmp, zsDup, zsDup2, zsPop, zsPop2, zsJn, zsTsw, zsLsw, zsGet, zsPut, zsAld, zsAst, zsLen, zsNewa, zsCal, zsRet, zsCst, zsAcp, zsOini, zsCln, zsLco, zsThr, zxBI, zxBL, zxSL, zxU, zset1, zset2, zclr, zcat, zmake_mk, zcomp, zH_i, zH_l, zH_r, zH_u, zH_n, List.set_cons_zero, List.set_cons_succ, List.getElem?_cons_zero, List.getElem?_cons_succ, List.length_cons, List.length_nil, List.take_succ_cons, List.take_zero, List.drop_succ_cons, List.drop_zero, List.reverse_cons, List.reverse_nil, List.nil_append, List.cons_append, List.map_cons, List.map_nil, List.sum_cons, List.sum_nil, Option.toList_some, Option.toList_none, Value.category, Nat.reduceAdd, Nat.reduceMul, Nat.reduceMod, Nat.reduceDiv, Nat.reduceSub, Nat.reduceLT, Nat.reduceLeDiff, Nat.reduceEqDiff, Nat.zero_le, Nat.le_refl, Int32.reduceToNatClampNeg, Int32.reduceLT, Int32.reduceLE, Int32.reduceAdd, Int32.reduceSub, Int32.reduceMul, ↓reduceIte, reduceCtorEq, Nat.add_zero, Nat.zero_add, true_or, or_true, false_or, or_false, true_and, and_true, false_and, and_false, not_true_eq_false, not_false_eq_true, if_true, if_false, true_implies, false_implies, implies_true, forall_const, false_imp_iff, true_imp_iff, va_rf, zlay, zent, List.replicate_zero, List.append_nil, List.replicate_succ, List.length_append, ne_eq, Option.some.injEq, Value.int.injEq, Value.long.injEq, Int32.reduceOfNat, Int32.reduceToInt, Int.reduceLT, Int.reduceLE, Int.reduceSub, Int.reduceToNat, Int.reduceAdd, Int.reduceNeg, Int32.reduceDiv, Int64.reduceAdd, Int64.reduceSub, lg_cmp_ge, lg_cmp_le, lg_cmp_gt, lg_cmp_lt, lg_cmp_eq, wlt_t, wlt_f, wle_t, wle_f, wmod, wI_lt, wI_le, wI_eq, wI_neg, wI_pos, wI_cl, wI_ge, wI_po, w64_lt, w64_le, w64_eq, w64_lt0, w64_le0, w64_eq0, w64_32, zc317, zc319, wI_add, wI_a1, wI_s1, wI_e0, wI_m8, wI_m128, wI_m64, wI_m190, not_true_eq_false, not_false_eq_true, sP_11_0 hS, sP_11_3 hS, sP_11_4 hS, sP_11_5 hS, sP_649_10 hS, sP_2115_12 hS, sN_1040 hS, sN_6417 hS]
  refine e144 (nt := K) (w := w) (bt := 4096) hS h (Nat.le_refl _) (by omega) he h7 hw hw3 (fun I0 J0 g0 hh hl => ?_)
  obtain ⟨⟨a1, a2, a3⟩, ⟨a4, a5⟩, a6⟩ := id g0
  have fr : ∀ c, c ≠ 37 → c ≠ 79 → c ≠ 112 → c ≠ 144 → c ≠ 176 → c ≠ 649 → I0 c = I c := fun c x1 x2 x3 x4 x5 x6 => by rw [a1 c x1 x2 x3 x4 x5, zuR_ne x6]
  have h649 : ∀ j, j ≠ 13 → I0 649 j = I 649 j := fun j hj => by rw [a1 649 (by decide) (by decide) (by decide) (by decide) (by decide), zu_nj hj]
  have rows : ∀ j, j < K → I0 79 j = I 79 j ∧ I0 112 j = I 112 j ∧ I0 144 j = I 144 j ∧ I0 176 j = I 176 j ∧ J0 209 j = J 209 j := fun j hj => by
    have := a6 j hj
    rw [zuR_ne (by decide), zuR_ne (by decide), zuR_ne (by decide), zuR_ne (by decide)] at this
    exact this
  have h0 : zHas I0 J0 F T C Z H X L K s := zHas_y (fun c x1 x2 => ⟨fr c (by omega) (by omega) (by omega) (by omega) (by omega) (by omega), a2 c (by omega)⟩) (h649 12 (by decide)) rows h
  -- an old frame: only nodes and the place of the context are others
  have e0 : yFe I J I0 J0 K := by
    refine ⟨⟨fun c hc => ?_, fun j _ => by rw [a2 11 (by decide)], h649, fun j _ => by rw [fr 3088 (by decide) (by decide) (by decide) (by decide) (by decide) (by decide)]⟩, fun c hc => ?_, rows, fun j _ => by rw [fr 239 (by decide) (by decide) (by decide) (by decide) (by decide) (by decide)]⟩
    · unfold yFx at hc
      exact ⟨fr c (by omega) (by omega) (by omega) (by omega) (by omega) (by omega), fun _ => a2 c (by omega)⟩
    · have e := fr c (by omega) (by omega) (by omega) (by omega) (by omega) (by omega)
      exact ⟨fun _ => e, fun j _ => by rw [e], a2 c (by omega)⟩
  have et : ∀ {I' J'}, yFc I0 J0 I' J' K → yFe I J I' J' K := fun {I' J'} x => by
    obtain ⟨⟨b1, b2, b3, b4⟩, b5, b6, b7⟩ := x
    obtain ⟨⟨c1, c2, c3, c4⟩, c5, c6, c7⟩ := e0
    refine ⟨⟨fun c hc => ⟨(b1 c hc).1.trans (c1 c hc).1, fun x => ((b1 c hc).2 x).trans ((c1 c hc).2 x)⟩, fun j hj => (b2 j hj).trans (c2 j hj), fun j hj => by rw [b3]; exact c3 j hj, fun j hj => (b4 j hj).trans (c4 j hj)⟩, fun c hc => ⟨fun x => ((b5 c hc).1 x).trans ((c5 c hc).1 x), fun j hj => ((b5 c hc).2.1 j hj).trans ((c5 c hc).2.1 j hj), (b5 c hc).2.2.trans (c5 c hc).2.2⟩, fun j hj => ?_, fun j hj => (b7 j hj).trans (c7 j hj)⟩
    obtain ⟨d1, d2, d3, d4, d5⟩ := c6 j hj
    obtain ⟨e1, e2, e3, e4, e5⟩ := b6 j hj
    exact ⟨e1.trans d1, e2.trans d2, e3.trans d3, e4.trans d4, e5.trans d5⟩
  have big : ∀ c, 6432 ≤ c → I0 c = I c := fun c hc => fr c (by omega) (by omega) (by omega) (by omega) (by omega) (by omega)
  have bigJ : ∀ c, 6432 ≤ c → J0 c = J c := fun c hc => a2 c (by omega)
  have rr : ∀ c, 3061 ≤ c → c < 6432 → I0 c = I c ∧ J0 c = J c := fun c x1 x2 => ⟨fr c (by omega) (by omega) (by omega) (by omega) (by omega) (by omega), a2 c (by omega)⟩
  have hO0 : ∀ a, a < m → zO1 I0 J0 P N I0 J0 g n a := fun a ha => by
    have o := zO1_c (I := I) (J := J) (P := P) (N := N) (I' := I0) (J' := J0) (P' := P) (N' := N) (A := I) (B := J) ⟨fun c hc => ⟨big c hc, bigJ c hc, rfl, rfl⟩, rfl, rfl⟩ (Nat.le_refl n) (hO a ha)
    unfold zO1 at o ⊢
    rw [(rr 3408 (by decide) (by decide)).1, (rr 3632 (by decide) (by decide)).1, (rr 3664 (by decide) (by decide)).1, (rr 3440 (by decide) (by decide)).1, (rr 3600 (by decide) (by decide)).1, (rr 3472 (by decide) (by decide)).1, (rr 3567 (by decide) (by decide)).1, (rr 3505 (by decide) (by decide)).2, (rr 3537 (by decide) (by decide)).2]
    exact o
  have hsf0 : ∀ k, k < s → ySf I0 J0 P N f n (Kq k) (zq k) (lq k) (wq k) (Wq k) (Pq k) (Vq k) (Yq k) k := fun k hk => by
    have o := hsf k hk
    have g0 := o.2.2.2.2.2.2 0 (by decide)
    have g1 := o.2.2.2.2.2.2 1 (by decide)
    have g2 := o.2.2.2.2.2.2 2 (by decide)
    have g3 := o.2.2.2.2.2.2 3 (by decide)
    have g4 := o.2.2.2.2.2.2 4 (by decide)
    unfold ySf at o ⊢
    rw [big (32 * f 0 k + 7) (by omega), big (32 * f 1 k + 15) (by omega), bigJ (32 * f 2 k + 17) (by omega), big (32 * f 3 k + 16) (by omega), big (32 * f 4 k + 15) (by omega)]
    exact o
  have r67 := (rr 3567 (by decide) (by decide)).1
  have t00 : yTc I0 J0 f s l0 := by
    obtain ⟨r, a, S, W, kk, u, q⟩ := l0
    obtain ⟨t1, t2, t3⟩ := t0
    refine ⟨by rw [fr 3088 (by decide) (by decide) (by decide) (by decide) (by decide) (by decide)]; exact t1, fun k hk => ?_, by rw [a2 11 (by decide)]; exact t3⟩
    have g0 := (hsf k hk).2.2.2.2.2.2 0 (by decide)
    rw [big _ (by omega)]
    exact t2 k hk
  have c13 : I0 649 13 = nI K := by rw [a1 649 (by decide) (by decide) (by decide) (by decide) (by decide), zu_at]
  have p122 := fun (Q : Option Value → zS → Prop) => m122 (n := n) (z := z) hS h0 Q
  rw [← r67] at hA hB
  have q := l173 (I0 := I0) (J0 := J0) (P := P) (N := N) (n := n) (z := z) (m := m) (K := K) (s := s) (bc := K + zCtn C Z w) (cx := K) (nc := zCtn C Z w) (ad := ad) (f := f) (g := g) (Y := Y) (Q := Q) (Kq := Kq) (zq := zq) (lq := lq) (wq := wq) (Wq := Wq) (Pq := Pq) (Vq := Vq) (Yq := Yq) (sp := ySp (I 2320) (J 2353) (J 2385) w) (pd := yPds (K, F, C, T, Z, L, Y) Z (yba T C Z) (C (zWi Z 0 2))) (l0 := l0) hS ⟨by rw [fr 54 (by decide) (by decide) (by decide) (by decide) (by decide) (by decide)]; exact hT.1, hT.2⟩ h0 hs32 (by rw [fr 11 (by decide) (by decide) (by decide) (by decide) (by decide) (by decide)]; exact v8) (by rw [fr 2115 (by decide) (by decide) (by decide) (by decide) (by decide) (by decide)]; exact v1) hm hO0 (fun a ha => by rw [r67]; exact hdk a ha) (fun k hk => by rw [(rr 3408 (by decide) (by decide)).1]; exact had k hk) (by rw [(rr 3664 (by decide) (by decide)).1]; exact hia) hsf0 hfi c13 ⟨Nat.le_refl _, Nat.le_refl _⟩ (by omega) (fun x y => yCx_n h.1 h.2.2.2) (yEt_m (fun p ff c t zz yy _ hp => yEc_x (Nat.le_refl _) (rows p (by have hp : p < 0 + K := hp; omega)) (fun j _ => by rw [fr 239 (by decide) (by decide) (by decide) (by decide) (by decide) (by decide)])) he) (yCx_w h.1 wD h.2.2.2 hcn) (fun i hi => (yrk_w h.1 wD h.2.2.2 hi).2) (fun x I' J' y tt => hA x I' J' (et y) tt) (fun i x1 x2 x3 I' J' y tt => hB i x1 x2 x3 I' J' (et y) tt) (C (zWi Z 0 0) + ynp T C Z) 0 I0 J0 none none (by omega) (fun j hj => by omega) yFc_r t00 hh ⟨0, 0, hl⟩
  have e00 : nI 0 = 0 := rfl
  rw [e00] at q
  simp (decide := true) (disch := omega) only [a4, p122, zi173, zt173, zo173_0, zo173_2, zo173_3, zo173_4, zo173_5, zo173_6, zo173_7, zy_ldI, zy_ldL, zy_ldA, zy_stI, zy_stL, zy_stA, zy_cI, zy_cL, zy_nul, zy_inc, zy_bI, zy_bL, zy_sL, zy_un, zy_cmp, zy_dup, zy_dup2, zy_pop, zy_pop2, zy_jn, zy_jnn, zy_go, zy_fal, zy_tsw, zy_lsw, zy_get, zy_put, zy_ald, zy_ast, zy_len, zy_newa, zy_new, zy_cal, zy_ret, zy_tak, zy_cst, zy_acp, zy_oini, zy_cln, zy_thr, zy_bad, zy_lco, zy_if0, zy_ic0, zy_if1, zy_ic1, zy_if2, zy_ic2, zy_if3, zy_ic3, zy_if4, zy_ic4, zy_if5, zy_ic5, zK_go, zK_to, zK_end, zK_callH, zK_iteC, zK_none, zsLd, zsSt, zsInc, zsBI, zsBL, zsSL, zsUn, zsCmp, zsDup, zsDup2, zsPop, zsPop2, zsJn, zsTsw, zsLsw, zsGet, zsPut, zsAld, zsAst, zsLen, zsNewa, zsCal, zsRet, zsCst, zsAcp, zsOini, zsCln, zsLco, zsThr, zxBI, zxBL, zxSL, zxU, zset1, zset2, zclr, zcat, zmake_mk, zcomp, zH_i, zH_l, zH_r, zH_u, zH_n, List.set_cons_zero, List.set_cons_succ, List.getElem?_cons_zero, List.getElem?_cons_succ, List.length_cons, List.length_nil, List.take_succ_cons, List.take_zero, List.drop_succ_cons, List.drop_zero, List.reverse_cons, List.reverse_nil, List.nil_append, List.cons_append, List.map_cons, List.map_nil, List.sum_cons, List.sum_nil, Option.toList_some, Option.toList_none, Value.category, Nat.reduceAdd, Nat.reduceMul, Nat.reduceMod, Nat.reduceDiv, Nat.reduceSub, Nat.reduceLT, Nat.reduceLeDiff, Nat.reduceEqDiff, Nat.zero_le, Nat.le_refl, Int32.reduceToNatClampNeg, Int32.reduceLT, Int32.reduceLE, Int32.reduceAdd, Int32.reduceSub, Int32.reduceMul, ↓reduceIte, reduceCtorEq, Nat.add_zero, Nat.zero_add, true_or, or_true, false_or, or_false, true_and, and_true, false_and, and_false, not_true_eq_false, not_false_eq_true, if_true, if_false, true_implies, false_implies, implies_true, forall_const, false_imp_iff, true_imp_iff, va_rf, zlay, zent, List.replicate_zero, List.append_nil, List.replicate_succ, List.length_append, ne_eq, Option.some.injEq, Value.int.injEq, Value.long.injEq, Int32.reduceOfNat, Int32.reduceToInt, Int.reduceLT, Int.reduceLE, Int.reduceSub, Int.reduceToNat, Int.reduceAdd, Int.reduceNeg, Int32.reduceDiv, Int64.reduceAdd, Int64.reduceSub, lg_cmp_ge, lg_cmp_le, lg_cmp_gt, lg_cmp_lt, lg_cmp_eq, wlt_t, wlt_f, wle_t, wle_f, wmod, wI_lt, wI_le, wI_eq, wI_neg, wI_pos, wI_cl, wI_ge, wI_po, w64_lt, w64_le, w64_eq, w64_lt0, w64_le0, w64_eq0, w64_32, zc317, zc319, wI_add, wI_a1, wI_s1, wI_e0, wI_m8, wI_m128, wI_m64, wI_m190, not_true_eq_false, not_false_eq_true, sP_11_0 hS, sP_11_3 hS, sP_11_4 hS, sP_11_5 hS, sP_649_10 hS, sP_2115_12 hS, sN_1040 hS, sN_6417 hS]
  exact q
end
