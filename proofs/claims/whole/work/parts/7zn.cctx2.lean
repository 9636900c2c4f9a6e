-- needs: 01 02.names 03 04 05 18 19 20 22 23 24 25 30 31 32 33 35 36 37 40 42 43 44 45 46 47 60 61 62 63 64 65 66 67 68 69 79f 79g 79h 79i 79j 79k 79l 79m 79n 79o 79p 79q 79r 79s 79t 79u 79v 79w 79x 79y 79z. 79za 79zb 79zc 79zd 79ze 79zf 79zg 79zh 79zi 79zj 79zk 79zl 79zm 79zn 79zo 79zp 79zq 79zr 79zs 79zt 79zu 79zv 7a 7b 7c 7d 7e 7f 7g 7zl 7zm
/-! The CONTEXT, written by the class: all of it -/
section
variable {I I' I0 : zI} {J J' J0 : zJ} {P : zP} {N : Nat → Nat} {n z nt nt' bt b m K s : Nat} {Q : Option Value → zS → Prop} {F C Z X H L : Nat → Nat} {T : Nat → Int64} {Y : Nat → Nat → Int32}
/-- sizes of fields -/
theorem zTx_z (D : zDt F C Z L K) (t : zTx F T C Z H s) : Z (zWi Z 0 3) = 1 ∧ Z (zWi Z 0 4) = 3 ∧ Z (zWi Z 0 5) = 1 + 4 * C (zWi Z 0 5) ∧ Z (zWi Z 0 7) = 1 + C (zWi Z 0 7) ∧ ∀ i, i < C (zWi Z 0 2) → Z (zWi Z (zWi Z 0 2) i + 1) = 2 ∧ zWi Z (zWi Z 0 2) i + 3 ≤ K := by
  have fk := zTx_f D t
  have k2 := fk 2 (by omega)
  have k3 := fk 3 (by omega)
  have k4 := fk 4 (by omega)
  have k5 := fk 5 (by omega)
  have k7 := fk 7 (by omega)
  have c4 : C (zWi Z 0 4) = 2 := by have := t.2.2.2.2.2.1.1; have := this.2; omega
  refine ⟨zDt_1 D k3 t.2.2.2.2.1.1, ?_, ?_, ?_, fun i hi => ?_⟩
  · have h7 := (D.2 _ k4).2.2.2.1
    have h4 := t.2.2.2.2.2.1.1.1
    have e : zKc (F (zWi Z 0 4)) (C (zWi Z 0 4)) = 2 := by unfold zKc; rw [if_pos (by omega), c4]
    rw [e, zInA_w D k4 (by omega) t.2.2.2.2.2.1.2 2 (by omega)] at h7
    omega
  · have h7 := (D.2 _ k5).2.2.2.1
    have h4 := t.2.2.2.2.2.2.1.1.1
    have e : zKc (F (zWi Z 0 5)) (C (zWi Z 0 5)) = C (zWi Z 0 5) := by unfold zKc; rw [if_pos (by omega)]
    rw [e, zCns_w D k5 (by omega) (C (zWi Z 0 5)) (by omega) t.2.2.2.2.2.2.1.2] at h7
    omega
  · have h7 := (D.2 _ k7).2.2.2.1
    have h4 := t.2.2.2.2.2.2.2.2.1.1
    have e : zKc (F (zWi Z 0 7)) (C (zWi Z 0 7)) = C (zWi Z 0 7) := by unfold zKc; rw [if_pos (by omega)]
    rw [e, zInA_w D k7 (by omega) (fun i hi => (t.2.2.2.2.2.2.2.2.2 i hi).1) (C (zWi Z 0 7)) (by omega)] at h7
    omega
  · have k1 := zDt_ch D k2 (by have := t.2.2.2.1.1.1; omega) (i := i) hi
    obtain ⟨o1, o2, -⟩ := t.2.2.2.1.2 i hi
    have ka := zDt_1st D k1 (by have := o1.1; omega) (by have := o1.2.2; omega)
    have key : F (zWi Z (zWi Z 0 2) i + 1) = 6 ∧ C (zWi Z (zWi Z 0 2) i + 1) = 1 ∧ F (zWi Z (zWi Z 0 2) i + 1 + 1) = 0 := by
      rcases o2 with h | h
      · exact ⟨h.1.1, h.1.2.2, h.2.1⟩
      · exact ⟨h.1.1, h.1.2.2, h.2.1⟩
    obtain ⟨f6, c1, f0⟩ := key
    have kb := zDt_1st D ka (by omega) (by omega)
    have z1 := zDt_1 D kb f0
    have h7 := (D.2 _ ka).2.2.2.1
    rw [f6, c1] at h7
    have h7 : zWi Z (zWi Z (zWi Z 0 2) i + 1) 0 + Z (zWi Z (zWi Z (zWi Z 0 2) i + 1) 0) = _ := h7
    have e0 : zWi Z (zWi Z (zWi Z 0 2) i + 1) 0 = zWi Z (zWi Z 0 2) i + 1 + 1 := rfl
    rw [e0, z1] at h7
    exact ⟨by omega, by omega⟩
/-- the transaction stands where only nodes behind it, and the context's place, are others -/
theorem zHas_y (e : ∀ c, 649 < c → c < 2115 → I' c = I c ∧ J' c = J c) (e12 : I' 649 12 = I 649 12) (er : ∀ j, j < K → I' 79 j = I 79 j ∧ I' 112 j = I 112 j ∧ I' 144 j = I 144 j ∧ I' 176 j = I 176 j ∧ J' 209 j = J 209 j) (h : zHas I J F T C Z H X L K s) : zHas I' J' F T C Z H X L K s := by
  obtain ⟨D, hv, ⟨⟨s1, s2⟩, s3, ⟨s4, s5⟩, s6, s7, s8⟩, t⟩ := h
  have hc := t.2.2.2.1.1.2.2
  refine ⟨D, fun j hj => ?_, ⟨⟨fun i hi => ?_, fun i hi => ?_⟩, fun i hi => ?_, ⟨?_, fun k hk => ?_⟩, ?_, fun q hq => ?_, fun q hq => ?_⟩, t⟩
  · obtain ⟨a1, a2, a3, a4, a5⟩ := er j hj
    have := hv j hj
    rw [Nat.zero_add] at this ⊢
    rw [a1, a2, a3, a4, a5]
    exact this
  · rw [(e 688 (by omega) (by omega)).1]; exact s1 i hi
  · rw [(e 720 (by omega) (by omega)).1]; exact s2 i hi
  · obtain ⟨⟨a1, a2, a3, a4⟩, a5, a6⟩ := s3 i hi
    refine ⟨⟨?_, ?_, ?_, ?_⟩, ?_, fun k hk => ?_⟩
    · rw [(e 752 (by omega) (by omega)).1]; exact a1
    · rw [(e 784 (by omega) (by omega)).1]; exact a2
    · rw [(e 848 (by omega) (by omega)).1]; exact a3
    · rw [(e 880 (by omega) (by omega)).1]; exact a4
    · rw [(e (1089 + 128 * i) (by omega) (by omega)).1]; exact a5
    · rw [(e (1136 + 128 * i) (by omega) (by omega)).1, (e (1169 + 128 * i) (by omega) (by omega)).2, (e (1201 + 128 * i) (by omega) (by omega)).2]; exact a6 k hk
  · rw [(e 897 (by omega) (by omega)).1]; exact s4
  · rw [(e 944 (by omega) (by omega)).1, (e 977 (by omega) (by omega)).2, (e 1009 (by omega) (by omega)).2]; exact s5 k hk
  · rw [e12]; exact s6
  · rw [(e 1040 (by omega) (by omega)).1]; exact s7 q hq
  · rw [(e 1072 (by omega) (by omega)).1]; exact s8 q hq
theorem zHas_n (g : yNg I J I' J' nt nt') (hK : K ≤ nt) (h : zHas I J F T C Z H X L K s) : zHas I' J' F T C Z H X L K s :=
  zHas_y (fun c h1 h2 => ⟨g.1.1 c (by omega) (by omega) (by omega) (by omega) (by omega), g.1.2.1 c (by omega)⟩) (by rw [g.1.1 649 (by decide) (by decide) (by decide) (by decide) (by decide)]) (fun j hj => g.2.2 j (by omega)) h
/-- the base of an output -/
noncomputable def yba (T : Nat → Int64) (C Z : Nat → Nat) (i : Nat) : Int64 := zAm (zpo T (zoc Z i)) (zkx T (zoc Z i)) (zka T (zoc Z i)) (C (zoc Z i)) 0 0
def ypd (D : yD) (Z : Nat → Nat) (ba : Nat → Int64) (i : Nat) : yD := yas 6 0 (yls [ysub (zWi Z (zWi Z 0 2) i + 1) D, yint (ba i)])
def yPds (D : yD) (Z : Nat → Nat) (ba : Nat → Int64) (w : Nat) : List yD := (List.range w).map (ypd D Z ba)
theorem yas_1 {f : Nat} {t : Int64} {d : yD} : (yas f t d).1 = d.1 := by
  obtain ⟨K, F, C, T, Z, L, Y⟩ := d
  rfl
theorem ypd_1 {ba : Nat → Int64} {i : Nat} (h : Z (zWi Z (zWi Z 0 2) i + 1) = 2) : (ypd (K, F, C, T, Z, L, Y) Z ba i).1 = 4 := by
  unfold ypd
  rw [yas_1, (yls_0 _).1]
  show 1 + (Z (zWi Z (zWi Z 0 2) i + 1) + (1 + 0)) = 4
  omega
set_option maxRecDepth 20000 in
set_option maxHeartbeats 4000000 in
theorem l148 {lb : Nat} (hS : zStat P N) (h : zHas I0 J0 F T C Z H X L K s) (hK : K ≤ b) (hb : b + 4 * C (zWi Z 0 2) ≤ 3000) (he : yEt (yEc I0 J0 bt) 0 (K, F, C, T, Z, L, Y)) (hlb : lb < b)
    (hQ : ∀ I' J' u2 u3, yNg I0 J0 I' J' b (b + 4 * C (zWi Z 0 2)) → yEl (yEc I' J' bt) b (yPds (K, F, C, T, Z, L, Y) Z (yba T C Z) (C (zWi Z 0 2))) → zQ zt148 zo148_2 [some (.ref 649), some (.int (nI lb)), some (.int u2), u3] [] (I', J', P, N, n, z) Q) :
    ∀ r i (I : zI) (J : zJ) u3, i + r = C (zWi Z 0 2) → yNg I0 J0 I J b (b + 4 * i) → (∀ k, k < i → yEt (yEc I J bt) (b + 4 * k) (ypd (K, F, C, T, Z, L, Y) Z (yba T C Z) k)) → zQ zt148 zo148_1 [some (.ref 649), some (.int (nI lb)), some (.int (nI i)), u3] [] (I, J, P, N, n, z) Q := by
  have cc := zTx_c h.2.2.2
  have zz := (zTx_z h.1 h.2.2.2).2.2.2.2
  intro r
  induction r with
  | zero =>
    intro i I J u3 hi g hk
    obtain rfl : i = C (zWi Z 0 2) := by omega
    have q := hQ I J (nI (C (zWi Z 0 2))) u3 g (yEl_r _ (fun k h => ⟨ypd_1 (zz k h).1, hk k h⟩))
    have p127 := fun (Q : Option Value → zS → Prop) => m127 (n := n) (z := z) hS (zHas_n g hK h) Q
    have t : (nI (C (zWi Z 0 2)) ≤ nI (C (zWi Z 0 2))) = True := eq_true (Int32.le_refl _)
    rw [zo148_1]
    simp (decide := true) (disch := omega) only [p127, t, zi148, zt148, zo148_0, zy_ldI, zy_ldL, zy_ldA, zy_stI, zy_stL, zy_stA, zy_cI, zy_cL, zy_nul, zy_inc, zy_bI, zy_bL, zy_sL, zy_un, zy_cmp, zy_dup, zy_dup2, zy_pop, zy_pop2, zy_jn, zy_jnn, zy_go, zy_fal, zy_tsw, zy_lsw, zy_get, zy_put, zy_ald, zy_ast, zy_len, zy_newa, zy_new, zy_cal, zy_ret, zy_tak, zy_cst, zy_acp, zy_oini, zy_cln, zy_thr, zy_bad, zy_lco, zy_if0, zy_ic0, zy_if1, zy_ic1, zy_if2, zy_ic2, zy_if3, zy_ic3, zy_if4, zy_ic4, zy_if5, zy_ic5, zK_go, zK_to, zK_end, zK_callH, zK_iteC, zK_none, zsLd, zsSt, zsInc, zsBI, zsBL, zsSL, zsUn, zsCmp, zsDup, zsDup2, zsPop, zsPop2, zsJn, zsTsw, zsLsw, zsGet, zsPut, zsAld, zsAst, zsLen, zsNewa, zsCal, zsRet, zsCst, zsAcp, zsOini, zsCln, zsLco, zsThr, zxBI, zxBL, zxSL, zxU, zset1, zset2, zclr, zcat, zmake_mk, zcomp, zH_i, zH_l, zH_r, zH_u, zH_n, List.set_cons_zero, List.set_cons_succ, List.getElem?_cons_zero, List.getElem?_cons_succ, List.length_cons, List.length_nil, List.take_succ_cons, List.take_zero, List.drop_succ_cons, List.drop_zero, List.reverse_cons, List.reverse_nil, List.nil_append, List.cons_append, List.map_cons, List.map_nil, List.sum_cons, List.sum_nil, Option.toList_some, Option.toList_none, Value.category, Nat.reduceAdd, Nat.reduceMul, Nat.reduceMod, Nat.reduceDiv, Nat.reduceSub, Nat.reduceLT, Nat.reduceLeDiff, Nat.reduceEqDiff, Nat.zero_le, Nat.le_refl, Int32.reduceToNatClampNeg, Int32.reduceLT, Int32.reduceLE, Int32.reduceAdd, Int32.reduceSub, Int32.reduceMul, ↓reduceIte, reduceCtorEq, Nat.add_zero, Nat.zero_add, true_or, or_true, false_or, or_false, true_and, and_true, false_and, and_false, not_true_eq_false, not_false_eq_true, if_true, if_false, true_implies, false_implies, implies_true, forall_const, false_imp_iff, true_imp_iff, va_rf, zlay, zent, List.replicate_zero, List.append_nil, List.replicate_succ, List.length_append, ne_eq, Option.some.injEq, Value.int.injEq, Value.long.injEq, Int32.reduceOfNat, Int32.reduceToInt, Int.reduceLT, Int.reduceLE, Int.reduceSub, Int.reduceToNat, Int.reduceAdd, Int.reduceNeg, Int32.reduceDiv, Int64.reduceAdd, Int64.reduceSub, lg_cmp_ge, lg_cmp_le, lg_cmp_gt, lg_cmp_lt, lg_cmp_eq, wlt_t, wlt_f, wle_t, wle_f, wmod, wI_lt, wI_le, wI_eq, wI_neg, wI_pos, wI_cl, wI_ge, wI_po, w64_lt, w64_le, w64_eq, w64_lt0, w64_le0, w64_eq0, w64_32, zc317, zc319, wI_add, wI_a1, wI_s1, wI_e0, wI_m8, wI_m128, wI_m64, wI_m190, not_true_eq_false, not_false_eq_true, sP_649_0 hS, sP_649_5 hS, sP_649_6 hS, sP_819_0 hS, sP_819_1 hS, sP_819_2 hS, sP_819_3 hS, sP_819_4 hS, sP_819_5 hS, sP_819_6 hS, sP_819_7 hS, sN_784 hS, sN_819 hS, sN_6417 hS]
    exact q
  | succ r ih =>
    intro i I J u3 hi g hk
    have hi2 : i < C (zWi Z 0 2) := by omega
    obtain ⟨zk, kk⟩ := zz i hi2
    have h1 := zHas_n g hK h
    have p127 := fun (Q : Option Value → zS → Prop) => m127 (n := n) (z := z) hS h1 Q
    have q89 := fun (Q : Option Value → zS → Prop) => m89k (I := I) (J := J) (n := n) (z := z) (tp := b + 4 * i) (ct := 2) (pl := 0) (nm := 0) hS (by omega) g.2.1.1 Q
    have g1 := yNg_a (I := I) (J := J) (nt := b + 4 * i) (q := 6) (ct := 2) (pl := 0) (nm := 0)
    have o1 := zAd_at (I := I) (nt := b + 4 * i) (q := 6) (ct := 2) (pl := 0)
    obtain ⟨I1, hI1⟩ : ∃ I1, I1 = zAd I (b + 4 * i) 6 2 0 := ⟨_, rfl⟩
    obtain ⟨J1, hJ1⟩ : ∃ J1, J1 = zu J 209 (b + 4 * i) 0 := ⟨_, rfl⟩
    have oj : J1 209 (b + 4 * i) = 0 := by rw [hJ1, zu_at]
    rw [← hI1, ← hJ1] at q89 g1
    rw [← hI1] at o1
    have h2 := zHas_n g1 (by omega) h1
    have a784 : I1 784 i = nI (zWi Z (zWi Z 0 2) i + 1) := (h2.2.2.1.2.1 i hi2).1.2.1
    rw [zo148_1]
    simp (decide := true) (disch := omega) only [p127, q89, a784, zi148, zt148, zo148_0, zy_ldI, zy_ldL, zy_ldA, zy_stI, zy_stL, zy_stA, zy_cI, zy_cL, zy_nul, zy_inc, zy_bI, zy_bL, zy_sL, zy_un, zy_cmp, zy_dup, zy_dup2, zy_pop, zy_pop2, zy_jn, zy_jnn, zy_go, zy_fal, zy_tsw, zy_lsw, zy_get, zy_put, zy_ald, zy_ast, zy_len, zy_newa, zy_new, zy_cal, zy_ret, zy_tak, zy_cst, zy_acp, zy_oini, zy_cln, zy_thr, zy_bad, zy_lco, zy_if0, zy_ic0, zy_if1, zy_ic1, zy_if2, zy_ic2, zy_if3, zy_ic3, zy_if4, zy_ic4, zy_if5, zy_ic5, zK_go, zK_to, zK_end, zK_callH, zK_iteC, zK_none, zsLd, zsSt, zsInc, zsBI, zsBL, zsSL, zsUn, zsCmp, zsDup, zsDup2, zsPop, zsPop2, zsJn, zsTsw, zsLsw, zsGet, zsPut, zsAld, zsAst, zsLen, zsNewa, zsCal, zsRet, zsCst, zsAcp, zsOini, zsCln, zsLco, zsThr, zxBI, zxBL, zxSL, zxU, zset1, zset2, zclr, zcat, zmake_mk, zcomp, zH_i, zH_l, zH_r, zH_u, zH_n, List.set_cons_zero, List.set_cons_succ, List.getElem?_cons_zero, List.getElem?_cons_succ, List.length_cons, List.length_nil, List.take_succ_cons, List.take_zero, List.drop_succ_cons, List.drop_zero, List.reverse_cons, List.reverse_nil, List.nil_append, List.cons_append, List.map_cons, List.map_nil, List.sum_cons, List.sum_nil, Option.toList_some, Option.toList_none, Value.category, Nat.reduceAdd, Nat.reduceMul, Nat.reduceMod, Nat.reduceDiv, Nat.reduceSub, Nat.reduceLT, Nat.reduceLeDiff, Nat.reduceEqDiff, Nat.zero_le, Nat.le_refl, Int32.reduceToNatClampNeg, Int32.reduceLT, Int32.reduceLE, Int32.reduceAdd, Int32.reduceSub, Int32.reduceMul, ↓reduceIte, reduceCtorEq, Nat.add_zero, Nat.zero_add, true_or, or_true, false_or, or_false, true_and, and_true, false_and, and_false, not_true_eq_false, not_false_eq_true, if_true, if_false, true_implies, false_implies, implies_true, forall_const, false_imp_iff, true_imp_iff, va_rf, zlay, zent, List.replicate_zero, List.append_nil, List.replicate_succ, List.length_append, ne_eq, Option.some.injEq, Value.int.injEq, Value.long.injEq, Int32.reduceOfNat, Int32.reduceToInt, Int.reduceLT, Int.reduceLE, Int.reduceSub, Int.reduceToNat, Int.reduceAdd, Int.reduceNeg, Int32.reduceDiv, Int64.reduceAdd, Int64.reduceSub, lg_cmp_ge, lg_cmp_le, lg_cmp_gt, lg_cmp_lt, lg_cmp_eq, wlt_t, wlt_f, wle_t, wle_f, wmod, wI_lt, wI_le, wI_eq, wI_neg, wI_pos, wI_cl, wI_ge, wI_po, w64_lt, w64_le, w64_eq, w64_lt0, w64_le0, w64_eq0, w64_32, zc317, zc319, wI_add, wI_a1, wI_s1, wI_e0, wI_m8, wI_m128, wI_m64, wI_m190, not_true_eq_false, not_false_eq_true, sP_649_0 hS, sP_649_5 hS, sP_649_6 hS, sP_819_0 hS, sP_819_1 hS, sP_819_2 hS, sP_819_3 hS, sP_819_4 hS, sP_819_5 hS, sP_819_6 hS, sP_819_7 hS, sN_784 hS, sN_819 hS, sN_6417 hS]
    refine e97 (f := zWi Z (zWi Z 0 2) i + 1) (m := 2) (nt := b + 4 * i + 1) hS g1.2.1.1 (by omega) (by omega) (fun I2 J2 hr => ?_)
    obtain ⟨g2, e2⟩ := yRw_g (bt := bt) (d := ysub (zWi Z (zWi Z 0 2) i + 1) (K, F, C, T, Z, L, Y)) (m := 2) zk (by omega) hr (yEt_g g1 (show zWi Z (zWi Z 0 2) i + 1 + Z (zWi Z (zWi Z 0 2) i + 1) ≤ b + 4 * i by omega) (yEt_g g (show zWi Z (zWi Z 0 2) i + 1 + Z (zWi Z (zWi Z 0 2) i + 1) ≤ b by omega) (yEt_s he (show zWi Z (zWi Z 0 2) i + 1 + Z (zWi Z (zWi Z 0 2) i + 1) ≤ K by omega))))
    have h3 := zHas_n g2 (by omega) h2
    obtain ⟨p0, co, rows⟩ := zVa_co hS h3 hi2
    have p23 := fun (Q : Option Value → zS → Prop) => m23 (J := J2) (n := n) (z := z) (p := 0) (x := 0) co Q
    rw [zAm_cg (fun j hj => ⟨(rows j hj).1, (rows j hj).2.1⟩) (fun j hj => (rows j hj).2.2)] at p23
    have p23 : ∀ Q, zC 23 [.ref (1089 + 128 * i), .int 0, .long 0] (I2, J2, P, N, n, z) Q = Q (some (.long (yba T C Z i))) (I2, J2, P, N, n, z) := p23
    have q90 := fun (Q : Option Value → zS → Prop) => m90 (I := I2) (J := J2) (n := n) (z := z) (tp := b + 4 * i + 1 + 2) (x := yba T C Z i) hS (by omega) g2.2.1.1 Q
    have g3 := yNg_a (I := I2) (J := J2) (nt := b + 4 * i + 1 + 2) (q := 0) (ct := 0) (pl := 0) (nm := yba T C Z i)
    have k3 := yEt_i (I := I2) (J := J2) (bt := bt) (nt := b + 4 * i + 1 + 2) (x := yba T C Z i) (pl := 0)
    obtain ⟨I3, hI3⟩ : ∃ I3, I3 = zAd I2 (b + 4 * i + 1 + 2) 0 0 0 := ⟨_, rfl⟩
    obtain ⟨J3, hJ3⟩ : ∃ J3, J3 = zu J2 209 (b + 4 * i + 1 + 2) (yba T C Z i) := ⟨_, rfl⟩
    rw [← hI3, ← hJ3] at q90 g3 k3
    have q91 := fun (Q : Option Value → zS → Prop) => m91 (I := I3) (J := J3) (n := n) (z := z) (b := b + 4 * i) hS g3.2.1.1 (by omega) (by omega) Q
    rw [show b + 4 * i + 1 + 2 + 1 - (b + 4 * i) = 4 by omega] at q91
    have rm : (1089 + 128 * i) % 32 = 1 := by omega
    have gt := yNg_t g2 g3
    have oh := gt.2.2 (b + 4 * i) (by omega)
    have row : yEl (yEc I3 J3 bt) (b + 4 * i + 1) [ysub (zWi Z (zWi Z 0 2) i + 1) (K, F, C, T, Z, L, Y), yint (yba T C Z i)] := by
      refine ⟨yEt_g g3 (show b + 4 * i + 1 + Z (zWi Z (zWi Z 0 2) i + 1) ≤ _ by omega) e2, ?_, trivial⟩
      show yEt _ (b + 4 * i + 1 + Z (zWi Z (zWi Z 0 2) i + 1)) _
      rw [zk]
      exact k3
    have coin : yEt (yEc (zu I3 144 (b + 4 * i) (nI 4)) J3 bt) (b + 4 * i) (ypd (K, F, C, T, Z, L, Y) Z (yba T C Z) i) := by
      refine yas_at (fun y => ⟨?_, ?_, ?_, ?_, fun h => by cases h⟩) (yEl_e (Nat.lt_succ_self _) row)
      · rw [zuR_ne (by decide), oh.1, o1.1]; rfl
      · rw [zuR_ne (by decide), oh.2.1, o1.2.1]; rfl
      · rw [zu_at]
        show nI 4 = nI (1 + (Z (zWi Z (zWi Z 0 2) i + 1) + (1 + 0)))
        rw [zk]
      · rw [oh.2.2.2.2, oj]
    have gn : yNg I J (zu I3 144 (b + 4 * i) (nI 4)) J3 (b + 4 * i) (b + 4 * (i + 1)) := by
      have := yNg_e (v := nI 4) (yNg_t g1 gt)
      rw [show b + 4 * i + 1 + 2 + 1 = b + 4 * (i + 1) by omega] at this
      exact this
    have q := ih (i + 1) (zu I3 144 (b + 4 * i) (nI 4)) J3 (some (.int (nI (b + 4 * i)))) (by omega) (yNg_t g gn) (fun k hk' => by
      by_cases hki : k = i
      · subst hki; exact coin
      · refine yEt_g gn ?_ (hk k (by omega))
        rw [ypd_1 (zz k (by omega)).1]
        omega)
    simp (decide := true) (disch := omega) only [p0, p23, q90, q91, rm, zi148, zt148, zo148_0, zy_ldI, zy_ldL, zy_ldA, zy_stI, zy_stL, zy_stA, zy_cI, zy_cL, zy_nul, zy_inc, zy_bI, zy_bL, zy_sL, zy_un, zy_cmp, zy_dup, zy_dup2, zy_pop, zy_pop2, zy_jn, zy_jnn, zy_go, zy_fal, zy_tsw, zy_lsw, zy_get, zy_put, zy_ald, zy_ast, zy_len, zy_newa, zy_new, zy_cal, zy_ret, zy_tak, zy_cst, zy_acp, zy_oini, zy_cln, zy_thr, zy_bad, zy_lco, zy_if0, zy_ic0, zy_if1, zy_ic1, zy_if2, zy_ic2, zy_if3, zy_ic3, zy_if4, zy_ic4, zy_if5, zy_ic5, zK_go, zK_to, zK_end, zK_callH, zK_iteC, zK_none, zsLd, zsSt, zsInc, zsBI, zsBL, zsSL, zsUn, zsCmp, zsDup, zsDup2, zsPop, zsPop2, zsJn, zsTsw, zsLsw, zsGet, zsPut, zsAld, zsAst, zsLen, zsNewa, zsCal, zsRet, zsCst, zsAcp, zsOini, zsCln, zsLco, zsThr, zxBI, zxBL, zxSL, zxU, zset1, zset2, zclr, zcat, zmake_mk, zcomp, zH_i, zH_l, zH_r, zH_u, zH_n, List.set_cons_zero, List.set_cons_succ, List.getElem?_cons_zero, List.getElem?_cons_succ, List.length_cons, List.length_nil, List.take_succ_cons, List.take_zero, List.drop_succ_cons, List.drop_zero, List.reverse_cons, List.reverse_nil, List.nil_append, List.cons_append, List.map_cons, List.map_nil, List.sum_cons, List.sum_nil, Option.toList_some, Option.toList_none, Value.category, Nat.reduceAdd, Nat.reduceMul, Nat.reduceMod, Nat.reduceDiv, Nat.reduceSub, Nat.reduceLT, Nat.reduceLeDiff, Nat.reduceEqDiff, Nat.zero_le, Nat.le_refl, Int32.reduceToNatClampNeg, Int32.reduceLT, Int32.reduceLE, Int32.reduceAdd, Int32.reduceSub, Int32.reduceMul, ↓reduceIte, reduceCtorEq, Nat.add_zero, Nat.zero_add, true_or, or_true, false_or, or_false, true_and, and_true, false_and, and_false, not_true_eq_false, not_false_eq_true, if_true, if_false, true_implies, false_implies, implies_true, forall_const, false_imp_iff, true_imp_iff, va_rf, zlay, zent, List.replicate_zero, List.append_nil, List.replicate_succ, List.length_append, ne_eq, Option.some.injEq, Value.int.injEq, Value.long.injEq, Int32.reduceOfNat, Int32.reduceToInt, Int.reduceLT, Int.reduceLE, Int.reduceSub, Int.reduceToNat, Int.reduceAdd, Int.reduceNeg, Int32.reduceDiv, Int64.reduceAdd, Int64.reduceSub, lg_cmp_ge, lg_cmp_le, lg_cmp_gt, lg_cmp_lt, lg_cmp_eq, wlt_t, wlt_f, wle_t, wle_f, wmod, wI_lt, wI_le, wI_eq, wI_neg, wI_pos, wI_cl, wI_ge, wI_po, w64_lt, w64_le, w64_eq, w64_lt0, w64_le0, w64_eq0, w64_32, zc317, zc319, wI_add, wI_a1, wI_s1, wI_e0, wI_m8, wI_m128, wI_m64, wI_m190, not_true_eq_false, not_false_eq_true, sP_649_0 hS, sP_649_5 hS, sP_649_6 hS, sP_819_0 hS, sP_819_1 hS, sP_819_2 hS, sP_819_3 hS, sP_819_4 hS, sP_819_5 hS, sP_819_6 hS, sP_819_7 hS, sN_784 hS, sN_819 hS, sN_6417 hS]
    exact q
set_option maxRecDepth 20000 in
theorem e148 (hS : zStat P N) (h : zHas I J F T C Z H X L K s) (hK : K ≤ nt) (hb : nt + 1 + 4 * C (zWi Z 0 2) ≤ 3000) (he : yEt (yEc I J bt) 0 (K, F, C, T, Z, L, Y)) (h7 : I 37 7 = nI nt) (hQ : yAp I J P N n z nt bt [yls (yPds (K, F, C, T, Z, L, Y) Z (yba T C Z) (C (zWi Z 0 2)))] Q) : zC 148 [.ref 649] (I, J, P, N, n, z) Q := by
  have cc := zTx_c h.2.2.2
  have zz := (zTx_z h.1 h.2.2.2).2.2.2.2
  have p127 := fun (Q : Option Value → zS → Prop) => m127 (n := n) (z := z) hS h Q
  have q89 := fun (Q : Option Value → zS → Prop) => m89l (I := I) (J := J) (n := n) (z := z) (tp := nt) (ct := nI (C (zWi Z 0 2))) (pl := 0) (nm := 0) hS (by omega) h7 Q
  have g1 := yNg_a (I := I) (J := J) (nt := nt) (q := 4) (ct := nI (C (zWi Z 0 2))) (pl := 0) (nm := 0)
  have o1 := zAd_at (I := I) (nt := nt) (q := 4) (ct := nI (C (zWi Z 0 2))) (pl := 0)
  have el : yll (yPds (K, F, C, T, Z, L, Y) Z (yba T C Z) (C (zWi Z 0 2))) = 4 * C (zWi Z 0 2) := yll_r _ (fun i hi => ypd_1 (zz i hi).1)
  have q := l148 (I0 := zAd I nt 4 (nI (C (zWi Z 0 2))) 0) (J0 := zu J 209 nt 0) (b := nt + 1) (lb := nt) (n := n) (z := z) (bt := bt) (Q := Q) hS (zHas_n g1 hK h) (by omega) (by omega) (yEt_g g1 (show 0 + K ≤ nt by omega) he) (Nat.lt_succ_self _) (fun I' J' u3 u4 g he => by
    have h7' := g.2.1.1
    have p91 := fun (Q : Option Value → zS → Prop) => m91 (I := I') (J := J') (n := n) (z := z) (b := nt) hS h7' (by omega) (by omega) Q
    have gt := yNg_e (v := nI (nt + 1 + 4 * C (zWi Z 0 2) - nt)) (yNg_t g1 g)
    have oh := g.2.2 nt (Nat.lt_succ_self _)
    have q := hQ (zu I' 144 nt (nI (nt + 1 + 4 * C (zWi Z 0 2) - nt))) J' (by
      rw [show nt + yll [yls (yPds (K, F, C, T, Z, L, Y) Z (yba T C Z) (C (zWi Z 0 2)))] = nt + 1 + 4 * C (zWi Z 0 2) by
        show nt + ((yls (yPds (K, F, C, T, Z, L, Y) Z (yba T C Z) (C (zWi Z 0 2)))).1 + 0) = _
        rw [(yls_0 _).1, el]
        omega]
      exact gt) ⟨yls_at (fun y => ⟨?_, ?_, ?_, ?_, fun h => by cases h⟩) (yEl_e (Nat.lt_succ_self _) he), trivial⟩
    · rw [zo148_2]
      simp (decide := true) (disch := omega) only [p91, zi148, zt148, zo148_0, zo148_1, zy_ldI, zy_ldL, zy_ldA, zy_stI, zy_stL, zy_stA, zy_cI, zy_cL, zy_nul, zy_inc, zy_bI, zy_bL, zy_sL, zy_un, zy_cmp, zy_dup, zy_dup2, zy_pop, zy_pop2, zy_jn, zy_jnn, zy_go, zy_fal, zy_tsw, zy_lsw, zy_get, zy_put, zy_ald, zy_ast, zy_len, zy_newa, zy_new, zy_cal, zy_ret, zy_tak, zy_cst, zy_acp, zy_oini, zy_cln, zy_thr, zy_bad, zy_lco, zy_if0, zy_ic0, zy_if1, zy_ic1, zy_if2, zy_ic2, zy_if3, zy_ic3, zy_if4, zy_ic4, zy_if5, zy_ic5, zK_go, zK_to, zK_end, zK_callH, zK_iteC, zK_none, zsLd, zsSt, zsInc, zsBI, zsBL, zsSL, zsUn, zsCmp, zsDup, zsDup2, zsPop, zsPop2, zsJn, zsTsw, zsLsw, zsGet, zsPut, zsAld, zsAst, zsLen, zsNewa, zsCal, zsRet, zsCst, zsAcp, zsOini, zsCln, zsLco, zsThr, zxBI, zxBL, zxSL, zxU, zset1, zset2, zclr, zcat, zmake_mk, zcomp, zH_i, zH_l, zH_r, zH_u, zH_n, List.set_cons_zero, List.set_cons_succ, List.getElem?_cons_zero, List.getElem?_cons_succ, List.length_cons, List.length_nil, List.take_succ_cons, List.take_zero, List.drop_succ_cons, List.drop_zero, List.reverse_cons, List.reverse_nil, List.nil_append, List.cons_append, List.map_cons, List.map_nil, List.sum_cons, List.sum_nil, Option.toList_some, Option.toList_none, Value.category, Nat.reduceAdd, Nat.reduceMul, Nat.reduceMod, Nat.reduceDiv, Nat.reduceSub, Nat.reduceLT, Nat.reduceLeDiff, Nat.reduceEqDiff, Nat.zero_le, Nat.le_refl, Int32.reduceToNatClampNeg, Int32.reduceLT, Int32.reduceLE, Int32.reduceAdd, Int32.reduceSub, Int32.reduceMul, ↓reduceIte, reduceCtorEq, Nat.add_zero, Nat.zero_add, true_or, or_true, false_or, or_false, true_and, and_true, false_and, and_false, not_true_eq_false, not_false_eq_true, if_true, if_false, true_implies, false_implies, implies_true, forall_const, false_imp_iff, true_imp_iff, va_rf, zlay, zent, List.replicate_zero, List.append_nil, List.replicate_succ, List.length_append, ne_eq, Option.some.injEq, Value.int.injEq, Value.long.injEq, Int32.reduceOfNat, Int32.reduceToInt, Int.reduceLT, Int.reduceLE, Int.reduceSub, Int.reduceToNat, Int.reduceAdd, Int.reduceNeg, Int32.reduceDiv, Int64.reduceAdd, Int64.reduceSub, lg_cmp_ge, lg_cmp_le, lg_cmp_gt, lg_cmp_lt, lg_cmp_eq, wlt_t, wlt_f, wle_t, wle_f, wmod, wI_lt, wI_le, wI_eq, wI_neg, wI_pos, wI_cl, wI_ge, wI_po, w64_lt, w64_le, w64_eq, w64_lt0, w64_le0, w64_eq0, w64_32, zc317, zc319, wI_add, wI_a1, wI_s1, wI_e0, wI_m8, wI_m128, wI_m64, wI_m190, not_true_eq_false, not_false_eq_true, sP_649_0 hS, sP_649_5 hS, sP_649_6 hS, sP_819_0 hS, sP_819_1 hS, sP_819_2 hS, sP_819_3 hS, sP_819_4 hS, sP_819_5 hS, sP_819_6 hS, sP_819_7 hS, sN_784 hS, sN_819 hS, sN_6417 hS]
      exact q
    · rw [zuR_ne (by decide), oh.1, o1.1]; rfl
    · rw [zuR_ne (by decide), oh.2.1, o1.2.1]
      unfold yPds
      rw [List.length_map, List.length_range]
    · rw [zu_at, el]
      congr 1
      omega
    · rw [oh.2.2.2.2, zu_at]) (C (zWi Z 0 2)) 0 (zAd I nt 4 (nI (C (zWi Z 0 2))) 0) (zu J 209 nt 0) none (by omega) (yNg_r o1.2.2.2) (fun k hk => by omega)
  simp (decide := true) (disch := omega) only [p127, q89, zi148, zt148, zo148_0, zo148_2, zy_ldI, zy_ldL, zy_ldA, zy_stI, zy_stL, zy_stA, zy_cI, zy_cL, zy_nul, zy_inc, zy_bI, zy_bL, zy_sL, zy_un, zy_cmp, zy_dup, zy_dup2, zy_pop, zy_pop2, zy_jn, zy_jnn, zy_go, zy_fal, zy_tsw, zy_lsw, zy_get, zy_put, zy_ald, zy_ast, zy_len, zy_newa, zy_new, zy_cal, zy_ret, zy_tak, zy_cst, zy_acp, zy_oini, zy_cln, zy_thr, zy_bad, zy_lco, zy_if0, zy_ic0, zy_if1, zy_ic1, zy_if2, zy_ic2, zy_if3, zy_ic3, zy_if4, zy_ic4, zy_if5, zy_ic5, zK_go, zK_to, zK_end, zK_callH, zK_iteC, zK_none, zsLd, zsSt, zsInc, zsBI, zsBL, zsSL, zsUn, zsCmp, zsDup, zsDup2, zsPop, zsPop2, zsJn, zsTsw, zsLsw, zsGet, zsPut, zsAld, zsAst, zsLen, zsNewa, zsCal, zsRet, zsCst, zsAcp, zsOini, zsCln, zsLco, zsThr, zxBI, zxBL, zxSL, zxU, zset1, zset2, zclr, zcat, zmake_mk, zcomp, zH_i, zH_l, zH_r, zH_u, zH_n, List.set_cons_zero, List.set_cons_succ, List.getElem?_cons_zero, List.getElem?_cons_succ, List.length_cons, List.length_nil, List.take_succ_cons, List.take_zero, List.drop_succ_cons, List.drop_zero, List.reverse_cons, List.reverse_nil, List.nil_append, List.cons_append, List.map_cons, List.map_nil, List.sum_cons, List.sum_nil, Option.toList_some, Option.toList_none, Value.category, Nat.reduceAdd, Nat.reduceMul, Nat.reduceMod, Nat.reduceDiv, Nat.reduceSub, Nat.reduceLT, Nat.reduceLeDiff, Nat.reduceEqDiff, Nat.zero_le, Nat.le_refl, Int32.reduceToNatClampNeg, Int32.reduceLT, Int32.reduceLE, Int32.reduceAdd, Int32.reduceSub, Int32.reduceMul, ↓reduceIte, reduceCtorEq, Nat.add_zero, Nat.zero_add, true_or, or_true, false_or, or_false, true_and, and_true, false_and, and_false, not_true_eq_false, not_false_eq_true, if_true, if_false, true_implies, false_implies, implies_true, forall_const, false_imp_iff, true_imp_iff, va_rf, zlay, zent, List.replicate_zero, List.append_nil, List.replicate_succ, List.length_append, ne_eq, Option.some.injEq, Value.int.injEq, Value.long.injEq, Int32.reduceOfNat, Int32.reduceToInt, Int.reduceLT, Int.reduceLE, Int.reduceSub, Int.reduceToNat, Int.reduceAdd, Int.reduceNeg, Int32.reduceDiv, Int64.reduceAdd, Int64.reduceSub, lg_cmp_ge, lg_cmp_le, lg_cmp_gt, lg_cmp_lt, lg_cmp_eq, wlt_t, wlt_f, wle_t, wle_f, wmod, wI_lt, wI_le, wI_eq, wI_neg, wI_pos, wI_cl, wI_ge, wI_po, w64_lt, w64_le, w64_eq, w64_lt0, w64_le0, w64_eq0, w64_32, zc317, zc319, wI_add, wI_a1, wI_s1, wI_e0, wI_m8, wI_m128, wI_m64, wI_m190, not_true_eq_false, not_false_eq_true, sP_649_0 hS, sP_649_5 hS, sP_649_6 hS, sP_819_0 hS, sP_819_1 hS, sP_819_2 hS, sP_819_3 hS, sP_819_4 hS, sP_819_5 hS, sP_819_6 hS, sP_819_7 hS, sN_784 hS, sN_819 hS, sN_6417 hS]
  exact q
/-- the CONTEXT -/
def yCxl (D : yD) (Z : Nat → Nat) (sp pd : List yD) (x y : Int64) : List yD := [yint x, yint y, ysub (zWi Z 0 3) D, ysub (zWi Z 0 4) D, ysub (zWi Z 0 7) D, ysub (zWi Z 0 5) D, yls sp, yls pd]
def yCx (D : yD) (Z : Nat → Nat) (sp pd : List yD) (x y : Int64) : yD := yas 6 0 (yls (yCxl D Z sp pd x y))
theorem yCx_n {po : Nat → Int32} {nm am : Nat → Int64} {w : Nat} {ba : Nat → Int64} {x y : Int64} (D : zDt F C Z L K) (t : zTx F T C Z H s) : 1 + yll (yCxl (K, F, C, T, Z, L, Y) Z (ySp po nm am w) (yPds (K, F, C, T, Z, L, Y) Z ba (C (zWi Z 0 2))) x y) = zCtn C Z w := by
  obtain ⟨z3, z4, z5, z7, zz⟩ := zTx_z D t
  have e1 : yll (ySp po nm am w) = 4 * w := yll_r w (fun i _ => rfl)
  have e2 : yll (yPds (K, F, C, T, Z, L, Y) Z ba (C (zWi Z 0 2))) = 4 * C (zWi Z 0 2) := yll_r _ (fun i hi => ypd_1 (zz i hi).1)
  show 1 + (1 + (1 + (Z (zWi Z 0 3) + (Z (zWi Z 0 4) + (Z (zWi Z 0 7) + (Z (zWi Z 0 5) + ((yls _).1 + ((yls _).1 + 0)))))))) = _
  rw [(yls_0 _).1, (yls_0 _).1, e1, e2, z3, z4, z5, z7]
  unfold zCtn
  omega
set_option maxRecDepth 20000 in
set_option maxHeartbeats 4000000 in
theorem e144 {w : Nat} (hS : zStat P N) (h : zHas I J F T C Z H X L K s) (hK : K ≤ nt) (hn : nt ≤ 200) (he : yEt (yEc I J bt) 0 (K, F, C, T, Z, L, Y)) (h7 : I 37 7 = nI nt) (hw : w ≤ 64) (hw3 : I 2273 3 = nI w)
    (hQ : ∀ I' J', yNg (zu I 649 13 (nI nt)) J I' J' nt (nt + zCtn C Z w) → (∀ y, yEc I' J' bt nt 6 8 0 (zCtn C Z w) y) → yEl (yEc I' J' bt) (nt + 1) (yCxl (K, F, C, T, Z, L, Y) Z (ySp (I 2320) (J 2353) (J 2385) w) (yPds (K, F, C, T, Z, L, Y) Z (yba T C Z) (C (zWi Z 0 2))) 0 0) → Q none (I', J', P, N, n, z)) : zC 144 [.ref 649, .ref 2273] (I, J, P, N, n, z) Q := by
  have cc := zTx_c h.2.2.2
  have hD := h.1.1
  obtain ⟨z3, z4, z5, z7, zz⟩ := zTx_z h.1 h.2.2.2
  have fk := zTx_f h.1 h.2.2.2
  have fz : ∀ i, i < 8 → zWi Z 0 i + Z (zWi Z 0 i) ≤ K := fun i hi => (h.1.2 _ (fk i hi)).1.2
  have q89 := fun (Q : Option Value → zS → Prop) => m89k (I := I) (J := J) (n := n) (z := z) (tp := nt) (ct := 8) (pl := 0) (nm := 0) hS (by omega) h7 Q
  obtain ⟨I0, hI0⟩ : ∃ I0, I0 = zu I 649 13 (nI nt) := ⟨_, rfl⟩
  have e0 : zu (zAd I nt 6 8 0) 649 13 (nI nt) = zAd I0 nt 6 8 0 := by
    rw [hI0]
    funext c j
    unfold zAd zu
    by_cases h : c = 649 ∧ j = 13
    · rw [if_pos h, if_neg (by omega), if_neg (by omega), if_neg (by omega), if_neg (by omega), if_neg (by omega), if_pos h]
    · rw [if_neg h, if_neg h]
  have fr : ∀ c, c ≠ 649 → I0 c = I c := fun c hc => by rw [hI0, zuR_ne hc]
  have h0 : zHas I0 J F T C Z H X L K s := zHas_y (fun c x1 x2 => ⟨fr c (by omega), rfl⟩) (by rw [hI0, zu_nj (by decide)]) (fun j _ => ⟨by rw [fr 79 (by decide)], by rw [fr 112 (by decide)], by rw [fr 144 (by decide)], by rw [fr 176 (by decide)], rfl⟩) h
  have he0 : yEt (yEc I0 J bt) 0 (K, F, C, T, Z, L, Y) := yEt_m (fun p f c t zz y _ _ => by
    unfold yEc
    rw [fr 79 (by decide), fr 112 (by decide), fr 144 (by decide), fr 176 (by decide), fr 239 (by decide)]
    exact id) he
  have g1 := yNg_a (I := I0) (J := J) (nt := nt) (q := 6) (ct := 8) (pl := 0) (nm := 0)
  have o1 := zAd_at (I := I0) (nt := nt) (q := 6) (ct := 8) (pl := 0)
  obtain ⟨I1, hI1⟩ : ∃ I1, I1 = zAd I0 nt 6 8 0 := ⟨_, rfl⟩
  obtain ⟨J1, hJ1⟩ : ∃ J1, J1 = zu J 209 nt 0 := ⟨_, rfl⟩
  have oj : J1 209 nt = 0 := by rw [hJ1, zu_at]
  have c13 : I1 649 13 = nI nt := by rw [hI1]; unfold zAd; rw [zuR_ne (by decide), zuR_ne (by decide), zuR_ne (by decide), zuR_ne (by decide), zuR_ne (by decide), hI0, zu_at]
  rw [← hI1] at e0 g1 o1
  rw [← hJ1] at g1 q89
  have q90a := fun (Q : Option Value → zS → Prop) => m90 (I := I1) (J := J1) (n := n) (z := z) (tp := nt + 1) (x := 0) hS (by omega) g1.2.1.1 Q
  have g2 := yNg_a (I := I1) (J := J1) (nt := nt + 1) (q := 0) (ct := 0) (pl := 0) (nm := 0)
  have k2 := yEt_i (I := I1) (J := J1) (bt := bt) (nt := nt + 1) (x := 0) (pl := 0)
  obtain ⟨I2, hI2⟩ : ∃ I2, I2 = zAd I1 (nt + 1) 0 0 0 := ⟨_, rfl⟩
  obtain ⟨J2, hJ2⟩ : ∃ J2, J2 = zu J1 209 (nt + 1) 0 := ⟨_, rfl⟩
  rw [← hI2, ← hJ2] at q90a g2 k2
  have q90b := fun (Q : Option Value → zS → Prop) => m90 (I := I2) (J := J2) (n := n) (z := z) (tp := nt + 1 + 1) (x := 0) hS (by omega) g2.2.1.1 Q
  have g3 := yNg_a (I := I2) (J := J2) (nt := nt + 1 + 1) (q := 0) (ct := 0) (pl := 0) (nm := 0)
  have k3 := yEt_i (I := I2) (J := J2) (bt := bt) (nt := nt + 1 + 1) (x := 0) (pl := 0)
  obtain ⟨I3, hI3⟩ : ∃ I3, I3 = zAd I2 (nt + 1 + 1) 0 0 0 := ⟨_, rfl⟩
  obtain ⟨J3, hJ3⟩ : ∃ J3, J3 = zu J2 209 (nt + 1 + 1) 0 := ⟨_, rfl⟩
  rw [← hI3, ← hJ3] at q90b g3 k3
  have row3 : yEl (yEc I3 J3 bt) (nt + 1) [yint 0, yint 0] := ⟨yEt_g g3 (Nat.le_refl _) k2, k3, trivial⟩
  have ap : ∀ {I : zI} {J' : zJ} {I' : zI} {J'' : zJ} {ds : List yD} {d : yD}, yNg I0 J I J' nt (nt + 1 + yll ds) → yEl (yEc I J' bt) (nt + 1) ds → yNg I J' I' J'' (nt + 1 + yll ds) (nt + 1 + yll ds + yll [d]) → yEl (yEc I' J'' bt) (nt + 1 + yll ds) [d] → yNg I0 J I' J'' nt (nt + 1 + yll (ds ++ [d])) ∧ yEl (yEc I' J'' bt) (nt + 1) (ds ++ [d]) := fun {I J' I' J'' ds d} a1 a2 a3 a4 => by
    rw [yll_a, ← Nat.add_assoc]
    exact ⟨yNg_t a1 a3, yEl_a ds [d] _ (yEl_g a3 (Nat.le_refl _) a2) a4⟩
  have g13 := yNg_t g1 (yNg_t g2 g3)
  have fld : ∀ (I' : zI) (J' : zJ) (x : Nat), yNg I0 J I' J' nt x → ∀ i, i < 8 → I' 688 i = nI (zWi Z 0 i) ∧ I' 144 (zWi Z 0 i) = nI (Z (zWi Z 0 i)) := fun I' J' x g i hi => by
    have q := zHas_n g hK h0
    have v := (q.2.1 _ (fk i hi)).2.2.1
    rw [Nat.zero_add] at v
    exact ⟨q.2.2.1.1.1 i hi, v⟩
  simp (decide := true) (disch := omega) only [q89, e0, q90a, q90b, zi144, zt144, zo144_0, zy_ldI, zy_ldL, zy_ldA, zy_stI, zy_stL, zy_stA, zy_cI, zy_cL, zy_nul, zy_inc, zy_bI, zy_bL, zy_sL, zy_un, zy_cmp, zy_dup, zy_dup2, zy_pop, zy_pop2, zy_jn, zy_jnn, zy_go, zy_fal, zy_tsw, zy_lsw, zy_get, zy_put, zy_ald, zy_ast, zy_len, zy_newa, zy_new, zy_cal, zy_ret, zy_tak, zy_cst, zy_acp, zy_oini, zy_cln, zy_thr, zy_bad, zy_lco, zy_if0, zy_ic0, zy_if1, zy_ic1, zy_if2, zy_ic2, zy_if3, zy_ic3, zy_if4, zy_ic4, zy_if5, zy_ic5, zK_go, zK_to, zK_end, zK_callH, zK_iteC, zK_none, zsLd, zsSt, zsInc, zsBI, zsBL, zsSL, zsUn, zsCmp, zsDup, zsDup2, zsPop, zsPop2, zsJn, zsTsw, zsLsw, zsGet, zsPut, zsAld, zsAst, zsLen, zsNewa, zsCal, zsRet, zsCst, zsAcp, zsOini, zsCln, zsLco, zsThr, zxBI, zxBL, zxSL, zxU, zset1, zset2, zclr, zcat, zmake_mk, zcomp, zH_i, zH_l, zH_r, zH_u, zH_n, List.set_cons_zero, List.set_cons_succ, List.getElem?_cons_zero, List.getElem?_cons_succ, List.length_cons, List.length_nil, List.take_succ_cons, List.take_zero, List.drop_succ_cons, List.drop_zero, List.reverse_cons, List.reverse_nil, List.nil_append, List.cons_append, List.map_cons, List.map_nil, List.sum_cons, List.sum_nil, Option.toList_some, Option.toList_none, Value.category, Nat.reduceAdd, Nat.reduceMul, Nat.reduceMod, Nat.reduceDiv, Nat.reduceSub, Nat.reduceLT, Nat.reduceLeDiff, Nat.reduceEqDiff, Nat.zero_le, Nat.le_refl, Int32.reduceToNatClampNeg, Int32.reduceLT, Int32.reduceLE, Int32.reduceAdd, Int32.reduceSub, Int32.reduceMul, ↓reduceIte, reduceCtorEq, Nat.add_zero, Nat.zero_add, true_or, or_true, false_or, or_false, true_and, and_true, false_and, and_false, not_true_eq_false, not_false_eq_true, if_true, if_false, true_implies, false_implies, implies_true, forall_const, false_imp_iff, true_imp_iff, va_rf, zlay, zent, List.replicate_zero, List.append_nil, List.replicate_succ, List.length_append, ne_eq, Option.some.injEq, Value.int.injEq, Value.long.injEq, Int32.reduceOfNat, Int32.reduceToInt, Int.reduceLT, Int.reduceLE, Int.reduceSub, Int.reduceToNat, Int.reduceAdd, Int.reduceNeg, Int32.reduceDiv, Int64.reduceAdd, Int64.reduceSub, lg_cmp_ge, lg_cmp_le, lg_cmp_gt, lg_cmp_lt, lg_cmp_eq, wlt_t, wlt_f, wle_t, wle_f, wmod, wI_lt, wI_le, wI_eq, wI_neg, wI_pos, wI_cl, wI_ge, wI_po, w64_lt, w64_le, w64_eq, w64_lt0, w64_le0, w64_eq0, w64_32, zc317, zc319, wI_add, wI_a1, wI_s1, wI_e0, wI_m8, wI_m128, wI_m64, wI_m190, not_true_eq_false, not_false_eq_true, sP_649_0 hS, sN_6417 hS]
  have g13 : yNg I0 J I3 J3 nt (nt + 1 + yll [yint 0, yint 0]) := g13
  have r3 := row3
  obtain ⟨f3, s3⟩ := fld I3 J3 _ g13 3 (by omega)
  have l3 : yll ([yint 0, yint 0]) = 1 + (1 + 0) := rfl
  refine e145 (F := F) (C := C) (T := T) (Z := Z) (L := L) (Y := Y) (K := K) (bt := bt) (nt := nt + 1 + yll ([yint 0, yint 0])) hS (i := 3) (by omega) rfl f3 s3 (fz 3 (by omega)) (by omega) (by omega) g13.2.1.1 (yEt_g g13 (show 0 + K ≤ nt by omega) he0) (fun I4 J4 g4 e4 => ?_)
  obtain ⟨g14, r4⟩ := ap g13 r3 g4 e4
  simp (decide := true) (disch := omega) only [zi144, zt144, zo144_0, zy_ldI, zy_ldL, zy_ldA, zy_stI, zy_stL, zy_stA, zy_cI, zy_cL, zy_nul, zy_inc, zy_bI, zy_bL, zy_sL, zy_un, zy_cmp, zy_dup, zy_dup2, zy_pop, zy_pop2, zy_jn, zy_jnn, zy_go, zy_fal, zy_tsw, zy_lsw, zy_get, zy_put, zy_ald, zy_ast, zy_len, zy_newa, zy_new, zy_cal, zy_ret, zy_tak, zy_cst, zy_acp, zy_oini, zy_cln, zy_thr, zy_bad, zy_lco, zy_if0, zy_ic0, zy_if1, zy_ic1, zy_if2, zy_ic2, zy_if3, zy_ic3, zy_if4, zy_ic4, zy_if5, zy_ic5, zK_go, zK_to, zK_end, zK_callH, zK_iteC, zK_none, zsLd, zsSt, zsInc, zsBI, zsBL, zsSL, zsUn, zsCmp, zsDup, zsDup2, zsPop, zsPop2, zsJn, zsTsw, zsLsw, zsGet, zsPut, zsAld, zsAst, zsLen, zsNewa, zsCal, zsRet, zsCst, zsAcp, zsOini, zsCln, zsLco, zsThr, zxBI, zxBL, zxSL, zxU, zset1, zset2, zclr, zcat, zmake_mk, zcomp, zH_i, zH_l, zH_r, zH_u, zH_n, List.set_cons_zero, List.set_cons_succ, List.getElem?_cons_zero, List.getElem?_cons_succ, List.length_cons, List.length_nil, List.take_succ_cons, List.take_zero, List.drop_succ_cons, List.drop_zero, List.reverse_cons, List.reverse_nil, List.nil_append, List.cons_append, List.map_cons, List.map_nil, List.sum_cons, List.sum_nil, Option.toList_some, Option.toList_none, Value.category, Nat.reduceAdd, Nat.reduceMul, Nat.reduceMod, Nat.reduceDiv, Nat.reduceSub, Nat.reduceLT, Nat.reduceLeDiff, Nat.reduceEqDiff, Nat.zero_le, Nat.le_refl, Int32.reduceToNatClampNeg, Int32.reduceLT, Int32.reduceLE, Int32.reduceAdd, Int32.reduceSub, Int32.reduceMul, ↓reduceIte, reduceCtorEq, Nat.add_zero, Nat.zero_add, true_or, or_true, false_or, or_false, true_and, and_true, false_and, and_false, not_true_eq_false, not_false_eq_true, if_true, if_false, true_implies, false_implies, implies_true, forall_const, false_imp_iff, true_imp_iff, va_rf, zlay, zent, List.replicate_zero, List.append_nil, List.replicate_succ, List.length_append, ne_eq, Option.some.injEq, Value.int.injEq, Value.long.injEq, Int32.reduceOfNat, Int32.reduceToInt, Int.reduceLT, Int.reduceLE, Int.reduceSub, Int.reduceToNat, Int.reduceAdd, Int.reduceNeg, Int32.reduceDiv, Int64.reduceAdd, Int64.reduceSub, lg_cmp_ge, lg_cmp_le, lg_cmp_gt, lg_cmp_lt, lg_cmp_eq, wlt_t, wlt_f, wle_t, wle_f, wmod, wI_lt, wI_le, wI_eq, wI_neg, wI_pos, wI_cl, wI_ge, wI_po, w64_lt, w64_le, w64_eq, w64_lt0, w64_le0, w64_eq0, w64_32, zc317, zc319, wI_add, wI_a1, wI_s1, wI_e0, wI_m8, wI_m128, wI_m64, wI_m190, not_true_eq_false, not_false_eq_true, sP_649_0 hS, sN_6417 hS]
  obtain ⟨f4, s4⟩ := fld I4 J4 _ g14 4 (by omega)
  have l4 : yll ([yint 0, yint 0] ++ [ysub (zWi Z 0 3) (K, F, C, T, Z, L, Y)]) = 1 + (1 + (Z (zWi Z 0 3) + 0)) := rfl
  refine e145 (F := F) (C := C) (T := T) (Z := Z) (L := L) (Y := Y) (K := K) (bt := bt) (nt := nt + 1 + yll ([yint 0, yint 0] ++ [ysub (zWi Z 0 3) (K, F, C, T, Z, L, Y)])) hS (i := 4) (by omega) rfl f4 s4 (fz 4 (by omega)) (by omega) (by omega) g14.2.1.1 (yEt_g g14 (show 0 + K ≤ nt by omega) he0) (fun I5 J5 g5 e5 => ?_)
  obtain ⟨g15, r5⟩ := ap g14 r4 g5 e5
  simp (decide := true) (disch := omega) only [zi144, zt144, zo144_0, zy_ldI, zy_ldL, zy_ldA, zy_stI, zy_stL, zy_stA, zy_cI, zy_cL, zy_nul, zy_inc, zy_bI, zy_bL, zy_sL, zy_un, zy_cmp, zy_dup, zy_dup2, zy_pop, zy_pop2, zy_jn, zy_jnn, zy_go, zy_fal, zy_tsw, zy_lsw, zy_get, zy_put, zy_ald, zy_ast, zy_len, zy_newa, zy_new, zy_cal, zy_ret, zy_tak, zy_cst, zy_acp, zy_oini, zy_cln, zy_thr, zy_bad, zy_lco, zy_if0, zy_ic0, zy_if1, zy_ic1, zy_if2, zy_ic2, zy_if3, zy_ic3, zy_if4, zy_ic4, zy_if5, zy_ic5, zK_go, zK_to, zK_end, zK_callH, zK_iteC, zK_none, zsLd, zsSt, zsInc, zsBI, zsBL, zsSL, zsUn, zsCmp, zsDup, zsDup2, zsPop, zsPop2, zsJn, zsTsw, zsLsw, zsGet, zsPut, zsAld, zsAst, zsLen, zsNewa, zsCal, zsRet, zsCst, zsAcp, zsOini, zsCln, zsLco, zsThr, zxBI, zxBL, zxSL, zxU, zset1, zset2, zclr, zcat, zmake_mk, zcomp, zH_i, zH_l, zH_r, zH_u, zH_n, List.set_cons_zero, List.set_cons_succ, List.getElem?_cons_zero, List.getElem?_cons_succ, List.length_cons, List.length_nil, List.take_succ_cons, List.take_zero, List.drop_succ_cons, List.drop_zero, List.reverse_cons, List.reverse_nil, List.nil_append, List.cons_append, List.map_cons, List.map_nil, List.sum_cons, List.sum_nil, Option.toList_some, Option.toList_none, Value.category, Nat.reduceAdd, Nat.reduceMul, Nat.reduceMod, Nat.reduceDiv, Nat.reduceSub, Nat.reduceLT, Nat.reduceLeDiff, Nat.reduceEqDiff, Nat.zero_le, Nat.le_refl, Int32.reduceToNatClampNeg, Int32.reduceLT, Int32.reduceLE, Int32.reduceAdd, Int32.reduceSub, Int32.reduceMul, ↓reduceIte, reduceCtorEq, Nat.add_zero, Nat.zero_add, true_or, or_true, false_or, or_false, true_and, and_true, false_and, and_false, not_true_eq_false, not_false_eq_true, if_true, if_false, true_implies, false_implies, implies_true, forall_const, false_imp_iff, true_imp_iff, va_rf, zlay, zent, List.replicate_zero, List.append_nil, List.replicate_succ, List.length_append, ne_eq, Option.some.injEq, Value.int.injEq, Value.long.injEq, Int32.reduceOfNat, Int32.reduceToInt, Int.reduceLT, Int.reduceLE, Int.reduceSub, Int.reduceToNat, Int.reduceAdd, Int.reduceNeg, Int32.reduceDiv, Int64.reduceAdd, Int64.reduceSub, lg_cmp_ge, lg_cmp_le, lg_cmp_gt, lg_cmp_lt, lg_cmp_eq, wlt_t, wlt_f, wle_t, wle_f, wmod, wI_lt, wI_le, wI_eq, wI_neg, wI_pos, wI_cl, wI_ge, wI_po, w64_lt, w64_le, w64_eq, w64_lt0, w64_le0, w64_eq0, w64_32, zc317, zc319, wI_add, wI_a1, wI_s1, wI_e0, wI_m8, wI_m128, wI_m64, wI_m190, not_true_eq_false, not_false_eq_true, sP_649_0 hS, sN_6417 hS]
  obtain ⟨f5, s5⟩ := fld I5 J5 _ g15 7 (by omega)
  have l5 : yll ([yint 0, yint 0] ++ [ysub (zWi Z 0 3) (K, F, C, T, Z, L, Y)] ++ [ysub (zWi Z 0 4) (K, F, C, T, Z, L, Y)]) = 1 + (1 + (Z (zWi Z 0 3) + (Z (zWi Z 0 4) + 0))) := rfl
  refine e145 (F := F) (C := C) (T := T) (Z := Z) (L := L) (Y := Y) (K := K) (bt := bt) (nt := nt + 1 + yll ([yint 0, yint 0] ++ [ysub (zWi Z 0 3) (K, F, C, T, Z, L, Y)] ++ [ysub (zWi Z 0 4) (K, F, C, T, Z, L, Y)])) hS (i := 7) (by omega) rfl f5 s5 (fz 7 (by omega)) (by omega) (by omega) g15.2.1.1 (yEt_g g15 (show 0 + K ≤ nt by omega) he0) (fun I6 J6 g6 e6 => ?_)
  obtain ⟨g16, r6⟩ := ap g15 r5 g6 e6
  simp (decide := true) (disch := omega) only [zi144, zt144, zo144_0, zy_ldI, zy_ldL, zy_ldA, zy_stI, zy_stL, zy_stA, zy_cI, zy_cL, zy_nul, zy_inc, zy_bI, zy_bL, zy_sL, zy_un, zy_cmp, zy_dup, zy_dup2, zy_pop, zy_pop2, zy_jn, zy_jnn, zy_go, zy_fal, zy_tsw, zy_lsw, zy_get, zy_put, zy_ald, zy_ast, zy_len, zy_newa, zy_new, zy_cal, zy_ret, zy_tak, zy_cst, zy_acp, zy_oini, zy_cln, zy_thr, zy_bad, zy_lco, zy_if0, zy_ic0, zy_if1, zy_ic1, zy_if2, zy_ic2, zy_if3, zy_ic3, zy_if4, zy_ic4, zy_if5, zy_ic5, zK_go, zK_to, zK_end, zK_callH, zK_iteC, zK_none, zsLd, zsSt, zsInc, zsBI, zsBL, zsSL, zsUn, zsCmp, zsDup, zsDup2, zsPop, zsPop2, zsJn, zsTsw, zsLsw, zsGet, zsPut, zsAld, zsAst, zsLen, zsNewa, zsCal, zsRet, zsCst, zsAcp, zsOini, zsCln, zsLco, zsThr, zxBI, zxBL, zxSL, zxU, zset1, zset2, zclr, zcat, zmake_mk, zcomp, zH_i, zH_l, zH_r, zH_u, zH_n, List.set_cons_zero, List.set_cons_succ, List.getElem?_cons_zero, List.getElem?_cons_succ, List.length_cons, List.length_nil, List.take_succ_cons, List.take_zero, List.drop_succ_cons, List.drop_zero, List.reverse_cons, List.reverse_nil, List.nil_append, List.cons_append, List.map_cons, List.map_nil, List.sum_cons, List.sum_nil, Option.toList_some, Option.toList_none, Value.category, Nat.reduceAdd, Nat.reduceMul, Nat.reduceMod, Nat.reduceDiv, Nat.reduceSub, Nat.reduceLT, Nat.reduceLeDiff, Nat.reduceEqDiff, Nat.zero_le, Nat.le_refl, Int32.reduceToNatClampNeg, Int32.reduceLT, Int32.reduceLE, Int32.reduceAdd, Int32.reduceSub, Int32.reduceMul, ↓reduceIte, reduceCtorEq, Nat.add_zero, Nat.zero_add, true_or, or_true, false_or, or_false, true_and, and_true, false_and, and_false, not_true_eq_false, not_false_eq_true, if_true, if_false, true_implies, false_implies, implies_true, forall_const, false_imp_iff, true_imp_iff, va_rf, zlay, zent, List.replicate_zero, List.append_nil, List.replicate_succ, List.length_append, ne_eq, Option.some.injEq, Value.int.injEq, Value.long.injEq, Int32.reduceOfNat, Int32.reduceToInt, Int.reduceLT, Int.reduceLE, Int.reduceSub, Int.reduceToNat, Int.reduceAdd, Int.reduceNeg, Int32.reduceDiv, Int64.reduceAdd, Int64.reduceSub, lg_cmp_ge, lg_cmp_le, lg_cmp_gt, lg_cmp_lt, lg_cmp_eq, wlt_t, wlt_f, wle_t, wle_f, wmod, wI_lt, wI_le, wI_eq, wI_neg, wI_pos, wI_cl, wI_ge, wI_po, w64_lt, w64_le, w64_eq, w64_lt0, w64_le0, w64_eq0, w64_32, zc317, zc319, wI_add, wI_a1, wI_s1, wI_e0, wI_m8, wI_m128, wI_m64, wI_m190, not_true_eq_false, not_false_eq_true, sP_649_0 hS, sN_6417 hS]
  obtain ⟨f6, s6⟩ := fld I6 J6 _ g16 5 (by omega)
  have l6 : yll ([yint 0, yint 0] ++ [ysub (zWi Z 0 3) (K, F, C, T, Z, L, Y)] ++ [ysub (zWi Z 0 4) (K, F, C, T, Z, L, Y)] ++ [ysub (zWi Z 0 7) (K, F, C, T, Z, L, Y)]) = 1 + (1 + (Z (zWi Z 0 3) + (Z (zWi Z 0 4) + (Z (zWi Z 0 7) + 0)))) := rfl
  refine e145 (F := F) (C := C) (T := T) (Z := Z) (L := L) (Y := Y) (K := K) (bt := bt) (nt := nt + 1 + yll ([yint 0, yint 0] ++ [ysub (zWi Z 0 3) (K, F, C, T, Z, L, Y)] ++ [ysub (zWi Z 0 4) (K, F, C, T, Z, L, Y)] ++ [ysub (zWi Z 0 7) (K, F, C, T, Z, L, Y)])) hS (i := 5) (by omega) rfl f6 s6 (fz 5 (by omega)) (by omega) (by omega) g16.2.1.1 (yEt_g g16 (show 0 + K ≤ nt by omega) he0) (fun I7 J7 g7 e7 => ?_)
  obtain ⟨g17, r7⟩ := ap g16 r6 g7 e7
  simp (decide := true) (disch := omega) only [zi144, zt144, zo144_0, zy_ldI, zy_ldL, zy_ldA, zy_stI, zy_stL, zy_stA, zy_cI, zy_cL, zy_nul, zy_inc, zy_bI, zy_bL, zy_sL, zy_un, zy_cmp, zy_dup, zy_dup2, zy_pop, zy_pop2, zy_jn, zy_jnn, zy_go, zy_fal, zy_tsw, zy_lsw, zy_get, zy_put, zy_ald, zy_ast, zy_len, zy_newa, zy_new, zy_cal, zy_ret, zy_tak, zy_cst, zy_acp, zy_oini, zy_cln, zy_thr, zy_bad, zy_lco, zy_if0, zy_ic0, zy_if1, zy_ic1, zy_if2, zy_ic2, zy_if3, zy_ic3, zy_if4, zy_ic4, zy_if5, zy_ic5, zK_go, zK_to, zK_end, zK_callH, zK_iteC, zK_none, zsLd, zsSt, zsInc, zsBI, zsBL, zsSL, zsUn, zsCmp, zsDup, zsDup2, zsPop, zsPop2, zsJn, zsTsw, zsLsw, zsGet, zsPut, zsAld, zsAst, zsLen, zsNewa, zsCal, zsRet, zsCst, zsAcp, zsOini, zsCln, zsLco, zsThr, zxBI, zxBL, zxSL, zxU, zset1, zset2, zclr, zcat, zmake_mk, zcomp, zH_i, zH_l, zH_r, zH_u, zH_n, List.set_cons_zero, List.set_cons_succ, List.getElem?_cons_zero, List.getElem?_cons_succ, List.length_cons, List.length_nil, List.take_succ_cons, List.take_zero, List.drop_succ_cons, List.drop_zero, List.reverse_cons, List.reverse_nil, List.nil_append, List.cons_append, List.map_cons, List.map_nil, List.sum_cons, List.sum_nil, Option.toList_some, Option.toList_none, Value.category, Nat.reduceAdd, Nat.reduceMul, Nat.reduceMod, Nat.reduceDiv, Nat.reduceSub, Nat.reduceLT, Nat.reduceLeDiff, Nat.reduceEqDiff, Nat.zero_le, Nat.le_refl, Int32.reduceToNatClampNeg, Int32.reduceLT, Int32.reduceLE, Int32.reduceAdd, Int32.reduceSub, Int32.reduceMul, ↓reduceIte, reduceCtorEq, Nat.add_zero, Nat.zero_add, true_or, or_true, false_or, or_false, true_and, and_true, false_and, and_false, not_true_eq_false, not_false_eq_true, if_true, if_false, true_implies, false_implies, implies_true, forall_const, false_imp_iff, true_imp_iff, va_rf, zlay, zent, List.replicate_zero, List.append_nil, List.replicate_succ, List.length_append, ne_eq, Option.some.injEq, Value.int.injEq, Value.long.injEq, Int32.reduceOfNat, Int32.reduceToInt, Int.reduceLT, Int.reduceLE, Int.reduceSub, Int.reduceToNat, Int.reduceAdd, Int.reduceNeg, Int32.reduceDiv, Int64.reduceAdd, Int64.reduceSub, lg_cmp_ge, lg_cmp_le, lg_cmp_gt, lg_cmp_lt, lg_cmp_eq, wlt_t, wlt_f, wle_t, wle_f, wmod, wI_lt, wI_le, wI_eq, wI_neg, wI_pos, wI_cl, wI_ge, wI_po, w64_lt, w64_le, w64_eq, w64_lt0, w64_le0, w64_eq0, w64_32, zc317, zc319, wI_add, wI_a1, wI_s1, wI_e0, wI_m8, wI_m128, wI_m64, wI_m190, not_true_eq_false, not_false_eq_true, sP_649_0 hS, sN_6417 hS]
  have l7 : yll ([yint 0, yint 0] ++ [ysub (zWi Z 0 3) (K, F, C, T, Z, L, Y)] ++ [ysub (zWi Z 0 4) (K, F, C, T, Z, L, Y)] ++ [ysub (zWi Z 0 7) (K, F, C, T, Z, L, Y)] ++ [ysub (zWi Z 0 5) (K, F, C, T, Z, L, Y)]) = 1 + (1 + (Z (zWi Z 0 3) + (Z (zWi Z 0 4) + (Z (zWi Z 0 7) + (Z (zWi Z 0 5) + 0))))) := rfl
  have t1 : I7 2320 = I 2320 := by rw [g17.1.1 2320 (by decide) (by decide) (by decide) (by decide) (by decide), fr 2320 (by decide)]
  have t2 : J7 2353 = J 2353 := g17.1.2.1 2353 (by decide)
  have t3 : J7 2385 = J 2385 := g17.1.2.1 2385 (by decide)
  refine e147 (bt := bt) (nt := nt + 1 + yll ([yint 0, yint 0] ++ [ysub (zWi Z 0 3) (K, F, C, T, Z, L, Y)] ++ [ysub (zWi Z 0 4) (K, F, C, T, Z, L, Y)] ++ [ysub (zWi Z 0 7) (K, F, C, T, Z, L, Y)] ++ [ysub (zWi Z 0 5) (K, F, C, T, Z, L, Y)])) (w := w) hS (by omega) hw (by rw [g17.1.1 2273 (by decide) (by decide) (by decide) (by decide) (by decide), fr 2273 (by decide)]; exact hw3) g17.2.1.1 (fun I8 J8 g8 e8 => ?_)
  rw [t1, t2, t3] at g8 e8
  obtain ⟨g18, r8⟩ := ap g17 r7 g8 e8
  have el : yll (ySp (I 2320) (J 2353) (J 2385) w) = 4 * w := yll_r w (fun i _ => rfl)
  have l8 : yll ([yint 0, yint 0] ++ [ysub (zWi Z 0 3) (K, F, C, T, Z, L, Y)] ++ [ysub (zWi Z 0 4) (K, F, C, T, Z, L, Y)] ++ [ysub (zWi Z 0 7) (K, F, C, T, Z, L, Y)] ++ [ysub (zWi Z 0 5) (K, F, C, T, Z, L, Y)] ++ [yls (ySp (I 2320) (J 2353) (J 2385) w)]) = 1 + (1 + (Z (zWi Z 0 3) + (Z (zWi Z 0 4) + (Z (zWi Z 0 7) + (Z (zWi Z 0 5) + ((yls (ySp (I 2320) (J 2353) (J 2385) w)).1 + 0)))))) := rfl
  rw [(yls_0 _).1, el] at l8
  simp (decide := true) (disch := omega) only [zi144, zt144, zo144_0, zy_ldI, zy_ldL, zy_ldA, zy_stI, zy_stL, zy_stA, zy_cI, zy_cL, zy_nul, zy_inc, zy_bI, zy_bL, zy_sL, zy_un, zy_cmp, zy_dup, zy_dup2, zy_pop, zy_pop2, zy_jn, zy_jnn, zy_go, zy_fal, zy_tsw, zy_lsw, zy_get, zy_put, zy_ald, zy_ast, zy_len, zy_newa, zy_new, zy_cal, zy_ret, zy_tak, zy_cst, zy_acp, zy_oini, zy_cln, zy_thr, zy_bad, zy_lco, zy_if0, zy_ic0, zy_if1, zy_ic1, zy_if2, zy_ic2, zy_if3, zy_ic3, zy_if4, zy_ic4, zy_if5, zy_ic5, zK_go, zK_to, zK_end, zK_callH, zK_iteC, zK_none, zsLd, zsSt, zsInc, zsBI, zsBL, zsSL, zsUn, zsCmp, zsDup, zsDup2, zsPop, zsPop2, zsJn, zsTsw, zsLsw, zsGet, zsPut, zsAld, zsAst, zsLen, zsNewa, zsCal, zsRet, zsCst, zsAcp, zsOini, zsCln, zsLco, zsThr, zxBI, zxBL, zxSL, zxU, zset1, zset2, zclr, zcat, zmake_mk, zcomp, zH_i, zH_l, zH_r, zH_u, zH_n, List.set_cons_zero, List.set_cons_succ, List.getElem?_cons_zero, List.getElem?_cons_succ, List.length_cons, List.length_nil, List.take_succ_cons, List.take_zero, List.drop_succ_cons, List.drop_zero, List.reverse_cons, List.reverse_nil, List.nil_append, List.cons_append, List.map_cons, List.map_nil, List.sum_cons, List.sum_nil, Option.toList_some, Option.toList_none, Value.category, Nat.reduceAdd, Nat.reduceMul, Nat.reduceMod, Nat.reduceDiv, Nat.reduceSub, Nat.reduceLT, Nat.reduceLeDiff, Nat.reduceEqDiff, Nat.zero_le, Nat.le_refl, Int32.reduceToNatClampNeg, Int32.reduceLT, Int32.reduceLE, Int32.reduceAdd, Int32.reduceSub, Int32.reduceMul, ↓reduceIte, reduceCtorEq, Nat.add_zero, Nat.zero_add, true_or, or_true, false_or, or_false, true_and, and_true, false_and, and_false, not_true_eq_false, not_false_eq_true, if_true, if_false, true_implies, false_implies, implies_true, forall_const, false_imp_iff, true_imp_iff, va_rf, zlay, zent, List.replicate_zero, List.append_nil, List.replicate_succ, List.length_append, ne_eq, Option.some.injEq, Value.int.injEq, Value.long.injEq, Int32.reduceOfNat, Int32.reduceToInt, Int.reduceLT, Int.reduceLE, Int.reduceSub, Int.reduceToNat, Int.reduceAdd, Int.reduceNeg, Int32.reduceDiv, Int64.reduceAdd, Int64.reduceSub, lg_cmp_ge, lg_cmp_le, lg_cmp_gt, lg_cmp_lt, lg_cmp_eq, wlt_t, wlt_f, wle_t, wle_f, wmod, wI_lt, wI_le, wI_eq, wI_neg, wI_pos, wI_cl, wI_ge, wI_po, w64_lt, w64_le, w64_eq, w64_lt0, w64_le0, w64_eq0, w64_32, zc317, zc319, wI_add, wI_a1, wI_s1, wI_e0, wI_m8, wI_m128, wI_m64, wI_m190, not_true_eq_false, not_false_eq_true, sP_649_0 hS, sN_6417 hS]
  refine e148 (bt := bt) (F := F) (C := C) (T := T) (Z := Z) (L := L) (Y := Y) (H := H) (X := X) (K := K) (s := s) (nt := nt + 1 + yll ([yint 0, yint 0] ++ [ysub (zWi Z 0 3) (K, F, C, T, Z, L, Y)] ++ [ysub (zWi Z 0 4) (K, F, C, T, Z, L, Y)] ++ [ysub (zWi Z 0 7) (K, F, C, T, Z, L, Y)] ++ [ysub (zWi Z 0 5) (K, F, C, T, Z, L, Y)] ++ [yls (ySp (I 2320) (J 2353) (J 2385) w)])) hS (zHas_n g18 hK h0) (by omega) (by omega) (yEt_g g18 (show 0 + K ≤ nt by omega) he0) g18.2.1.1 (fun I9 J9 g9 e9 => ?_)
  obtain ⟨g19, r9⟩ := ap g18 r8 g9 e9
  have en := yCx_n (Y := Y) (po := I 2320) (nm := J 2353) (am := J 2385) (w := w) (ba := yba T C Z) (x := 0) (y := 0) h.1 h.2.2.2
  have g19 : yNg I0 J I9 J9 nt (nt + 1 + yll (yCxl (K, F, C, T, Z, L, Y) Z (ySp (I 2320) (J 2353) (J 2385) w) (yPds (K, F, C, T, Z, L, Y) Z (yba T C Z) (C (zWi Z 0 2))) 0 0)) := g19
  have r9 : yEl (yEc I9 J9 bt) (nt + 1) (yCxl (K, F, C, T, Z, L, Y) Z (ySp (I 2320) (J 2353) (J 2385) w) (yPds (K, F, C, T, Z, L, Y) Z (yba T C Z) (C (zWi Z 0 2))) 0 0) := r9
  have c13' : I9 649 13 = nI nt := by rw [g19.1.1 649 (by decide) (by decide) (by decide) (by decide) (by decide), hI0, zu_at]
  have hcn : zCtn C Z w ≤ 700 := by unfold zCtn; omega
  have q91 := fun (Q : Option Value → zS → Prop) => m91 (I := I9) (J := J9) (n := n) (z := z) (b := nt) hS g19.2.1.1 (by omega) (by omega) Q
  have oh : I9 79 nt = 6 ∧ I9 112 nt = 8 ∧ J9 209 nt = 0 := by
    have b3 := (yNg_t g2 g3).2.2 nt (by omega)
    have b4 := g4.2.2 nt (by omega)
    have b5 := g5.2.2 nt (by omega)
    have b6 := g6.2.2 nt (by omega)
    have b7 := g7.2.2 nt (by omega)
    have b8 := g8.2.2 nt (by omega)
    have b9 := g9.2.2 nt (by omega)
    rw [b9.1, b8.1, b7.1, b6.1, b5.1, b4.1, b3.1, b9.2.1, b8.2.1, b7.2.1, b6.2.1, b5.2.1, b4.2.1, b3.2.1, b9.2.2.2.2, b8.2.2.2.2, b7.2.2.2.2, b6.2.2.2.2, b5.2.2.2.2, b4.2.2.2.2, b3.2.2.2.2, o1.1, o1.2.1, oj]
    exact ⟨rfl, rfl, rfl⟩
  have q := hQ (zu I9 144 nt (nI (nt + 1 + yll (yCxl (K, F, C, T, Z, L, Y) Z (ySp (I 2320) (J 2353) (J 2385) w) (yPds (K, F, C, T, Z, L, Y) Z (yba T C Z) (C (zWi Z 0 2))) 0 0) - nt))) J9 (by
    rw [← hI0]
    have := yNg_e (v := nI (nt + 1 + yll (yCxl (K, F, C, T, Z, L, Y) Z (ySp (I 2320) (J 2353) (J 2385) w) (yPds (K, F, C, T, Z, L, Y) Z (yba T C Z) (C (zWi Z 0 2))) 0 0) - nt)) g19
    rw [← en, ← Nat.add_assoc]
    exact this) (fun y => ⟨?_, ?_, ?_, ?_, fun h => by cases h⟩) (yEl_e (Nat.lt_succ_self _) r9)
  · simp (decide := true) (disch := omega) only [c13', q91, zi144, zt144, zo144_0, zy_ldI, zy_ldL, zy_ldA, zy_stI, zy_stL, zy_stA, zy_cI, zy_cL, zy_nul, zy_inc, zy_bI, zy_bL, zy_sL, zy_un, zy_cmp, zy_dup, zy_dup2, zy_pop, zy_pop2, zy_jn, zy_jnn, zy_go, zy_fal, zy_tsw, zy_lsw, zy_get, zy_put, zy_ald, zy_ast, zy_len, zy_newa, zy_new, zy_cal, zy_ret, zy_tak, zy_cst, zy_acp, zy_oini, zy_cln, zy_thr, zy_bad, zy_lco, zy_if0, zy_ic0, zy_if1, zy_ic1, zy_if2, zy_ic2, zy_if3, zy_ic3, zy_if4, zy_ic4, zy_if5, zy_ic5, zK_go, zK_to, zK_end, zK_callH, zK_iteC, zK_none, zsLd, zsSt, zsInc, zsBI, zsBL, zsSL, zsUn, zsCmp, zsDup, zsDup2, zsPop, zsPop2, zsJn, zsTsw, zsLsw, zsGet, zsPut, zsAld, zsAst, zsLen, zsNewa, zsCal, zsRet, zsCst, zsAcp, zsOini, zsCln, zsLco, zsThr, zxBI, zxBL, zxSL, zxU, zset1, zset2, zclr, zcat, zmake_mk, zcomp, zH_i, zH_l, zH_r, zH_u, zH_n, List.set_cons_zero, List.set_cons_succ, List.getElem?_cons_zero, List.getElem?_cons_succ, List.length_cons, List.length_nil, List.take_succ_cons, List.take_zero, List.drop_succ_cons, List.drop_zero, List.reverse_cons, List.reverse_nil, List.nil_append, List.cons_append, List.map_cons, List.map_nil, List.sum_cons, List.sum_nil, Option.toList_some, Option.toList_none, Value.category, Nat.reduceAdd, Nat.reduceMul, Nat.reduceMod, Nat.reduceDiv, Nat.reduceSub, Nat.reduceLT, Nat.reduceLeDiff, Nat.reduceEqDiff, Nat.zero_le, Nat.le_refl, Int32.reduceToNatClampNeg, Int32.reduceLT, Int32.reduceLE, Int32.reduceAdd, Int32.reduceSub, Int32.reduceMul, ↓reduceIte, reduceCtorEq, Nat.add_zero, Nat.zero_add, true_or, or_true, false_or, or_false, true_and, and_true, false_and, and_false, not_true_eq_false, not_false_eq_true, if_true, if_false, true_implies, false_implies, implies_true, forall_const, false_imp_iff, true_imp_iff, va_rf, zlay, zent, List.replicate_zero, List.append_nil, List.replicate_succ, List.length_append, ne_eq, Option.some.injEq, Value.int.injEq, Value.long.injEq, Int32.reduceOfNat, Int32.reduceToInt, Int.reduceLT, Int.reduceLE, Int.reduceSub, Int.reduceToNat, Int.reduceAdd, Int.reduceNeg, Int32.reduceDiv, Int64.reduceAdd, Int64.reduceSub, lg_cmp_ge, lg_cmp_le, lg_cmp_gt, lg_cmp_lt, lg_cmp_eq, wlt_t, wlt_f, wle_t, wle_f, wmod, wI_lt, wI_le, wI_eq, wI_neg, wI_pos, wI_cl, wI_ge, wI_po, w64_lt, w64_le, w64_eq, w64_lt0, w64_le0, w64_eq0, w64_32, zc317, zc319, wI_add, wI_a1, wI_s1, wI_e0, wI_m8, wI_m128, wI_m64, wI_m190, not_true_eq_false, not_false_eq_true, sP_649_0 hS, sN_6417 hS]
    exact q
  · rw [zuR_ne (by decide), oh.1]; rfl
  · rw [zuR_ne (by decide), oh.2.1]; rfl
  · rw [zu_at]
    congr 1
    omega
  · exact oh.2.2
end
