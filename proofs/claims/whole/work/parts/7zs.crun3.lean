-- needs: 01 02.names 03 04 05 18 19 20 22 23 24 25 30 31 32 33 35 36 37 40 42 43 44 45 46 47 60 61 62 63 64 65 66 67 68 69 79f 79g 79h 79i 79j 79k 79l 79m 79n 79o 79p 79q 79r 79s 79t 79u 79v 79w 79x 79y 79z. 79za 79zb 79zc 79zd 79ze 79zf 79zg 79zh 79zi 79zj 79zk 79zl 79zm 79zn 79zo 79zp 79zq 79zr 79zs 79zt 79zu 79zv 7a 7b 7c 7d 7e 7f 7g 7zl 7zm 7zn 7zo 7h 7i 7j 7k 7l 7m 7n 7o 7p 7q 7r 7zj 7zk 7zp 7zq 7zr
/-! PHASE TWO, by the class: one run -/
/-- a script that the class has -/
def ySf (I : zI) (J : zJ) (P : zP) (N : Nat → Nat) (f : Nat → Nat → Nat) (n : Nat) (Ks zs ls ws Wd Ps : Nat → Nat) (Vs : Nat → Int64) (Yb : Nat → Nat → Int32) (k : Nat) : Prop :=
  ySc Ks zs ls ws Vs Wd Yb (f 5 k) ∧ (P 3061 k = some (32 * f 0 k + 7) ∧ P (32 * f 0 k + 7) 0 = some (32 * f 1 k + 15) ∧ P (32 * f 0 k + 7) 1 = some (32 * f 2 k + 17) ∧ P (32 * f 0 k + 7) 2 = some (32 * f 3 k + 16) ∧ P (32 * f 0 k + 7) 3 = some (32 * f 4 k + 15)) ∧
  I (32 * f 0 k + 7) 4 = nI (f 5 k) ∧ (N (32 * f 1 k + 15) = f 5 k ∧ N (32 * f 2 k + 17) = f 5 k ∧ N (32 * f 3 k + 16) = f 5 k ∧ N (32 * f 4 k + 15) = f 6 k) ∧ f 6 k ≤ 4096 ∧
  (∀ j, j < f 5 k → I (32 * f 1 k + 15) j = nI (Ks j) ∧ J (32 * f 2 k + 17) j = Vs j ∧ (Ks j = 2 → I (32 * f 3 k + 16) j = nI (ySs zs j)) ∧ (Ks j = 8 → I (32 * f 3 k + 16) j = nI (Ps j) ∧ Ps j + Wd j ≤ f 6 k ∧ ∀ i, i < Wd j → I (32 * f 4 k + 15) (Ps j + i) = Yb j i)) ∧
  ∀ i, i < 5 → 201 ≤ f i k ∧ f i k < n
/-- cells that stand in phase two -/
def yFx (c : Nat) : Prop := c = 11 ∨ c = 22 ∨ c = 54 ∨ (424 ≤ c ∧ c < 2532 ∧ c ≠ 649) ∨ (3061 ≤ c ∧ c ≠ 3088 ∧ c < 6432)
/-- what one run changes of what outlasts it -/
def yBf (I : zI) (J : zJ) (I' : zI) (J' : zJ) (r bc cx : Nat) (x y : Int64) : yM → Prop
  | (tab, _, _, v, _, _, S, W, a) =>
    ((∀ c, yFx c → I' c = I c ∧ (c ≠ 11 → J' c = J c)) ∧ (∀ j, j ≠ 12 → J' 11 j = J 11 j) ∧ I' 649 = I 649 ∧ (∀ j, j < 2 ∨ 6 < j → I' 3088 j = I 3088 j) ∧ (∀ c, 6432 ≤ c → (c ≠ r → I' c = I c) ∧ (∀ j, j ≠ 6 → I' c j = I c j) ∧ J' c = J c)) ∧
    ((∀ j, j < bc → I' 79 j = I 79 j ∧ I' 112 j = I 112 j ∧ I' 144 j = I 144 j ∧ I' 176 j = I 176 j ∧ (j ≠ cx + 1 → j ≠ cx + 2 → J' 209 j = J 209 j)) ∧ J' 209 (cx + 1) = x ∧ J' 209 (cx + 2) = y ∧ ∀ j, j < 4096 → I' 239 j = I 239 j) ∧
    (I' 3088 2 = I 3088 2 + 1 ∧ I' 3088 3 = nI a ∧ I' 3088 4 = nI S ∧ I' 3088 5 = nI W ∧ I' 3088 6 = (if a = 0 then nI (tab v).1 else -1)) ∧ I' r 6 = I r 6 + 1 ∧ J' 11 12 = J 11 12 + (nI S).toInt64
section
variable {I I' : zI} {J J' : zJ} {P : zP} {N : Nat → Nat} {n z m K s i nt bc cx nc dn k : Nat} {F C Z X H L : Nat → Nat} {f : Nat → Nat → Nat} {T : Nat → Int64} {Y : Nat → Nat → Int32} {Q : Option Value → zS → Prop} {Ks zs ls ws Wd Ps : Nat → Nat} {Vs : Nat → Int64} {Yb : Nat → Nat → Int32} {sp pd : List yD} {dmD : yD} {dm : Int32} {x y x0 y0 : Int64}
/-- the context points to another one -/
theorem yCx_pt {E E' : Nat → Nat → Nat → Int64 → Nat → (Nat → Int32) → Prop} {D : yD} (hE : ∀ p f c t zz y, p ≠ cx + 1 → p ≠ cx + 2 → E p f c t zz y → E' p f c t zz y) (h1 : ∀ yy, E' (cx + 1) 0 0 x 1 yy) (h2 : ∀ yy, E' (cx + 2) 0 0 y 1 yy) (h : yEl E (cx + 1) (yCxl D Z sp pd x0 y0)) : yEl E' (cx + 1) (yCxl D Z sp pd x y) := by
  obtain ⟨-, -, hr⟩ := h
  refine ⟨fun j hj => ?_, fun j hj => ?_, yEl_m _ _ (fun p f c t zz y h1 _ => hE p f c t zz y (by have : cx + 1 + 1 + 1 ≤ p := h1; omega) (by have : cx + 1 + 1 + 1 ≤ p := h1; omega)) hr⟩
  · have hj : j < 1 := hj
    obtain rfl : j = 0 := by omega
    exact h1 _
  · have hj : j < 1 := hj
    obtain rfl : j = 0 := by omega
    exact h2 _
set_option maxRecDepth 20000 in
set_option maxHeartbeats 4000000 in
theorem b173b {u4 u5 : Option Value} (hS : zStat P N) (hT : I 54 = zTK0 ∧ N 54 = 32) (h : zHas I J F T C Z H X L K s) (hi : i < C (zWi Z 0 0) + ynp T C Z) (c13 : I 649 13 = nI cx) (h7 : I 37 7 = nI nt) (hn : nt ≤ 600) (hb : bc ≤ nt) (hcx : K ≤ cx ∧ cx + nc ≤ bc)
    (hd : (dm = -1 ∧ ¬ i < C (zWi Z 0 0)) ∨ (dm = nI dn ∧ i < C (zWi Z 0 0) ∧ bc ≤ dn ∧ dn + dmD.1 ≤ nt ∧ yEt (yEc I J 4224) dn dmD ∧ ywf dmD))
    (hx1 : i < C (zWi Z 0 0) → x = 0 ∧ y = ziv T Z i) (hx2 : ¬ i < C (zWi Z 0 0) → x = 1 ∧ y = (ypv T C Z (i - C (zWi Z 0 0))).toInt64)
    (he : yEt (yEc I J 4096) 0 (K, F, C, T, Z, L, Y)) (hc0 : ∀ yy, yEc I J 4096 cx 6 8 0 nc yy) (hcl : yEl (yEc I J 4096) (cx + 1) (yCxl (K, F, C, T, Z, L, Y) Z sp pd x0 y0)) (hnc : ∀ x y, 1 + yll (yCxl (K, F, C, T, Z, L, Y) Z sp pd x y) = nc) (wc : ∀ x y, ywf (yCx (K, F, C, T, Z, L, Y) Z sp pd x y)) (hrk : yrk C Z i + Z (yrk C Z i) ≤ K) (wr : ywf (ysub (yrk C Z i) (K, F, C, T, Z, L, Y))) (hf : ySf I J P N f n Ks zs ls ws Wd Ps Vs Yb k)
    (hY : ∀ I' J' v5, yac (yrn Ks zs Wd Vs Yb (if i < C (zWi Z 0 0) then 3 else 2) (f 5 k) (yCx (K, F, C, T, Z, L, Y) Z sp pd x y) (ysub (yrk C Z i) (K, F, C, T, Z, L, Y)) dmD) → yBf I J I' J' (32 * f 0 k + 7) bc cx x y (yrn Ks zs Wd Vs Yb (if i < C (zWi Z 0 0) then 3 else 2) (f 5 k) (yCx (K, F, C, T, Z, L, Y) Z sp pd x y) (ysub (yrk C Z i) (K, F, C, T, Z, L, Y)) dmD) → zQ zt173 zo173_6 [some (.ref 11), some (.int (nI bc)), some (.int (nI (C (zWi Z 0 0)))), some (.int (nI i)), some (.ref (32 * f 0 k + 7)), v5] [] (I', J', P, N, n, z) Q)
    (hN : ∀ I' J', ¬ yac (yrn Ks zs Wd Vs Yb (if i < C (zWi Z 0 0) then 3 else 2) (f 5 k) (yCx (K, F, C, T, Z, L, Y) Z sp pd x y) (ysub (yrk C Z i) (K, F, C, T, Z, L, Y)) dmD) → yBf I J I' J' (32 * f 0 k + 7) bc cx x y (yrn Ks zs Wd Vs Yb (if i < C (zWi Z 0 0) then 3 else 2) (f 5 k) (yCx (K, F, C, T, Z, L, Y) Z sp pd x y) (ysub (yrk C Z i) (K, F, C, T, Z, L, Y)) dmD) → Q (some (.int 20)) (I', J', P, N, n, z)) :
    zQ zt173 zo173_5 [some (.ref 11), some (.int (nI bc)), some (.int (nI (C (zWi Z 0 0)))), some (.int (nI i)), some (.ref (32 * f 0 k + 7)), u5] [.int dm] (I, J, P, N, n, z) Q := by
  have hD := h.1.1
  have c0 := (zTx_c h.2.2.2).1
  have hp := ynp_le h
  obtain ⟨f1, ⟨f2, f3, f4, f5, f6⟩, f7, ⟨f8, f9, f10, f11⟩, f12, f13, f14⟩ := hf
  have g0 := f14 0 (by decide)
  have g1 := f14 1 (by decide)
  have g2 := f14 2 (by decide)
  have g3 := f14 3 (by decide)
  have g4 := f14 4 (by decide)
  have r7 : (32 * f 0 k + 7) % 32 = 7 := by omega
  obtain ⟨ap, hap⟩ : ∃ ap, ap = if i < C (zWi Z 0 0) then 3 else 2 := ⟨_, rfl⟩
  have hap2 : ap = 2 ∨ ap = 3 := by rw [hap]; split <;> omega
  rw [← hap] at hY hN
  obtain ⟨w, hw⟩ : ∃ w, w = yrn Ks zs Wd Vs Yb ap (f 5 k) (yCx (K, F, C, T, Z, L, Y) Z sp pd x y) (ysub (yrk C Z i) (K, F, C, T, Z, L, Y)) dmD := ⟨_, rfl⟩
  rw [← hw] at hY hN
  have p146 := fun (Q : Option Value → zS → Prop) => m146 (n := n) (z := z) hS h hi c13 hcx.1 (by omega) hx1 hx2 Q
  obtain ⟨J3, hJ3⟩ : ∃ J3, J3 = zu (zu J 209 (cx + 1) x) 209 (cx + 2) y := ⟨_, rfl⟩
  rw [← hJ3] at p146
  have j3 : ∀ c, c ≠ 209 → J3 c = J c := fun c hc => by rw [hJ3, zuR_ne hc, zuR_ne hc]
  have j4 : ∀ j, j ≠ cx + 1 → j ≠ cx + 2 → J3 209 j = J 209 j := fun j a b => by rw [hJ3, zu_nj b, zu_nj a]
  have j5 : J3 209 (cx + 1) = x ∧ J3 209 (cx + 2) = y := by rw [hJ3, zu_nj (by omega), zu_at, zu_at]; exact ⟨rfl, rfl⟩
  have h3 : zHas I J3 F T C Z H X L K s := zHas_y (fun c x1 x2 => ⟨rfl, j3 c (by omega)⟩) rfl (fun j hj => ⟨rfl, rfl, rfl, rfl, j4 j (by omega) (by omega)⟩) h
  have p124 := fun (Q : Option Value → zS → Prop) => m124 (n := n) (z := z) hS h3 hi Q
  -- DATA in their places
  have ec : ∀ p ff c t zz yy, p ≠ cx + 1 → p ≠ cx + 2 → yEc I J 4096 p ff c t zz yy → yEc I J3 4224 p ff c t zz yy := fun p ff c t zz yy a b e => by
    obtain ⟨e1, e2, e3, e4, e5⟩ := e
    refine ⟨e1, e2, e3, by rw [j4 p a b]; exact e4, fun h2 => ?_⟩
    obtain ⟨q, q1, q2, q3⟩ := e5 h2
    exact ⟨q, q1, by omega, q3⟩
  have en := hnc x y
  have en3 : 3 ≤ nc := by
    have : ∃ q, yll (yCxl (K, F, C, T, Z, L, Y) Z sp pd x y) = 1 + (1 + q) := ⟨_, rfl⟩
    omega
  obtain ⟨⟨a1, a2, a3, -, -⟩, ⟨b1, b2, b3, -, -⟩⟩ : yEc I J 4096 (cx + 1) 0 0 x0 1 (fun _ => 0) ∧ yEc I J 4096 (cx + 2) 0 0 y0 1 (fun _ => 0) := ⟨hcl.1 0 (Nat.lt_succ_self 0), hcl.2.1 0 (Nat.lt_succ_self 0)⟩
  have dcx : yEt (yEc I J3 4224) cx (yCx (K, F, C, T, Z, L, Y) Z sp pd x y) := by
    refine yas_at (fun yy => ?_) (yCx_pt ec (fun yy => ⟨a1, a2, a3, j5.1, fun h => by cases h⟩) (fun yy => ⟨b1, b2, b3, j5.2, fun h => by cases h⟩) hcl)
    rw [en]
    exact ec _ _ _ _ _ _ (by omega) (by omega) (hc0 yy)
  have cx1 : cx + (yCx (K, F, C, T, Z, L, Y) Z sp pd x y).1 ≤ nt := by
    unfold yCx
    rw [yas_1, (yls_0 _).1, en]
    omega
  have drd : yEt (yEc I J3 4224) (yrk C Z i) (ysub (yrk C Z i) (K, F, C, T, Z, L, Y)) := yEt_m (fun p ff c t zz yy q1 q2 => ec p ff c t zz yy (by have q2 : p < yrk C Z i + Z (yrk C Z i) := q2; omega) (by have q2 : p < yrk C Z i + Z (yrk C Z i) := q2; omega)) (yEt_s he hrk)
  have rd1 : yrk C Z i + (ysub (yrk C Z i) (K, F, C, T, Z, L, Y)).1 ≤ nt := by
    show yrk C Z i + Z (yrk C Z i) ≤ nt
    omega
  have ddm : ap = 3 → dn + dmD.1 ≤ nt ∧ yEt (yEc I J3 4224) dn dmD := fun a3 => by
    rcases hd with ⟨-, h1⟩ | ⟨-, h1, d1, d2, d3, d4⟩
    · rw [hap, if_neg h1] at a3; omega
    · refine ⟨d2, yEt_m (fun p ff c t zz yy q1 q2 e => ?_) d3⟩
      obtain ⟨e1, e2, e3, e4, e5⟩ := e
      exact ⟨e1, e2, e3, by rw [j4 p (by omega) (by omega)]; exact e4, e5⟩
  have wd : ap = 3 → ywf dmD := fun a3 => by
    rcases hd with ⟨-, h1⟩ | ⟨-, h1, d1, d2, d3, d4⟩
    · rw [hap, if_neg h1] at a3; omega
    · exact d4
  have hps : ∀ j, j < f 5 k → Ks j = 8 → Ps j + Wd j ≤ 4096 := fun j hj h8 => by have := ((f13 j hj).2.2.2 h8).2.1; omega
  rw [zo173_5]
  simp (decide := true) (disch := omega) only [p146, p124, c13, zi173, zt173, zo173_0, zo173_1, zo173_2, zo173_3, zo173_4, zo173_7, zy_ldI, zy_ldL, zy_ldA, zy_stI, zy_stL, zy_stA, zy_cI, zy_cL, zy_nul, zy_inc, zy_bI, zy_bL, zy_sL, zy_un, zy_cmp, zy_dup, zy_dup2, zy_pop, zy_pop2, zy_jn, zy_jnn, zy_go, zy_fal, zy_tsw, zy_lsw, zy_get, zy_put, zy_ald, zy_ast, zy_len, zy_newa, zy_new, zy_cal, zy_ret, zy_tak, zy_cst, zy_acp, zy_oini, zy_cln, zy_thr, zy_bad, zy_lco, zy_if0, zy_ic0, zy_if1, zy_ic1, zy_if2, zy_ic2, zy_if3, zy_ic3, zy_if4, zy_ic4, zy_if5, zy_ic5, zK_go, zK_to, zK_end, zK_callH, zK_iteC, zK_none, zsLd, zsSt, zsInc, zsBI, zsBL, zsSL, zsUn, zsCmp, zsDup, zsDup2, zsPop, zsPop2, zsJn, zsTsw, zsLsw, zsGet, zsPut, zsAld, zsAst, zsLen, zsNewa, zsCal, zsRet, zsCst, zsAcp, zsOini, zsCln, zsLco, zsThr, zxBI, zxBL, zxSL, zxU, zset1, zset2, zclr, zcat, zmake_mk, zcomp, zH_i, zH_l, zH_r, zH_u, zH_n, List.set_cons_zero, List.set_cons_succ, List.getElem?_cons_zero, List.getElem?_cons_succ, List.length_cons, List.length_nil, List.take_succ_cons, List.take_zero, List.drop_succ_cons, List.drop_zero, List.reverse_cons, List.reverse_nil, List.nil_append, List.cons_append, List.map_cons, List.map_nil, List.sum_cons, List.sum_nil, Option.toList_some, Option.toList_none, Value.category, Nat.reduceAdd, Nat.reduceMul, Nat.reduceMod, Nat.reduceDiv, Nat.reduceSub, Nat.reduceLT, Nat.reduceLeDiff, Nat.reduceEqDiff, Nat.zero_le, Nat.le_refl, Int32.reduceToNatClampNeg, Int32.reduceLT, Int32.reduceLE, Int32.reduceAdd, Int32.reduceSub, Int32.reduceMul, ↓reduceIte, reduceCtorEq, Nat.add_zero, Nat.zero_add, true_or, or_true, false_or, or_false, true_and, and_true, false_and, and_false, not_true_eq_false, not_false_eq_true, if_true, if_false, true_implies, false_implies, implies_true, forall_const, false_imp_iff, true_imp_iff, va_rf, zlay, zent, List.replicate_zero, List.append_nil, List.replicate_succ, List.length_append, ne_eq, Option.some.injEq, Value.int.injEq, Value.long.injEq, Int32.reduceOfNat, Int32.reduceToInt, Int.reduceLT, Int.reduceLE, Int.reduceSub, Int.reduceToNat, Int.reduceAdd, Int.reduceNeg, Int32.reduceDiv, Int64.reduceAdd, Int64.reduceSub, lg_cmp_ge, lg_cmp_le, lg_cmp_gt, lg_cmp_lt, lg_cmp_eq, wlt_t, wlt_f, wle_t, wle_f, wmod, wI_lt, wI_le, wI_eq, wI_neg, wI_pos, wI_cl, wI_ge, wI_po, w64_lt, w64_le, w64_eq, w64_lt0, w64_le0, w64_eq0, w64_32, zc317, zc319, wI_add, wI_a1, wI_s1, wI_e0, wI_m8, wI_m128, wI_m64, wI_m190, not_true_eq_false, not_false_eq_true, sP_11_0 hS, sP_11_3 hS, sP_11_4 hS, sP_11_5 hS, sP_649_10 hS, sP_2115_12 hS, sN_1040 hS, sN_6417 hS]
  refine e66 (ap := ap) (K := f 5 k) (Lb := f 6 k) (nt := nt) (Ks := Ks) (Wd := Wd) (Ps := Ps) (Ss := ySs zs) (Vs := Vs) (Yb := Yb) (T := 32 * f 0 k + 7) (kc := 32 * f 1 k + 15) (nc := 32 * f 2 k + 17) (sc := 32 * f 3 k + 16) (bc := 32 * f 4 k + 15) (d := dn) hS ?_ ⟨f1.1.1, f1.1.2.1⟩ f12 hn h7 (by omega) (by omega) ⟨f3, f4, f5, f6⟩ f7 ⟨f8, f9, f10, f11⟩ (fun j hj => ?_) (fun I4 J4 L4 => ?_)
  · rcases hd with ⟨d0, h1⟩ | ⟨d0, h1, d1, d2, d3, d4⟩
    · exact Or.inl ⟨d0, by rw [hap, if_neg h1]⟩
    · exact Or.inr ⟨d0, by omega, by rw [hap, if_pos h1]⟩
  · obtain ⟨q1, q2, q3, q4⟩ := f13 j hj
    obtain ⟨⟨s1, s2, s3, s4, s5⟩, -, -, -, sa, -, -, -, -, s8⟩ := f1.2 j hj
    have := f1.1.2.1
    refine ⟨s5, q1, by rw [j3 _ (by omega)]; exact q2, fun h2 => ⟨q3 h2, ?_⟩, fun h8 => ⟨(s8 h8).1, (s8 h8).2.1, (q4 h8).1, (q4 h8).2.1, (q4 h8).2.2⟩⟩
    have := (sa h2).1
    have := (sa h2).2.2.1
    unfold ySs
    omega
  · simp (decide := true) (disch := omega) only [zi173, zt173, zo173_0, zo173_1, zo173_2, zo173_3, zo173_4, zo173_7, zy_ldI, zy_ldL, zy_ldA, zy_stI, zy_stL, zy_stA, zy_cI, zy_cL, zy_nul, zy_inc, zy_bI, zy_bL, zy_sL, zy_un, zy_cmp, zy_dup, zy_dup2, zy_pop, zy_pop2, zy_jn, zy_jnn, zy_go, zy_fal, zy_tsw, zy_lsw, zy_get, zy_put, zy_ald, zy_ast, zy_len, zy_newa, zy_new, zy_cal, zy_ret, zy_tak, zy_cst, zy_acp, zy_oini, zy_cln, zy_thr, zy_bad, zy_lco, zy_if0, zy_ic0, zy_if1, zy_ic1, zy_if2, zy_ic2, zy_if3, zy_ic3, zy_if4, zy_ic4, zy_if5, zy_ic5, zK_go, zK_to, zK_end, zK_callH, zK_iteC, zK_none, zsLd, zsSt, zsInc, zsBI, zsBL, zsSL, zsUn, zsCmp, zsDup, zsDup2, zsPop, zsPop2, zsJn, zsTsw, zsLsw, zsGet, zsPut, zsAld, zsAst, zsLen, zsNewa, zsCal, zsRet, zsCst, zsAcp, zsOini, zsCln, zsLco, zsThr, zxBI, zxBL, zxSL, zxU, zset1, zset2, zclr, zcat, zmake_mk, zcomp, zH_i, zH_l, zH_r, zH_u, zH_n, List.set_cons_zero, List.set_cons_succ, List.getElem?_cons_zero, List.getElem?_cons_succ, List.length_cons, List.length_nil, List.take_succ_cons, List.take_zero, List.drop_succ_cons, List.drop_zero, List.reverse_cons, List.reverse_nil, List.nil_append, List.cons_append, List.map_cons, List.map_nil, List.sum_cons, List.sum_nil, Option.toList_some, Option.toList_none, Value.category, Nat.reduceAdd, Nat.reduceMul, Nat.reduceMod, Nat.reduceDiv, Nat.reduceSub, Nat.reduceLT, Nat.reduceLeDiff, Nat.reduceEqDiff, Nat.zero_le, Nat.le_refl, Int32.reduceToNatClampNeg, Int32.reduceLT, Int32.reduceLE, Int32.reduceAdd, Int32.reduceSub, Int32.reduceMul, ↓reduceIte, reduceCtorEq, Nat.add_zero, Nat.zero_add, true_or, or_true, false_or, or_false, true_and, and_true, false_and, and_false, not_true_eq_false, not_false_eq_true, if_true, if_false, true_implies, false_implies, implies_true, forall_const, false_imp_iff, true_imp_iff, va_rf, zlay, zent, List.replicate_zero, List.append_nil, List.replicate_succ, List.length_append, ne_eq, Option.some.injEq, Value.int.injEq, Value.long.injEq, Int32.reduceOfNat, Int32.reduceToInt, Int.reduceLT, Int.reduceLE, Int.reduceSub, Int.reduceToNat, Int.reduceAdd, Int.reduceNeg, Int32.reduceDiv, Int64.reduceAdd, Int64.reduceSub, lg_cmp_ge, lg_cmp_le, lg_cmp_gt, lg_cmp_lt, lg_cmp_eq, wlt_t, wlt_f, wle_t, wle_f, wmod, wI_lt, wI_le, wI_eq, wI_neg, wI_pos, wI_cl, wI_ge, wI_po, w64_lt, w64_le, w64_eq, w64_lt0, w64_le0, w64_eq0, w64_32, zc317, zc319, wI_add, wI_a1, wI_s1, wI_e0, wI_m8, wI_m128, wI_m64, wI_m190, not_true_eq_false, not_false_eq_true, sP_11_0 hS, sP_11_3 hS, sP_11_4 hS, sP_11_5 hS, sP_649_10 hS, sP_2115_12 hS, sN_1040 hS, sN_6417 hS]
    have hT3 : I 54 = zTK0 ∧ N 54 = 32 := hT
    refine e69r (b0 := bc) hS hT3 f1 hap2 hps L4 ⟨cx1, dcx⟩ ⟨rd1, drd⟩ ddm (wc x y) wr wd hn hb (fun I5 J5 F5 O5 => ?_)
    rw [← hw] at O5
    have p177 := fun (Q : Option Value → zS → Prop) => m177 (n := n) (z := z) (r := 32 * f 0 k + 7) hS (by omega) r7 O5 Q
    obtain ⟨⟨l1, l2, l3, l4, l5⟩, -⟩ := L4
    obtain ⟨y1, y2, y3, y4, y5⟩ := F5
    have bI : ∀ c, yFx c ∨ c = 649 ∨ c = 3088 ∨ 6432 ≤ c → I5 c = I c := fun c hc => by
      unfold yFx at hc
      rw [y1 c (by unfold yCm; omega), l1 c (by omega) (by omega) (by omega) (by omega) (by omega) (by omega) (by omega) (by omega) (by omega) (by omega) (by omega) (by omega)]
    have bJ : ∀ c, yFx c ∨ 6432 ≤ c → J5 c = J c := fun c hc => by
      unfold yFx at hc
      rw [y2 c (by omega) (by omega), l2 c (by omega) (by omega) (by omega), j3 c (by omega)]
    have o71 : yOc (yTl I5 (32 * f 0 k + 7) w) (zu J5 11 12 (J5 11 12 + (nI (ystS w)).toInt64)) w := by
      obtain ⟨tab, top, mm, v, e, st, S, W, b⟩ := w
      obtain ⟨o1, o2, o3, o4, o5, o6, o7⟩ := O5
      have fr : ∀ c, c ≠ 3088 → c ≠ 32 * f 0 k + 7 → yTl I5 (32 * f 0 k + 7) (tab, top, mm, v, e, st, S, W, b) c = I5 c := fun c x1 x2 => by
        show zu _ _ _ _ c = _
        simp only [zuR_ne x1, zuR_ne x2]
      show _ = _ ∧ _ = _ ∧ _ = _ ∧ _
      rw [fr 2532 (by decide) (by omega), fr 2799 (by decide) (by omega), zuR_ne (by decide)]
      exact ⟨o1, o2, o3, o4, o5, o6, o7⟩
    have p71 := fun (Q : Option Value → zS → Prop) => m71 (n := n) (z := z) hS o71 Q
    have B : yBf I J (yTl I5 (32 * f 0 k + 7) w) (zu J5 11 12 (J5 11 12 + (nI (ystS w)).toInt64)) (32 * f 0 k + 7) bc cx x y w := by
      obtain ⟨tab, top, mm, v, e, st, S, W, b⟩ := w
      have fr : ∀ c, c ≠ 3088 → c ≠ 32 * f 0 k + 7 → yTl I5 (32 * f 0 k + 7) (tab, top, mm, v, e, st, S, W, b) c = I5 c := fun c x1 x2 => by
        show zu _ _ _ _ c = _
        simp only [zuR_ne x1, zuR_ne x2]
      refine ⟨⟨fun c hc => ⟨?_, fun h11 => ?_⟩, fun j hj => ?_, ?_, fun j hj => ?_, fun c hc => ⟨fun hr => ?_, fun j hj => ?_, ?_⟩⟩, ⟨fun j hj => ?_, ?_, ?_, fun j hj => ?_⟩, ⟨?_, ?_, ?_, ?_, ?_⟩, ?_, ?_⟩
      · have := hc
        unfold yFx at this
        rw [fr c (by omega) (by omega), bI c (Or.inl hc)]
      · rw [zuR_ne h11, bJ c (Or.inl hc)]
      · rw [zu_nj hj, bJ 11 (Or.inl (by unfold yFx; omega))]
      · rw [fr 649 (by decide) (by omega), bI 649 (by omega)]
      · show zu _ _ _ _ 3088 j = _
        simp (disch := omega) only [zu_nj, zuR_ne]
        rw [bI 3088 (by omega)]
      · rw [fr c (by omega) hr, bI c (by omega)]
      · by_cases hr : c = 32 * f 0 k + 7
        · show zu _ _ _ _ c j = _
          simp (disch := omega) only [zu_nj, zuR_ne]
          rw [bI c (by omega)]
        · rw [fr c (by omega) hr, bI c (by omega)]
      · rw [zuR_ne (by omega), bJ c (by omega)]
      · rw [fr 79 (by decide) (by omega), fr 112 (by decide) (by omega), fr 144 (by decide) (by omega), fr 176 (by decide) (by omega), zuR_ne (by decide)]
        obtain ⟨t1, t2, t3, t4, t5⟩ := y4 j hj
        obtain ⟨s1, s2, s3, s4, s5⟩ := l4 j (by omega)
        exact ⟨t1.trans s1, t2.trans s2, t3.trans s3, t4.trans s4, fun q1 q2 => by rw [t5, s5, j4 j q1 q2]⟩
      · rw [zuR_ne (by decide), (y4 (cx + 1) (by omega)).2.2.2.2, (l4 (cx + 1) (by omega)).2.2.2.2, j5.1]
      · rw [zuR_ne (by decide), (y4 (cx + 2) (by omega)).2.2.2.2, (l4 (cx + 2) (by omega)).2.2.2.2, j5.2]
      · rw [fr 239 (by decide) (by omega), y5 j (by omega), l5 j (by omega)]
      · show zu _ _ _ _ 3088 2 = _
        simp (disch := omega) only [zu_nj, zuR_ne, zu_at]
        rw [bI 3088 (by omega)]
      · show zu _ _ _ _ 3088 3 = _
        simp (disch := omega) only [zu_nj, zuR_ne, zu_at]
      · show zu _ _ _ _ 3088 4 = _
        simp (disch := omega) only [zu_nj, zuR_ne, zu_at]
      · show zu _ _ _ _ 3088 5 = _
        simp (disch := omega) only [zu_nj, zuR_ne, zu_at]
      · show zu _ _ _ _ 3088 6 = _
        rw [zu_at]
      · show zu _ _ _ _ (32 * f 0 k + 7) 6 = _
        simp (disch := omega) only [zu_nj, zuR_ne, zu_at]
        rw [bI _ (by omega)]
      · rw [zu_at, bJ 11 (Or.inl (by unfold yFx; omega))]
        rfl
    obtain ⟨I6, hI6⟩ : ∃ I6, I6 = yTl I5 (32 * f 0 k + 7) w := ⟨_, rfl⟩
    rw [← hI6] at p177 p71 B
    have e10 : ¬ (1 : Int32) = 0 := by decide
    by_cases ha : yac w
    · rw [zyn_t ha] at p71
      have q := hY _ _ (some (.int dm)) ha B
      simp (decide := true) (disch := omega) only [p177, p71, e10, zi173, zt173, zo173_0, zo173_1, zo173_2, zo173_3, zo173_4, zo173_7, zy_ldI, zy_ldL, zy_ldA, zy_stI, zy_stL, zy_stA, zy_cI, zy_cL, zy_nul, zy_inc, zy_bI, zy_bL, zy_sL, zy_un, zy_cmp, zy_dup, zy_dup2, zy_pop, zy_pop2, zy_jn, zy_jnn, zy_go, zy_fal, zy_tsw, zy_lsw, zy_get, zy_put, zy_ald, zy_ast, zy_len, zy_newa, zy_new, zy_cal, zy_ret, zy_tak, zy_cst, zy_acp, zy_oini, zy_cln, zy_thr, zy_bad, zy_lco, zy_if0, zy_ic0, zy_if1, zy_ic1, zy_if2, zy_ic2, zy_if3, zy_ic3, zy_if4, zy_ic4, zy_if5, zy_ic5, zK_go, zK_to, zK_end, zK_callH, zK_iteC, zK_none, zsLd, zsSt, zsInc, zsBI, zsBL, zsSL, zsUn, zsCmp, zsDup, zsDup2, zsPop, zsPop2, zsJn, zsTsw, zsLsw, zsGet, zsPut, zsAld, zsAst, zsLen, zsNewa, zsCal, zsRet, zsCst, zsAcp, zsOini, zsCln, zsLco, zsThr, zxBI, zxBL, zxSL, zxU, zset1, zset2, zclr, zcat, zmake_mk, zcomp, zH_i, zH_l, zH_r, zH_u, zH_n, List.set_cons_zero, List.set_cons_succ, List.getElem?_cons_zero, List.getElem?_cons_succ, List.length_cons, List.length_nil, List.take_succ_cons, List.take_zero, List.drop_succ_cons, List.drop_zero, List.reverse_cons, List.reverse_nil, List.nil_append, List.cons_append, List.map_cons, List.map_nil, List.sum_cons, List.sum_nil, Option.toList_some, Option.toList_none, Value.category, Nat.reduceAdd, Nat.reduceMul, Nat.reduceMod, Nat.reduceDiv, Nat.reduceSub, Nat.reduceLT, Nat.reduceLeDiff, Nat.reduceEqDiff, Nat.zero_le, Nat.le_refl, Int32.reduceToNatClampNeg, Int32.reduceLT, Int32.reduceLE, Int32.reduceAdd, Int32.reduceSub, Int32.reduceMul, ↓reduceIte, reduceCtorEq, Nat.add_zero, Nat.zero_add, true_or, or_true, false_or, or_false, true_and, and_true, false_and, and_false, not_true_eq_false, not_false_eq_true, if_true, if_false, true_implies, false_implies, implies_true, forall_const, false_imp_iff, true_imp_iff, va_rf, zlay, zent, List.replicate_zero, List.append_nil, List.replicate_succ, List.length_append, ne_eq, Option.some.injEq, Value.int.injEq, Value.long.injEq, Int32.reduceOfNat, Int32.reduceToInt, Int.reduceLT, Int.reduceLE, Int.reduceSub, Int.reduceToNat, Int.reduceAdd, Int.reduceNeg, Int32.reduceDiv, Int64.reduceAdd, Int64.reduceSub, lg_cmp_ge, lg_cmp_le, lg_cmp_gt, lg_cmp_lt, lg_cmp_eq, wlt_t, wlt_f, wle_t, wle_f, wmod, wI_lt, wI_le, wI_eq, wI_neg, wI_pos, wI_cl, wI_ge, wI_po, w64_lt, w64_le, w64_eq, w64_lt0, w64_le0, w64_eq0, w64_32, zc317, zc319, wI_add, wI_a1, wI_s1, wI_e0, wI_m8, wI_m128, wI_m64, wI_m190, not_true_eq_false, not_false_eq_true, sP_11_0 hS, sP_11_3 hS, sP_11_4 hS, sP_11_5 hS, sP_649_10 hS, sP_2115_12 hS, sN_1040 hS, sN_6417 hS]
      exact q
    · rw [zyn_f ha] at p71
      have q := hN _ _ ha B
      simp (decide := true) (disch := omega) only [p177, p71, zi173, zt173, zo173_0, zo173_1, zo173_2, zo173_3, zo173_4, zo173_7, zy_ldI, zy_ldL, zy_ldA, zy_stI, zy_stL, zy_stA, zy_cI, zy_cL, zy_nul, zy_inc, zy_bI, zy_bL, zy_sL, zy_un, zy_cmp, zy_dup, zy_dup2, zy_pop, zy_pop2, zy_jn, zy_jnn, zy_go, zy_fal, zy_tsw, zy_lsw, zy_get, zy_put, zy_ald, zy_ast, zy_len, zy_newa, zy_new, zy_cal, zy_ret, zy_tak, zy_cst, zy_acp, zy_oini, zy_cln, zy_thr, zy_bad, zy_lco, zy_if0, zy_ic0, zy_if1, zy_ic1, zy_if2, zy_ic2, zy_if3, zy_ic3, zy_if4, zy_ic4, zy_if5, zy_ic5, zK_go, zK_to, zK_end, zK_callH, zK_iteC, zK_none, zsLd, zsSt, zsInc, zsBI, zsBL, zsSL, zsUn, zsCmp, zsDup, zsDup2, zsPop, zsPop2, zsJn, zsTsw, zsLsw, zsGet, zsPut, zsAld, zsAst, zsLen, zsNewa, zsCal, zsRet, zsCst, zsAcp, zsOini, zsCln, zsLco, zsThr, zxBI, zxBL, zxSL, zxU, zset1, zset2, zclr, zcat, zmake_mk, zcomp, zH_i, zH_l, zH_r, zH_u, zH_n, List.set_cons_zero, List.set_cons_succ, List.getElem?_cons_zero, List.getElem?_cons_succ, List.length_cons, List.length_nil, List.take_succ_cons, List.take_zero, List.drop_succ_cons, List.drop_zero, List.reverse_cons, List.reverse_nil, List.nil_append, List.cons_append, List.map_cons, List.map_nil, List.sum_cons, List.sum_nil, Option.toList_some, Option.toList_none, Value.category, Nat.reduceAdd, Nat.reduceMul, Nat.reduceMod, Nat.reduceDiv, Nat.reduceSub, Nat.reduceLT, Nat.reduceLeDiff, Nat.reduceEqDiff, Nat.zero_le, Nat.le_refl, Int32.reduceToNatClampNeg, Int32.reduceLT, Int32.reduceLE, Int32.reduceAdd, Int32.reduceSub, Int32.reduceMul, ↓reduceIte, reduceCtorEq, Nat.add_zero, Nat.zero_add, true_or, or_true, false_or, or_false, true_and, and_true, false_and, and_false, not_true_eq_false, not_false_eq_true, if_true, if_false, true_implies, false_implies, implies_true, forall_const, false_imp_iff, true_imp_iff, va_rf, zlay, zent, List.replicate_zero, List.append_nil, List.replicate_succ, List.length_append, ne_eq, Option.some.injEq, Value.int.injEq, Value.long.injEq, Int32.reduceOfNat, Int32.reduceToInt, Int.reduceLT, Int.reduceLE, Int.reduceSub, Int.reduceToNat, Int.reduceAdd, Int.reduceNeg, Int32.reduceDiv, Int64.reduceAdd, Int64.reduceSub, lg_cmp_ge, lg_cmp_le, lg_cmp_gt, lg_cmp_lt, lg_cmp_eq, wlt_t, wlt_f, wle_t, wle_f, wmod, wI_lt, wI_le, wI_eq, wI_neg, wI_pos, wI_cl, wI_ge, wI_po, w64_lt, w64_le, w64_eq, w64_lt0, w64_le0, w64_eq0, w64_32, zc317, zc319, wI_add, wI_a1, wI_s1, wI_e0, wI_m8, wI_m128, wI_m64, wI_m190, not_true_eq_false, not_false_eq_true, sP_11_0 hS, sP_11_3 hS, sP_11_4 hS, sP_11_5 hS, sP_649_10 hS, sP_2115_12 hS, sN_1040 hS, sN_6417 hS]
      exact q
end
