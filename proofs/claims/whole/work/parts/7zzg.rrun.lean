-- needs: 01 02.names 03 04 05 18 19 20 22 23 24 25 30 31 32 33 35 36 37 40 42 43 44 45 46 47 60 61 62 63 64 65 66 67 68 69 79f 79g 79h 79i 79j 79k 79l 79m 79n 79o 79p 79q 79r 79s 79t 79u 79v 79w 79x 79y 79z. 79za 79zb 79zc 79zd 79ze 79zf 79zg 79zh 79zi 79zj 79zk 79zl 79zm 79zn 79zo 79zp 79zq 79zr 79zs 79zt 79zu 79zv 7a 7b 7c 7d 7e 7f 7g 7zl 7zm 7zn 7zo 7h 7i 7j 7k 7l 7m 7n 7o 7p 7q 7r 7zj 7zk 7zp 7zq 7zr 7zs 7zt 7zu 79zw 7s 7t 7u 7v 7w 7x 7y 7z. 7za 7zb 7zc 7zd 7ze 7zf 7zg 7zh 7zi 7zv 7zw 7zx 7zy 7zz. 7zza 7zzb 7zzc 7zzd 7zze 7zzf
/-! Constants of a run, by the reference; a run whole -/
noncomputable def yct (p : Nat → Prop) : Nat → Nat
  | 0 => 0
  | m + 1 => yct p m + @ite Nat (p m) (Classical.propDecidable _) 1 0
section
variable {p : Nat → Prop}
theorem yct_t {m : Nat} (h : p m) : yct p (m + 1) = yct p m + 1 := by show yct p m + @ite Nat (p m) (Classical.propDecidable _) 1 0 = _; rw [if_pos h]
theorem yct_f {m : Nat} (h : ¬ p m) : yct p (m + 1) = yct p m := by show yct p m + @ite Nat (p m) (Classical.propDecidable _) 1 0 = _; rw [if_neg h]; rfl
theorem yct_l : ∀ m, yct p m ≤ m := by
  intro m
  induction m with
  | zero => exact Nat.le_refl _
  | succ m ih =>
    by_cases h : p m
    · rw [yct_t h]; omega
    · rw [yct_f h]; omega
theorem yct_g (m : Nat) : ∀ k, yct p m ≤ yct p (m + k) := by
  intro k
  induction k with
  | zero => exact Nat.le_refl _
  | succ k ih =>
    rw [← Nat.add_assoc]
    by_cases h : p (m + k)
    · rw [yct_t h]; omega
    · rw [yct_f h]; omega
theorem yct_s {m m' : Nat} (h : p m) (hm : m < m') : yct p m < yct p m' := by
  have := yct_g (p := p) (m + 1) (m' - (m + 1))
  rw [show m + 1 + (m' - (m + 1)) = m' by omega, yct_t h] at this
  omega
end
/-- how much the DATA of a run may take below node m -/
def ysS (xc xr xd ap K m : Nat) : Nat := (if K + 2 * (ap - 1) < m then xc else 0) + (if K + 2 * (ap - 2) < m then xr else 0) + (if ap = 3 ∧ K < m then xd else 0)
theorem ysS_0 {xc xr xd ap K : Nat} : ysS xc xr xd ap K 0 = 0 := by
  unfold ysS
  rw [if_neg (by omega), if_neg (by omega), if_neg (by omega)]
theorem ysS_m {xc xr xd ap K m : Nat} : ysS xc xr xd ap K m ≤ ysS xc xr xd ap K (m + 1) := by
  unfold ysS
  have a1 : (if K + 2 * (ap - 1) < m then xc else 0) ≤ if K + 2 * (ap - 1) < m + 1 then xc else 0 := by split <;> split <;> omega
  have a2 : (if K + 2 * (ap - 2) < m then xr else 0) ≤ if K + 2 * (ap - 2) < m + 1 then xr else 0 := by split <;> split <;> omega
  have a3 : (if ap = 3 ∧ K < m then xd else 0) ≤ if ap = 3 ∧ K < m + 1 then xd else 0 := by split <;> split <;> omega
  omega
theorem ysS_l {xc xr xd ap K m : Nat} : ysS xc xr xd ap K m ≤ xc + xr + xd := by
  unfold ysS
  have a1 : (if K + 2 * (ap - 1) < m then xc else 0) ≤ xc := by split <;> omega
  have a2 : (if K + 2 * (ap - 2) < m then xr else 0) ≤ xr := by split <;> omega
  have a3 : (if ap = 3 ∧ K < m then xd else 0) ≤ xd := by split <;> omega
  omega
theorem ysS_d {xc xr xd ap K j : Nat} (hap : ap = 2 ∨ ap = 3) (hj : j < ap) : ysS xc xr xd ap K (K + 2 * (ap - 1 - j)) + (if j = 0 then xc else if j = 1 then xr else xd) ≤ ysS xc xr xd ap K (K + 2 * (ap - 1 - j) + 1) := by
  unfold ysS
  have hs : j = 0 ∨ j = 1 ∨ (j = 2 ∧ ap = 3) := by omega
  have a1 : (if K + 2 * (ap - 1) < K + 2 * (ap - 1 - j) then xc else 0) ≤ if K + 2 * (ap - 1) < K + 2 * (ap - 1 - j) + 1 then xc else 0 := by split <;> split <;> omega
  have a2 : (if K + 2 * (ap - 2) < K + 2 * (ap - 1 - j) then xr else 0) ≤ if K + 2 * (ap - 2) < K + 2 * (ap - 1 - j) + 1 then xr else 0 := by split <;> split <;> omega
  have a3 : (if ap = 3 ∧ K < K + 2 * (ap - 1 - j) then xd else 0) ≤ if ap = 3 ∧ K < K + 2 * (ap - 1 - j) + 1 then xd else 0 := by split <;> split <;> omega
  rcases hs with rfl | rfl | ⟨rfl, h3⟩
  · rw [if_pos rfl]
    have b1 : (if K + 2 * (ap - 1) < K + 2 * (ap - 1 - 0) then xc else 0) = 0 := if_neg (by omega)
    have b2 : (if K + 2 * (ap - 1) < K + 2 * (ap - 1 - 0) + 1 then xc else 0) = xc := if_pos (by omega)
    omega
  · rw [if_neg (show ¬ 1 = 0 by omega), if_pos rfl]
    have b1 : (if K + 2 * (ap - 2) < K + 2 * (ap - 1 - 1) then xr else 0) = 0 := if_neg (by omega)
    have b2 : (if K + 2 * (ap - 2) < K + 2 * (ap - 1 - 1) + 1 then xr else 0) = xr := if_pos (by omega)
    omega
  · rw [if_neg (show ¬ 2 = 0 by omega), if_neg (show ¬ 2 = 1 by omega)]
    have b1 : (if ap = 3 ∧ K < K + 2 * (ap - 1 - 2) then xd else 0) = 0 := if_neg (by omega)
    have b2 : (if ap = 3 ∧ K < K + 2 * (ap - 1 - 2) + 1 then xd else 0) = xd := if_pos (by omega)
    omega
theorem yGn_c {I I' : zI} {J J' : zJ} {t : Nat} {d : yD} (h : ∀ c, c = 5840 ∨ c = 5872 ∨ c = 5936 ∨ c = 5968 ∨ c = 5999 → I' c = I c) (hj : J' 5905 = J 5905) (g : yGn I J t d) : yGn I' J' t d := by
  have e : yEh I' J' t = yEh I J t := by
    funext p f c x z y
    unfold yEh
    rw [h 5872 (by omega), h 5936 (by omega), h 5968 (by omega), h 5999 (by omega), hj]
  unfold yGn
  rw [e, h 5840 (by omega)]
  exact g
/-- the DATA of a run -/
def yDd (cx rd dm : yD) (j : Nat) : yD := if j = 0 then cx else if j = 1 then rd else dm
def ydm (d : yD) : Nat := ysm d.2.1 d.2.2.1 d.1
/-- is there a constant with this number? -/
def yip (Ks zs ws : Nat → Nat) (ap K m : Nat) : Prop := ∃ i, i < ap + K + ap ∧ yun zs ws ap K i = m ∧ 7 ≤ yKd Ks ap K i
/-- how the reference numbers values -/
noncomputable def yrr (Ks zs ws : Nat → Nat) (ap K v : Nat) : Nat := if v < 200 then yct (yip Ks zs ws ap K) (yun zs ws ap K v) else yct (yip Ks zs ws ap K) (ap + K + ap) + (v - 200)
section
variable {I I' I0 : zI} {J J' J0 : zJ} {P : zP} {N : Nat → Nat} {n z : Nat} {Q : Option Value → zS → Prop} {Ks zs ls ws Wd : Nat → Nat} {Vs : Nat → Int64} {Yb : Nat → Nat → Int32} {K ap : Nat} {cx rd dm : yD}
theorem yRh_of (h : ySc Ks zs ls ws Vs Wd Yb K) (hM : ap + K + ap ≤ 200) : yRh (yKd Ks ap K) (ap + K + ap) (yct (yip Ks zs ws ap K) (ap + K + ap)) (yrr Ks zs ws ap K) := by
  refine ⟨Nat.le_trans (yct_l _) hM, fun v hv => if_neg (by omega), fun v hv h7 => ?_⟩
  unfold yrr
  rw [if_pos (by omega)]
  exact yct_s ⟨v, hv, rfl, h7⟩ (yun_l h hv)
/-- what stands when the constants below m are made -/
def yIc (Ks zs ws Wd : Nat → Nat) (Vs : Nat → Int64) (Yb : Nat → Nat → Int32) (ap K : Nat) (cx rd dm : yD) (I : zI) (J : zJ) (I' : zI) (J' : zJ) (te de m : Nat) : Prop :=
  ((∀ c, c ≠ 4908 → c ≠ 5168 → c ≠ 5232 → c ≠ 5264 → c ≠ 5360 → c ≠ 5455 → c ≠ 5488 → c ≠ 5552 → c ≠ 5584 → c ≠ 6096 → c ≠ 5712 → I' c = I c) ∧ (∀ c, c ≠ 5201 → c ≠ 5521 → J' c = J c) ∧ ∀ j, j ≠ 19 → j ≠ 21 → j ≠ 26 → j ≠ 56 → I' 4908 j = I 4908 j) ∧
  (I' 4908 19 = nI (yct (yip Ks zs ws ap K) m) ∧ I' 4908 21 = nI te ∧ I' 4908 26 = nI de) ∧ (te ≤ 64 * m + ysS 12800 12800 200 ap K m ∧ de ≤ m + ysS 200 200 200 ap K m) ∧
  ∀ i, i < ap + K + ap → yun zs ws ap K i < m → 7 ≤ yKd Ks ap K i → I' 5712 (yun zs ws ap K i) = nI (yrr Ks zs ws ap K i) ∧ yRv I' J' de te 0 1 (yrr Ks zs ws ap K) (yun zs ws ap K) (yrr Ks zs ws ap K i) (ytb Ks Wd Vs Yb ap K cx rd dm i)
theorem yIc_n (h : ySc Ks zs ls ws Vs Wd Yb K) {te de m i : Nat} {x : Int32} (hM : ap + K + ap ≤ 200) (hi : i < ap + K + ap) (hu : yun zs ws ap K i = m) (h7 : yKd Ks ap K i < 7) (H : yIc Ks zs ws Wd Vs Yb ap K cx rd dm I J I' J' te de m) : yIc Ks zs ws Wd Vs Yb ap K cx rd dm I J (zu I' 5712 m x) J' te de (m + 1) := by
  obtain ⟨⟨a1, a2, a3⟩, ⟨a4, a5, a6⟩, ⟨a7, a8⟩, a9⟩ := H
  have np : ¬ yip Ks zs ws ap K m := fun ⟨k, k1, k2, k3⟩ => by
    have := yun_j h k1 hi (k2.trans hu.symm)
    subst this
    omega
  have s1 := ysS_m (xc := 12800) (xr := 12800) (xd := 200) (ap := ap) (K := K) (m := m)
  have s2 := ysS_m (xc := 200) (xr := 200) (xd := 200) (ap := ap) (K := K) (m := m)
  refine ⟨⟨fun c x1 x2 x3 x4 x5 x6 x7 x8 x9 x10 x11 => by rw [zuR_ne x11]; exact a1 c x1 x2 x3 x4 x5 x6 x7 x8 x9 x10 x11, a2, fun j x1 x2 x3 x4 => by rw [zuR_ne (by decide)]; exact a3 j x1 x2 x3 x4⟩, ⟨by rw [zuR_ne (by decide), yct_f np, a4], by rw [zuR_ne (by decide), a5], by rw [zuR_ne (by decide), a6]⟩, ⟨by omega, by omega⟩, fun k k1 k2 k3 => ?_⟩
  have ne : yun zs ws ap K k ≠ m := fun e => np ⟨k, k1, e, k3⟩
  obtain ⟨b1, b2⟩ := a9 k k1 (by omega) k3
  refine ⟨by rw [zu_nj ne]; exact b1, ?_⟩
  have g : yRg I' J' (zu I' 5712 m x) J' (yct (yip Ks zs ws ap K) (ap + K + ap)) te de 0 1 := by
    refine ⟨fun k _ => ⟨⟨?_, rfl, ?_, ?_⟩, ?_, ?_, ?_, ?_, ?_⟩, fun j _ => ?_, fun j _ => ⟨?_, rfl, ?_, ?_⟩, fun j _ => ?_, fun q _ => ⟨?_, ?_⟩⟩
    all_goals rw [zuR_ne (by decide)]
  exact yRv_g ((yRh_of h hM).2.2 k k1 k3) (Nat.le_refl _) (Nat.le_refl _) (Nat.le_refl _) (Nat.le_refl _) g b2
theorem yIc_s (h : ySc Ks zs ls ws Vs Wd Yb K) {te de te' de' m i : Nat} {I2 : zI} {J2 : zJ} (hM : ap + K + ap ≤ 200) (hi : i < ap + K + ap) (hu : yun zs ws ap K i = m) (h7 : 7 ≤ yKd Ks ap K i) (H : yIc Ks zs ws Wd Vs Yb ap K cx rd dm I J I' J' te de m) (ht : te' ≤ 64 * (m + 1) + ysS 12800 12800 200 ap K (m + 1)) (hd : de' ≤ m + 1 + ysS 200 200 200 ap K (m + 1)) (o : yRo I' J' I2 J2 (yct (yip Ks zs ws ap K) m) te de 0 1 te' de' (yrr Ks zs ws ap K) (yun zs ws ap K) (ytb Ks Wd Vs Yb ap K cx rd dm i)) : yIc Ks zs ws Wd Vs Yb ap K cx rd dm I J (zu I2 5712 m (nI (yct (yip Ks zs ws ap K) m))) J2 te' de' (m + 1) := by
  obtain ⟨⟨a1, a2, a3⟩, ⟨a4, a5, a6⟩, ⟨a7, a8⟩, a9⟩ := H
  have hp : yip Ks zs ws ap K m := ⟨i, hi, hu, h7⟩
  obtain ⟨⟨o1, o2⟩, o3, ⟨o4, o5, o6⟩, ⟨o7, -, o9, -⟩, og, ov⟩ := o
  have g : ∀ vc, yRg I2 J2 (zu I2 5712 m (nI (yct (yip Ks zs ws ap K) m))) J2 vc te' de' 0 1 := by
    intro vc
    refine ⟨fun k _ => ⟨⟨?_, rfl, ?_, ?_⟩, ?_, ?_, ?_, ?_, ?_⟩, fun j _ => ?_, fun j _ => ⟨?_, rfl, ?_, ?_⟩, fun j _ => ?_, fun q _ => ⟨?_, ?_⟩⟩
    all_goals rw [zuR_ne (by decide)]
  refine ⟨⟨fun c x1 x2 x3 x4 x5 x6 x7 x8 x9 x10 x11 => by rw [zuR_ne x11, o1 c x1 x2 x3 x4 x5 x6 x7 x8 x9 x10]; exact a1 c x1 x2 x3 x4 x5 x6 x7 x8 x9 x10 x11, fun c x1 x2 => (o2 c x1 x2).trans (a2 c x1 x2), fun j x1 x2 x3 x4 => by rw [zuR_ne (by decide), o3 j x1 x2 x3 x4]; exact a3 j x1 x2 x3 x4⟩, ⟨by rw [zuR_ne (by decide), yct_t hp, o4], by rw [zuR_ne (by decide), o5], by rw [zuR_ne (by decide), o6]⟩, ⟨ht, hd⟩, fun k k1 k2 k3 => ?_⟩
  have rk : yrr Ks zs ws ap K k = yct (yip Ks zs ws ap K) (yun zs ws ap K k) := if_pos (by omega)
  by_cases e : k = i
  · subst e
    rw [hu] at rk
    rw [rk, hu]
    exact ⟨zu_at, yRv_g (Nat.lt_succ_self _) (Nat.le_refl _) (Nat.le_refl _) (Nat.le_refl _) (Nat.le_refl _) (g _) ov⟩
  · have ne : yun zs ws ap K k ≠ m := fun e' => e (yun_j h k1 hi (e'.trans hu.symm))
    obtain ⟨b1, b2⟩ := a9 k k1 (by omega) k3
    have lt : yrr Ks zs ws ap K k < yct (yip Ks zs ws ap K) m := by
      rw [rk]
      exact yct_s ⟨k, k1, rfl, k3⟩ (by omega)
    refine ⟨?_, yRv_g lt (Nat.le_refl _) (Nat.le_refl _) (Nat.le_refl _) (Nat.le_refl _) (g _) (yRv_g lt o7 o9 (Nat.le_refl _) (Nat.le_refl _) og b2)⟩
    rw [zu_nj ne, o1 5712 (by decide) (by decide) (by decide) (by decide) (by decide) (by decide) (by decide) (by decide) (by decide) (by decide)]
    exact b1
set_option maxRecDepth 20000 in
set_option maxHeartbeats 8000000 in
/-- the constants, one after another -/
theorem l225c {w1 w2 : Option Value} (hS : zStat P N) (h : ySc Ks zs ls ws Vs Wd Yb K) (hap : ap = 2 ∨ ap = 3) (hk : ∀ i, i < ap + K + ap → yKf Ks zs ws Wd Vs Yb I J ap K i) (gc : yGn I J 2 cx) (gr : yGn I J 1 rd) (gd : ap = 3 → yGn I J 0 dm) (wc : ywf cx) (wr : ywf rd) (wd : ap = 3 → ywf dm) (xc : ydm cx ≤ 12800) (xr : ydm rd ≤ 12800) (xd : ap = 3 → ydm dm ≤ 200)
    (hQ : ∀ I' J' te de, yIc Ks zs ws Wd Vs Yb ap K cx rd dm I J I' J' te de (ap + K + ap) → zQ zt225 zo225_10 [some (.ref 4908), w1, w2, some (.int (nI (ap + K + ap - 1))), some (.int (nI (ap + K + ap)))] [] (I', J', P, N, n, z) Q) : ∀ q m (I1 : zI) (J1 : zJ) te de, m + q = ap + K + ap → yIc Ks zs ws Wd Vs Yb ap K cx rd dm I J I1 J1 te de m → zQ zt225 zo225_9 [some (.ref 4908), w1, w2, some (.int (nI (ap + K + ap - 1))), some (.int (nI m))] [] (I1, J1, P, N, n, z) Q := by
  have h0 := h.1
  have hc := yco_of h hap
  have hM : ap + K + ap ≤ 200 := hc.1
  intro q
  induction q with
  | zero =>
    intro m I1 J1 te de hm H
    obtain rfl : m = ap + K + ap := by omega
    have t1 : nI (ap + K + ap - 1) < nI (ap + K + ap) := by rw [wI_lt (by omega) (by omega)]; omega
    have q := hQ I1 J1 te de H
    rw [zo225_9]
    simp (decide := true) (disch := omega) only [t1, zi225, zt225, zo225_0, zo225_1, zo225_2, zo225_3, zo225_4, zo225_5, zo225_6, zo225_7, zo225_8, zo225_11, zo225_12, zo225_13, zo225_14, zy_ldI, zy_ldL, zy_ldA, zy_stI, zy_stL, zy_stA, zy_cI, zy_cL, zy_nul, zy_inc, zy_bI, zy_bL, zy_sL, zy_un, zy_cmp, zy_dup, zy_dup2, zy_pop, zy_pop2, zy_jn, zy_jnn, zy_go, zy_fal, zy_tsw, zy_lsw, zy_get, zy_put, zy_ald, zy_ast, zy_len, zy_newa, zy_new, zy_cal, zy_ret, zy_tak, zy_cst, zy_acp, zy_oini, zy_cln, zy_thr, zy_bad, zy_lco, zy_if0, zy_ic0, zy_if1, zy_ic1, zy_if2, zy_ic2, zy_if3, zy_ic3, zy_if4, zy_ic4, zy_if5, zy_ic5, zK_go, zK_to, zK_end, zK_callH, zK_iteC, zK_none, zsLd, zsSt, zsInc, zsBI, zsBL, zsSL, zsUn, zsCmp, zsDup, zsDup2, zsPop, zsPop2, zsJn, zsTsw, zsLsw, zsGet, zsPut, zsAld, zsAst, zsLen, zsNewa, zsCal, zsRet, zsCst, zsAcp, zsOini, zsCln, zsLco, zsThr, zxBI, zxBL, zxSL, zxU, zset1, zset2, zclr, zcat, zmake_mk, zcomp, zH_i, zH_l, zH_r, zH_u, zH_n, List.set_cons_zero, List.set_cons_succ, List.getElem?_cons_zero, List.getElem?_cons_succ, List.length_cons, List.length_nil, List.take_succ_cons, List.take_zero, List.drop_succ_cons, List.drop_zero, List.reverse_cons, List.reverse_nil, List.nil_append, List.cons_append, List.map_cons, List.map_nil, List.sum_cons, List.sum_nil, Option.toList_some, Option.toList_none, Value.category, Nat.reduceAdd, Nat.reduceMul, Nat.reduceMod, Nat.reduceDiv, Nat.reduceSub, Nat.reduceLT, Nat.reduceLeDiff, Nat.reduceEqDiff, Nat.zero_le, Nat.le_refl, Int32.reduceToNatClampNeg, Int32.reduceLT, Int32.reduceLE, Int32.reduceAdd, Int32.reduceSub, Int32.reduceMul, ↓reduceIte, reduceCtorEq, Nat.add_zero, Nat.zero_add, true_or, or_true, false_or, or_false, true_and, and_true, false_and, and_false, not_true_eq_false, not_false_eq_true, if_true, if_false, true_implies, false_implies, implies_true, forall_const, false_imp_iff, true_imp_iff, va_rf, zlay, zent, List.replicate_zero, List.append_nil, List.replicate_succ, List.length_append, ne_eq, Option.some.injEq, Value.int.injEq, Value.long.injEq, Int32.reduceOfNat, Int32.reduceToInt, Int.reduceLT, Int.reduceLE, Int.reduceSub, Int.reduceToNat, Int.reduceAdd, Int.reduceNeg, Int32.reduceDiv, Int64.reduceAdd, Int64.reduceSub, lg_cmp_ge, lg_cmp_le, lg_cmp_gt, lg_cmp_lt, lg_cmp_eq, wlt_t, wlt_f, wle_t, wle_f, wmod, wI_lt, wI_le, wI_eq, wI_neg, wI_pos, wI_cl, wI_ge, wI_po, w64_lt, w64_le, w64_eq, w64_lt0, w64_le0, w64_eq0, w64_32, zc317, zc319, wI_add, wI_a1, wI_s1, wI_e0, wI_m8, wI_m128, wI_m64, wI_m190, not_true_eq_false, not_false_eq_true, sP_4908_5 hS, sP_4908_8 hS, sP_4908_29 hS, sP_4908_30 hS, sN_5072 hS, sN_5136 hS, sN_5648 hS, sN_5680 hS, sN_6417 hS]
    exact q
  | succ q ih =>
    intro m I1 J1 te de hm H
    have t1 : ¬ nI (ap + K + ap - 1) < nI m := by rw [wI_lt (by omega) (by omega)]; omega
    obtain ⟨i, i1, i2⟩ := yun_s2 h (show m < ap + K + ap by omega)
    have m200 : m < 200 := by omega
    have H' := H
    obtain ⟨⟨a1, a2, a3⟩, ⟨a4, a5, a6⟩, ⟨a7, a8⟩, -⟩ := H'
    have fr : ∀ c, c = 4944 ∨ c = 5008 ∨ c = 5040 ∨ c = 5103 ∨ (5840 ≤ c ∧ c < 6000) → I1 c = I c := fun c x => a1 c (by omega) (by omega) (by omega) (by omega) (by omega) (by omega) (by omega) (by omega) (by omega) (by omega) (by omega)
    obtain ⟨f1, f2, -, -, -, -, f8⟩ := yKf_x (I' := I1) (J' := J1) (fr 4944 (by omega)) (fr 5008 (by omega)) (fr 5040 (by omega)) (fr 5103 (by omega)) (a2 4977 (by decide) (by decide)) (hk i i1)
    rw [i2] at f1 f2 f8
    have v1 : yct (yip Ks zs ws ap K) m ≤ m := yct_l m
    have sl := ysS_l (xc := 12800) (xr := 12800) (xd := 200) (ap := ap) (K := K) (m := m)
    have sl2 := ysS_l (xc := 200) (xr := 200) (xd := 200) (ap := ap) (K := K) (m := m)
    have s1 := ysS_m (xc := 12800) (xr := 12800) (xd := 200) (ap := ap) (K := K) (m := m)
    have s2 := ysS_m (xc := 200) (xr := 200) (xd := 200) (ap := ap) (K := K) (m := m)
    have nx := ih (m + 1)
    rw [zo225_9]
    by_cases h7 : yKd Ks ap K i < 7
    · have hd : i < ap + K := Nat.lt_of_not_le fun hh => by
        have e : yKd Ks ap K i = 11 := by unfold yKd; rw [if_neg (by omega), if_neg (by omega)]
        omega
      obtain ⟨k, hk7⟩ : ∃ k, k = nI (yKd Ks ap K i) := ⟨_, rfl⟩
      have kk : k = 0 ∨ k = 1 ∨ k = 2 ∨ k = 3 ∨ k = 4 ∨ k = 5 ∨ k = 6 := by
        rw [hk7]
        have hs : yKd Ks ap K i = 0 ∨ yKd Ks ap K i = 1 ∨ yKd Ks ap K i = 2 ∨ yKd Ks ap K i = 3 ∨ yKd Ks ap K i = 4 ∨ yKd Ks ap K i = 5 ∨ yKd Ks ap K i = 6 := by omega
        rcases hs with e | e | e | e | e | e | e <;> rw [e] <;> decide
      have p219 := fun (Q : Option Value → zS → Prop) => m219n (I := I1) (J := J1) (n := n) (z := z) (m := m) (k := k) hS m200 ((f1 hd).1.trans hk7.symm) kk Q
      have q := nx _ J1 te de (by omega) (yIc_n h hM i1 i2 h7 (x := -1) H)
      simp (decide := true) (disch := omega) only [t1, p219, zi225, zt225, zo225_0, zo225_1, zo225_2, zo225_3, zo225_4, zo225_5, zo225_6, zo225_7, zo225_8, zo225_11, zo225_12, zo225_13, zo225_14, zy_ldI, zy_ldL, zy_ldA, zy_stI, zy_stL, zy_stA, zy_cI, zy_cL, zy_nul, zy_inc, zy_bI, zy_bL, zy_sL, zy_un, zy_cmp, zy_dup, zy_dup2, zy_pop, zy_pop2, zy_jn, zy_jnn, zy_go, zy_fal, zy_tsw, zy_lsw, zy_get, zy_put, zy_ald, zy_ast, zy_len, zy_newa, zy_new, zy_cal, zy_ret, zy_tak, zy_cst, zy_acp, zy_oini, zy_cln, zy_thr, zy_bad, zy_lco, zy_if0, zy_ic0, zy_if1, zy_ic1, zy_if2, zy_ic2, zy_if3, zy_ic3, zy_if4, zy_ic4, zy_if5, zy_ic5, zK_go, zK_to, zK_end, zK_callH, zK_iteC, zK_none, zsLd, zsSt, zsInc, zsBI, zsBL, zsSL, zsUn, zsCmp, zsDup, zsDup2, zsPop, zsPop2, zsJn, zsTsw, zsLsw, zsGet, zsPut, zsAld, zsAst, zsLen, zsNewa, zsCal, zsRet, zsCst, zsAcp, zsOini, zsCln, zsLco, zsThr, zxBI, zxBL, zxSL, zxU, zset1, zset2, zclr, zcat, zmake_mk, zcomp, zH_i, zH_l, zH_r, zH_u, zH_n, List.set_cons_zero, List.set_cons_succ, List.getElem?_cons_zero, List.getElem?_cons_succ, List.length_cons, List.length_nil, List.take_succ_cons, List.take_zero, List.drop_succ_cons, List.drop_zero, List.reverse_cons, List.reverse_nil, List.nil_append, List.cons_append, List.map_cons, List.map_nil, List.sum_cons, List.sum_nil, Option.toList_some, Option.toList_none, Value.category, Nat.reduceAdd, Nat.reduceMul, Nat.reduceMod, Nat.reduceDiv, Nat.reduceSub, Nat.reduceLT, Nat.reduceLeDiff, Nat.reduceEqDiff, Nat.zero_le, Nat.le_refl, Int32.reduceToNatClampNeg, Int32.reduceLT, Int32.reduceLE, Int32.reduceAdd, Int32.reduceSub, Int32.reduceMul, ↓reduceIte, reduceCtorEq, Nat.add_zero, Nat.zero_add, true_or, or_true, false_or, or_false, true_and, and_true, false_and, and_false, not_true_eq_false, not_false_eq_true, if_true, if_false, true_implies, false_implies, implies_true, forall_const, false_imp_iff, true_imp_iff, va_rf, zlay, zent, List.replicate_zero, List.append_nil, List.replicate_succ, List.length_append, ne_eq, Option.some.injEq, Value.int.injEq, Value.long.injEq, Int32.reduceOfNat, Int32.reduceToInt, Int.reduceLT, Int.reduceLE, Int.reduceSub, Int.reduceToNat, Int.reduceAdd, Int.reduceNeg, Int32.reduceDiv, Int64.reduceAdd, Int64.reduceSub, lg_cmp_ge, lg_cmp_le, lg_cmp_gt, lg_cmp_lt, lg_cmp_eq, wlt_t, wlt_f, wle_t, wle_f, wmod, wI_lt, wI_le, wI_eq, wI_neg, wI_pos, wI_cl, wI_ge, wI_po, w64_lt, w64_le, w64_eq, w64_lt0, w64_le0, w64_eq0, w64_32, zc317, zc319, wI_add, wI_a1, wI_s1, wI_e0, wI_m8, wI_m128, wI_m64, wI_m190, not_true_eq_false, not_false_eq_true, sP_4908_5 hS, sP_4908_8 hS, sP_4908_29 hS, sP_4908_30 hS, sN_5072 hS, sN_5136 hS, sN_5648 hS, sN_5680 hS, sN_6417 hS]
      exact q
    · by_cases hd : i < ap + K
      · have ha : ¬ i < ap := fun hh => h7 (by unfold yKd; rw [if_pos hh]; omega)
        obtain ⟨j, rfl⟩ : ∃ j, i = ap + j := ⟨i - ap, by omega⟩
        have e1 : yKd Ks ap K (ap + j) = Ks j := by unfold yKd; rw [if_neg ha, if_pos hd, show ap + j - ap = j by omega]
        have n1 : yNd Vs ap K (ap + j) = Vs j := by unfold yNd; rw [if_pos ⟨by omega, hd⟩, show ap + j - ap = j by omega]
        have tb : ytb Ks Wd Vs Yb ap K cx rd dm (ap + j) = ycv (Ks j) (Vs j) (Wd j) (Yb j) := by unfold ytb; rw [if_pos hd, show ap + j - ap = j by omega]
        have g1 := f1 hd
        rw [e1, n1] at g1
        have g8 := f8 hd
        rw [e1, show ap + j - ap = j by omega] at g8
        obtain ⟨⟨-, -, -, -, b5⟩, -, -, -, -, -, -, -, -, b8⟩ := h.2 j (by omega)
        simp (decide := true) (disch := omega) only [t1, zi225, zt225, zo225_0, zo225_1, zo225_2, zo225_3, zo225_4, zo225_5, zo225_6, zo225_7, zo225_8, zo225_11, zo225_12, zo225_13, zo225_14, zy_ldI, zy_ldL, zy_ldA, zy_stI, zy_stL, zy_stA, zy_cI, zy_cL, zy_nul, zy_inc, zy_bI, zy_bL, zy_sL, zy_un, zy_cmp, zy_dup, zy_dup2, zy_pop, zy_pop2, zy_jn, zy_jnn, zy_go, zy_fal, zy_tsw, zy_lsw, zy_get, zy_put, zy_ald, zy_ast, zy_len, zy_newa, zy_new, zy_cal, zy_ret, zy_tak, zy_cst, zy_acp, zy_oini, zy_cln, zy_thr, zy_bad, zy_lco, zy_if0, zy_ic0, zy_if1, zy_ic1, zy_if2, zy_ic2, zy_if3, zy_ic3, zy_if4, zy_ic4, zy_if5, zy_ic5, zK_go, zK_to, zK_end, zK_callH, zK_iteC, zK_none, zsLd, zsSt, zsInc, zsBI, zsBL, zsSL, zsUn, zsCmp, zsDup, zsDup2, zsPop, zsPop2, zsJn, zsTsw, zsLsw, zsGet, zsPut, zsAld, zsAst, zsLen, zsNewa, zsCal, zsRet, zsCst, zsAcp, zsOini, zsCln, zsLco, zsThr, zxBI, zxBL, zxSL, zxU, zset1, zset2, zclr, zcat, zmake_mk, zcomp, zH_i, zH_l, zH_r, zH_u, zH_n, List.set_cons_zero, List.set_cons_succ, List.getElem?_cons_zero, List.getElem?_cons_succ, List.length_cons, List.length_nil, List.take_succ_cons, List.take_zero, List.drop_succ_cons, List.drop_zero, List.reverse_cons, List.reverse_nil, List.nil_append, List.cons_append, List.map_cons, List.map_nil, List.sum_cons, List.sum_nil, Option.toList_some, Option.toList_none, Value.category, Nat.reduceAdd, Nat.reduceMul, Nat.reduceMod, Nat.reduceDiv, Nat.reduceSub, Nat.reduceLT, Nat.reduceLeDiff, Nat.reduceEqDiff, Nat.zero_le, Nat.le_refl, Int32.reduceToNatClampNeg, Int32.reduceLT, Int32.reduceLE, Int32.reduceAdd, Int32.reduceSub, Int32.reduceMul, ↓reduceIte, reduceCtorEq, Nat.add_zero, Nat.zero_add, true_or, or_true, false_or, or_false, true_and, and_true, false_and, and_false, not_true_eq_false, not_false_eq_true, if_true, if_false, true_implies, false_implies, implies_true, forall_const, false_imp_iff, true_imp_iff, va_rf, zlay, zent, List.replicate_zero, List.append_nil, List.replicate_succ, List.length_append, ne_eq, Option.some.injEq, Value.int.injEq, Value.long.injEq, Int32.reduceOfNat, Int32.reduceToInt, Int.reduceLT, Int.reduceLE, Int.reduceSub, Int.reduceToNat, Int.reduceAdd, Int.reduceNeg, Int32.reduceDiv, Int64.reduceAdd, Int64.reduceSub, lg_cmp_ge, lg_cmp_le, lg_cmp_gt, lg_cmp_lt, lg_cmp_eq, wlt_t, wlt_f, wle_t, wle_f, wmod, wI_lt, wI_le, wI_eq, wI_neg, wI_pos, wI_cl, wI_ge, wI_po, w64_lt, w64_le, w64_eq, w64_lt0, w64_le0, w64_eq0, w64_32, zc317, zc319, wI_add, wI_a1, wI_s1, wI_e0, wI_m8, wI_m128, wI_m64, wI_m190, not_true_eq_false, not_false_eq_true, sP_4908_5 hS, sP_4908_8 hS, sP_4908_29 hS, sP_4908_30 hS, sN_5072 hS, sN_5136 hS, sN_5648 hS, sN_5680 hS, sN_6417 hS]
        refine e219 (m := m) (k := Ks j) (w := Wd j) (x := Vs j) (y := Yb j) (te := te) (de := de) (re := 0) (rm := 1) (r := yrr Ks zs ws ap K) (u := yun zs ws ap K) hS m200 ⟨by omega, b5⟩ g1.1 g1.2 (fun h8 => ⟨(b8 h8).1, (b8 h8).2.1, fun b hb => ⟨g8 h8 b hb, (b8 h8).2.2 b hb⟩⟩) (by omega) a4 a5 a6 (by omega) (by omega) (fun I2 J2 te' de' x1 x2 o => ?_)
        have q := nx _ J2 te' de' (by omega) (yIc_s h hM i1 i2 (by omega) H (by omega) (by omega) (by rw [tb]; exact o))
        simp (decide := true) (disch := omega) only [zi225, zt225, zo225_0, zo225_1, zo225_2, zo225_3, zo225_4, zo225_5, zo225_6, zo225_7, zo225_8, zo225_11, zo225_12, zo225_13, zo225_14, zy_ldI, zy_ldL, zy_ldA, zy_stI, zy_stL, zy_stA, zy_cI, zy_cL, zy_nul, zy_inc, zy_bI, zy_bL, zy_sL, zy_un, zy_cmp, zy_dup, zy_dup2, zy_pop, zy_pop2, zy_jn, zy_jnn, zy_go, zy_fal, zy_tsw, zy_lsw, zy_get, zy_put, zy_ald, zy_ast, zy_len, zy_newa, zy_new, zy_cal, zy_ret, zy_tak, zy_cst, zy_acp, zy_oini, zy_cln, zy_thr, zy_bad, zy_lco, zy_if0, zy_ic0, zy_if1, zy_ic1, zy_if2, zy_ic2, zy_if3, zy_ic3, zy_if4, zy_ic4, zy_if5, zy_ic5, zK_go, zK_to, zK_end, zK_callH, zK_iteC, zK_none, zsLd, zsSt, zsInc, zsBI, zsBL, zsSL, zsUn, zsCmp, zsDup, zsDup2, zsPop, zsPop2, zsJn, zsTsw, zsLsw, zsGet, zsPut, zsAld, zsAst, zsLen, zsNewa, zsCal, zsRet, zsCst, zsAcp, zsOini, zsCln, zsLco, zsThr, zxBI, zxBL, zxSL, zxU, zset1, zset2, zclr, zcat, zmake_mk, zcomp, zH_i, zH_l, zH_r, zH_u, zH_n, List.set_cons_zero, List.set_cons_succ, List.getElem?_cons_zero, List.getElem?_cons_succ, List.length_cons, List.length_nil, List.take_succ_cons, List.take_zero, List.drop_succ_cons, List.drop_zero, List.reverse_cons, List.reverse_nil, List.nil_append, List.cons_append, List.map_cons, List.map_nil, List.sum_cons, List.sum_nil, Option.toList_some, Option.toList_none, Value.category, Nat.reduceAdd, Nat.reduceMul, Nat.reduceMod, Nat.reduceDiv, Nat.reduceSub, Nat.reduceLT, Nat.reduceLeDiff, Nat.reduceEqDiff, Nat.zero_le, Nat.le_refl, Int32.reduceToNatClampNeg, Int32.reduceLT, Int32.reduceLE, Int32.reduceAdd, Int32.reduceSub, Int32.reduceMul, ↓reduceIte, reduceCtorEq, Nat.add_zero, Nat.zero_add, true_or, or_true, false_or, or_false, true_and, and_true, false_and, and_false, not_true_eq_false, not_false_eq_true, if_true, if_false, true_implies, false_implies, implies_true, forall_const, false_imp_iff, true_imp_iff, va_rf, zlay, zent, List.replicate_zero, List.append_nil, List.replicate_succ, List.length_append, ne_eq, Option.some.injEq, Value.int.injEq, Value.long.injEq, Int32.reduceOfNat, Int32.reduceToInt, Int.reduceLT, Int.reduceLE, Int.reduceSub, Int.reduceToNat, Int.reduceAdd, Int.reduceNeg, Int32.reduceDiv, Int64.reduceAdd, Int64.reduceSub, lg_cmp_ge, lg_cmp_le, lg_cmp_gt, lg_cmp_lt, lg_cmp_eq, wlt_t, wlt_f, wle_t, wle_f, wmod, wI_lt, wI_le, wI_eq, wI_neg, wI_pos, wI_cl, wI_ge, wI_po, w64_lt, w64_le, w64_eq, w64_lt0, w64_le0, w64_eq0, w64_32, zc317, zc319, wI_add, wI_a1, wI_s1, wI_e0, wI_m8, wI_m128, wI_m64, wI_m190, not_true_eq_false, not_false_eq_true, sP_4908_5 hS, sP_4908_8 hS, sP_4908_29 hS, sP_4908_30 hS, sN_5072 hS, sN_5136 hS, sN_5648 hS, sN_5680 hS, sN_6417 hS]
        exact q
      · obtain ⟨j, rfl⟩ : ∃ j, i = ap + K + j := ⟨i - (ap + K), by omega⟩
        have hj : j < ap := by omega
        have e1 : m = K + 2 * (ap - 1 - j) := by rw [← i2, yun_d]
        have g2 := f2 (by omega)
        rw [show ap + K + j - (ap + K) = j by omega] at g2
        have tb : ytb Ks Wd Vs Yb ap K cx rd dm (ap + K + j) = yvD (yDd cx rd dm j) := by
          unfold ytb yDd
          rw [if_neg hd]
          have hs : j = 0 ∨ j = 1 ∨ j = 2 := by omega
          rcases hs with rfl | rfl | rfl
          · rw [if_pos (by omega), if_pos rfl]
          · rw [if_neg (by omega), if_pos (by omega), if_neg (by omega), if_pos rfl]
          · rw [if_neg (by omega), if_neg (by omega), if_neg (by omega), if_neg (by omega)]
        have key : yGn I J (2 - j) (yDd cx rd dm j) ∧ ywf (yDd cx rd dm j) ∧ ydm (yDd cx rd dm j) ≤ if j = 0 then 12800 else if j = 1 then 12800 else 200 := by
          have hs : j = 0 ∨ j = 1 ∨ j = 2 := by omega
          rcases hs with rfl | rfl | rfl
          · exact ⟨gc, wc, xc⟩
          · exact ⟨gr, wr, xr⟩
          · exact ⟨gd (by omega), wd (by omega), xd (by omega)⟩
        obtain ⟨y1, y2, y3⟩ := key
        have b2 : (if j = 0 then 12800 else if j = 1 then 12800 else 200) ≤ 12800 := by split <;> (try split) <;> omega
        have b3 : (if j = 0 then 200 else if j = 1 then 200 else 200) = 200 := by split <;> (try split) <;> omega
        have c1 := ysS_d (xc := 12800) (xr := 12800) (xd := 200) (K := K) hap hj
        have c2 := ysS_d (xc := 200) (xr := 200) (xd := 200) (K := K) hap hj
        rw [← e1] at c1 c2
        rw [b3] at c2
        have y4 : (yDd cx rd dm j).1 ≤ 200 := y1.2.1
        have y5 : ysm (yDd cx rd dm j).2.1 (yDd cx rd dm j).2.2.1 (yDd cx rd dm j).1 = ydm (yDd cx rd dm j) := rfl
        simp (decide := true) (disch := omega) only [t1, zi225, zt225, zo225_0, zo225_1, zo225_2, zo225_3, zo225_4, zo225_5, zo225_6, zo225_7, zo225_8, zo225_11, zo225_12, zo225_13, zo225_14, zy_ldI, zy_ldL, zy_ldA, zy_stI, zy_stL, zy_stA, zy_cI, zy_cL, zy_nul, zy_inc, zy_bI, zy_bL, zy_sL, zy_un, zy_cmp, zy_dup, zy_dup2, zy_pop, zy_pop2, zy_jn, zy_jnn, zy_go, zy_fal, zy_tsw, zy_lsw, zy_get, zy_put, zy_ald, zy_ast, zy_len, zy_newa, zy_new, zy_cal, zy_ret, zy_tak, zy_cst, zy_acp, zy_oini, zy_cln, zy_thr, zy_bad, zy_lco, zy_if0, zy_ic0, zy_if1, zy_ic1, zy_if2, zy_ic2, zy_if3, zy_ic3, zy_if4, zy_ic4, zy_if5, zy_ic5, zK_go, zK_to, zK_end, zK_callH, zK_iteC, zK_none, zsLd, zsSt, zsInc, zsBI, zsBL, zsSL, zsUn, zsCmp, zsDup, zsDup2, zsPop, zsPop2, zsJn, zsTsw, zsLsw, zsGet, zsPut, zsAld, zsAst, zsLen, zsNewa, zsCal, zsRet, zsCst, zsAcp, zsOini, zsCln, zsLco, zsThr, zxBI, zxBL, zxSL, zxU, zset1, zset2, zclr, zcat, zmake_mk, zcomp, zH_i, zH_l, zH_r, zH_u, zH_n, List.set_cons_zero, List.set_cons_succ, List.getElem?_cons_zero, List.getElem?_cons_succ, List.length_cons, List.length_nil, List.take_succ_cons, List.take_zero, List.drop_succ_cons, List.drop_zero, List.reverse_cons, List.reverse_nil, List.nil_append, List.cons_append, List.map_cons, List.map_nil, List.sum_cons, List.sum_nil, Option.toList_some, Option.toList_none, Value.category, Nat.reduceAdd, Nat.reduceMul, Nat.reduceMod, Nat.reduceDiv, Nat.reduceSub, Nat.reduceLT, Nat.reduceLeDiff, Nat.reduceEqDiff, Nat.zero_le, Nat.le_refl, Int32.reduceToNatClampNeg, Int32.reduceLT, Int32.reduceLE, Int32.reduceAdd, Int32.reduceSub, Int32.reduceMul, ↓reduceIte, reduceCtorEq, Nat.add_zero, Nat.zero_add, true_or, or_true, false_or, or_false, true_and, and_true, false_and, and_false, not_true_eq_false, not_false_eq_true, if_true, if_false, true_implies, false_implies, implies_true, forall_const, false_imp_iff, true_imp_iff, va_rf, zlay, zent, List.replicate_zero, List.append_nil, List.replicate_succ, List.length_append, ne_eq, Option.some.injEq, Value.int.injEq, Value.long.injEq, Int32.reduceOfNat, Int32.reduceToInt, Int.reduceLT, Int.reduceLE, Int.reduceSub, Int.reduceToNat, Int.reduceAdd, Int.reduceNeg, Int32.reduceDiv, Int64.reduceAdd, Int64.reduceSub, lg_cmp_ge, lg_cmp_le, lg_cmp_gt, lg_cmp_lt, lg_cmp_eq, wlt_t, wlt_f, wle_t, wle_f, wmod, wI_lt, wI_le, wI_eq, wI_neg, wI_pos, wI_cl, wI_ge, wI_po, w64_lt, w64_le, w64_eq, w64_lt0, w64_le0, w64_eq0, w64_32, zc317, zc319, wI_add, wI_a1, wI_s1, wI_e0, wI_m8, wI_m128, wI_m64, wI_m190, not_true_eq_false, not_false_eq_true, sP_4908_5 hS, sP_4908_8 hS, sP_4908_29 hS, sP_4908_30 hS, sN_5072 hS, sN_5136 hS, sN_5648 hS, sN_5680 hS, sN_6417 hS]
        refine e219d (m := m) (t := 2 - j) (d := yDd cx rd dm j) (te := te) (de := de) (re := 0) (rm := 1) (r := yrr Ks zs ws ap K) (u := yun zs ws ap K) hS m200 g2.1 g2.2 (by omega) (yGn_c (fun c x => fr c (by omega)) (a2 5905 (by decide) (by decide)) y1) y2 (by omega) a4 a5 a6 (by omega) (by omega) (fun I2 J2 te' de' x1 o => ?_)
        have x2 := o.2.2.2.1.2.2.2.2
        have q := nx _ J2 te' de' (by omega) (yIc_s h hM i1 i2 (by omega) H (by omega) (by omega) (by rw [tb]; exact o))
        simp (decide := true) (disch := omega) only [zi225, zt225, zo225_0, zo225_1, zo225_2, zo225_3, zo225_4, zo225_5, zo225_6, zo225_7, zo225_8, zo225_11, zo225_12, zo225_13, zo225_14, zy_ldI, zy_ldL, zy_ldA, zy_stI, zy_stL, zy_stA, zy_cI, zy_cL, zy_nul, zy_inc, zy_bI, zy_bL, zy_sL, zy_un, zy_cmp, zy_dup, zy_dup2, zy_pop, zy_pop2, zy_jn, zy_jnn, zy_go, zy_fal, zy_tsw, zy_lsw, zy_get, zy_put, zy_ald, zy_ast, zy_len, zy_newa, zy_new, zy_cal, zy_ret, zy_tak, zy_cst, zy_acp, zy_oini, zy_cln, zy_thr, zy_bad, zy_lco, zy_if0, zy_ic0, zy_if1, zy_ic1, zy_if2, zy_ic2, zy_if3, zy_ic3, zy_if4, zy_ic4, zy_if5, zy_ic5, zK_go, zK_to, zK_end, zK_callH, zK_iteC, zK_none, zsLd, zsSt, zsInc, zsBI, zsBL, zsSL, zsUn, zsCmp, zsDup, zsDup2, zsPop, zsPop2, zsJn, zsTsw, zsLsw, zsGet, zsPut, zsAld, zsAst, zsLen, zsNewa, zsCal, zsRet, zsCst, zsAcp, zsOini, zsCln, zsLco, zsThr, zxBI, zxBL, zxSL, zxU, zset1, zset2, zclr, zcat, zmake_mk, zcomp, zH_i, zH_l, zH_r, zH_u, zH_n, List.set_cons_zero, List.set_cons_succ, List.getElem?_cons_zero, List.getElem?_cons_succ, List.length_cons, List.length_nil, List.take_succ_cons, List.take_zero, List.drop_succ_cons, List.drop_zero, List.reverse_cons, List.reverse_nil, List.nil_append, List.cons_append, List.map_cons, List.map_nil, List.sum_cons, List.sum_nil, Option.toList_some, Option.toList_none, Value.category, Nat.reduceAdd, Nat.reduceMul, Nat.reduceMod, Nat.reduceDiv, Nat.reduceSub, Nat.reduceLT, Nat.reduceLeDiff, Nat.reduceEqDiff, Nat.zero_le, Nat.le_refl, Int32.reduceToNatClampNeg, Int32.reduceLT, Int32.reduceLE, Int32.reduceAdd, Int32.reduceSub, Int32.reduceMul, ↓reduceIte, reduceCtorEq, Nat.add_zero, Nat.zero_add, true_or, or_true, false_or, or_false, true_and, and_true, false_and, and_false, not_true_eq_false, not_false_eq_true, if_true, if_false, true_implies, false_implies, implies_true, forall_const, false_imp_iff, true_imp_iff, va_rf, zlay, zent, List.replicate_zero, List.append_nil, List.replicate_succ, List.length_append, ne_eq, Option.some.injEq, Value.int.injEq, Value.long.injEq, Int32.reduceOfNat, Int32.reduceToInt, Int.reduceLT, Int.reduceLE, Int.reduceSub, Int.reduceToNat, Int.reduceAdd, Int.reduceNeg, Int32.reduceDiv, Int64.reduceAdd, Int64.reduceSub, lg_cmp_ge, lg_cmp_le, lg_cmp_gt, lg_cmp_lt, lg_cmp_eq, wlt_t, wlt_f, wle_t, wle_f, wmod, wI_lt, wI_le, wI_eq, wI_neg, wI_pos, wI_cl, wI_ge, wI_po, w64_lt, w64_le, w64_eq, w64_lt0, w64_le0, w64_eq0, w64_32, zc317, zc319, wI_add, wI_a1, wI_s1, wI_e0, wI_m8, wI_m128, wI_m64, wI_m190, not_true_eq_false, not_false_eq_true, sP_4908_5 hS, sP_4908_8 hS, sP_4908_29 hS, sP_4908_30 hS, sN_5072 hS, sN_5136 hS, sN_5648 hS, sN_5680 hS, sN_6417 hS]
        exact q
end
