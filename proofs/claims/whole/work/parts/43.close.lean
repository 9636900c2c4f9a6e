/-! closeBlock -/
theorem wI_sub {a b : Nat} (h : b ≤ a) : nI a - nI b = nI (a - b) := by
  have e : nI a = nI (a - b) + nI b := by rw [nI_add, Nat.sub_add_cancel h]
  rw [e, Int32.add_sub_cancel]
theorem msb_pos {y : Int32} (h : y.toBitVec.msb = false) : 0 ≤ y := by
  rw [Int32.le_iff_toInt_le]
  show (0 : Int) ≤ y.toBitVec.toInt
  rw [BitVec.toInt_eq_msb_cond, h]
  simp only [Bool.false_eq_true, if_false]
  omega
theorem msb_nI {x : Nat} (h : x < 2 ^ 31) : (nI x).toBitVec.msb = false := by
  cases hm : (nI x).toBitVec.msb with
  | false => rfl
  | true =>
    have e : (nI x).toBitVec.toInt = (x : Int) := nI_toInt h
    rw [BitVec.toInt_eq_msb_cond, hm] at e
    simp only [if_true] at e
    have := (nI x).toBitVec.isLt
    omega
theorem xor_pos {x y : Nat} (hx : x < 2 ^ 31) (hy : y < 2 ^ 31) : 0 ≤ nI x ^^^ nI y := by
  apply msb_pos
  rw [Int32.toBitVec_xor, BitVec.msb_xor, msb_nI hx, msb_nI hy]
  rfl
section
variable {L i : Nat} {xs : Nat → Int32} {I : zI} {J : zJ} {P : zP} {N : Nat → Nat} {n z : Nat} {a b c : Int32}
set_option maxRecDepth 20000 in
theorem m315 {σ : zS} {x : Nat} (hx : x < 2 ^ 31) (Q : Option Value → zS → Prop) : zC 315 [.int (nI x), .int 65] σ Q = Q (some (.int (nI (x % 65)))) σ := by
  refine zC_eq (fun Q hQ => ?_) Q
  have e : nI x - nI x / 65 * 65 = nI (x % 65) := by
    rw [show (65 : Int32) = nI 65 from rfl, pk_div hx (by decide) (by decide), wI_mul, wI_sub (Nat.div_mul_le_self x 65)]
    congr 1
    omega
  have h1 : 0 ≤ nI x ^^^ 65 := xor_pos (y := 65) hx (by decide)
  have h2 : ¬ (65 : Int32) = 0 := by decide
  simp (decide := true) (disch := omega) only [e, h1, h2, zi315, zt315, zo315_0, zo315_1, zy_ldI, zy_ldL, zy_ldA, zy_stI, zy_stL, zy_stA, zy_cI, zy_cL, zy_nul, zy_inc, zy_bI, zy_bL, zy_sL, zy_un, zy_cmp, zy_dup, zy_dup2, zy_pop, zy_pop2, zy_jn, zy_jnn, zy_go, zy_fal, zy_tsw, zy_lsw, zy_get, zy_put, zy_ald, zy_ast, zy_len, zy_newa, zy_new, zy_cal, zy_ret, zy_tak, zy_cst, zy_acp, zy_oini, zy_cln, zy_thr, zy_bad, zy_lco, zy_if0, zy_ic0, zy_if1, zy_ic1, zy_if2, zy_ic2, zy_if3, zy_ic3, zy_if4, zy_ic4, zy_if5, zy_ic5, zK_go, zK_to, zK_end, zK_callH, zK_iteC, zK_none, zsLd, zsSt, zsInc, zsBI, zsBL, zsSL, zsUn, zsCmp, zsDup, zsDup2, zsPop, zsPop2, zsJn, zsTsw, zsLsw, zsGet, zsPut, zsAld, zsAst, zsLen, zsNewa, zsCal, zsRet, zsCst, zsAcp, zsOini, zsCln, zsLco, zsThr, zxBI, zxBL, zxSL, zxU, zset1, zset2, zclr, zcat, zmake_mk, zcomp, zH_i, zH_l, zH_r, zH_u, zH_n, List.set_cons_zero, List.set_cons_succ, List.getElem?_cons_zero, List.getElem?_cons_succ, List.length_cons, List.length_nil, List.take_succ_cons, List.take_zero, List.drop_succ_cons, List.drop_zero, List.reverse_cons, List.reverse_nil, List.nil_append, List.cons_append, List.map_cons, List.map_nil, List.sum_cons, List.sum_nil, Option.toList_some, Option.toList_none, Value.category, Nat.reduceAdd, Nat.reduceMul, Nat.reduceMod, Nat.reduceDiv, Nat.reduceSub, Nat.reduceLT, Nat.reduceLeDiff, Nat.reduceEqDiff, Nat.zero_le, Nat.le_refl, Int32.reduceToNatClampNeg, Int32.reduceLT, Int32.reduceLE, Int32.reduceAdd, Int32.reduceSub, Int32.reduceMul, ↓reduceIte, reduceCtorEq, Nat.add_zero, Nat.zero_add, true_or, or_true, false_or, or_false, true_and, and_true, false_and, and_false, not_true_eq_false, not_false_eq_true, if_true, if_false, true_implies, false_implies, implies_true, forall_const, false_imp_iff, true_imp_iff, va_rf, zlay, zent, List.replicate_zero, List.append_nil, List.replicate_succ, List.length_append, ne_eq, Option.some.injEq, Value.int.injEq, Value.long.injEq, Int32.reduceOfNat, Int32.reduceToInt, Int.reduceLT, Int.reduceLE, Int.reduceSub, Int.reduceToNat, Int.reduceAdd, Int.reduceNeg, Int32.reduceDiv, Int64.reduceAdd, Int64.reduceSub, lg_cmp_ge, lg_cmp_le, lg_cmp_gt, lg_cmp_lt, lg_cmp_eq, wlt_t, wlt_f, wle_t, wle_f, wmod, wI_lt, wI_le, wI_eq, wI_neg, wI_pos, wI_cl, wI_ge, wI_po, w64_lt, w64_le, w64_eq, w64_lt0, w64_le0, w64_eq0, w64_32, zc317, zc319, wI_add, wI_a1, wI_s1, wI_e0, wI_m8, wI_m128, wI_m64, wI_m190, not_true_eq_false, not_false_eq_true]
  exact hQ
end
theorem zsJ_c {f f' : Nat → Int64} : ∀ i, (∀ k, k < i → f' k = f k) → zsJ f' i = zsJ f i := by
  intro i
  induction i with
  | zero => intro _; rfl
  | succ i ih =>
    intro h
    unfold zsJ
    rw [ih (fun k hk => h k (by omega)), h i (by omega)]
theorem zsN_c {f f' : Nat → Nat} : ∀ i, (∀ k, k < i → f' k = f k) → zsN f' i = zsN f i := by
  intro i
  induction i with
  | zero => intro _; rfl
  | succ i ih =>
    intro h
    unfold zsN
    rw [ih (fun k hk => h k (by omega)), h i (by omega)]
theorem zPts_c {B B' : zJ} : ∀ i, (∀ k, k < i → B' 3697 k = B 3697 k) → zPts B' i = zPts B i := by
  intro i
  induction i with
  | zero => intro _; rfl
  | succ i ih =>
    intro h
    unfold zPts
    rw [ih (fun k hk => h k (by omega)), h i (by omega)]
theorem wn_toInt : (-1 : Int32).toInt = -1 := rfl
/-- at the height above, the same outputs are live -/
theorem zTot_up {A : zI} {B : zJ} {g : Nat → Nat → Nat} {m e h s : Nat} (hh : h < 2 ^ 31) (W : zWfO A B g m e h s) {p : Int32} {x : Int64} : ∀ k, k ≤ m → zTot A B g e ((h : Int) + 2) p x k = zTot A B g e ((h : Int) + 1) p x k := by
  intro k
  induction k with
  | zero => intro _; rfl
  | succ k ih =>
    intro hk
    unfold zTot
    rw [ih (by omega)]
    have q : zAlv A e k ((h : Int) + 2) = zAlv A e k ((h : Int) + 1) := by
      obtain ⟨⟨y, hy, e1⟩, h2, -⟩ := W k (by omega)
      unfold zAlv
      rw [e1, nI_toInt (by omega)]
      rcases h2 with h2 | ⟨v, hv, h2⟩
      · rw [h2, wn_toInt]
        exact propext (by omega)
      · rw [h2, nI_toInt (by omega)]
        exact propext (by omega)
    rw [q]
section
variable {L i : Nat} {xs : Nat → Int32} {I : zI} {J : zJ} {P : zP} {N : Nat → Nat} {n z : Nat} {a b c : Int32}
theorem zWfO_h {A : zI} {B : zJ} {g : Nat → Nat → Nat} {m e h h' s : Nat} (hh : h ≤ h') (W : zWfO A B g m e h s) : zWfO A B g m e h' s := by
  intro k hk
  obtain ⟨⟨y, hy, e1⟩, h2, h3⟩ := W k hk
  exact ⟨⟨y, by omega, e1⟩, h2.imp id (fun ⟨x, hx, e⟩ => ⟨x, by omega, e⟩), h3⟩
theorem zCon_up {A A' : zI} {B B' : zJ} {g : Nat → Nat → Nat} {m e h s : Nat} (hh : h < 2 ^ 31) (W : zWfO A B g m e h s) (h1 : A' 3632 = A 3632) (h2 : A' 3664 = A 3664) (h3 : A' 3472 = A 3472) (h4 : B' 3505 = B 3505) (h5 : B' 3537 = B 3537) (h6 : ∀ k, k ≤ h → B' 3697 k = B 3697 k) (h7 : B' 3697 (h + 1) = 0) (C : zCon A B g m e h) : zCon A' B' g m e (h + 1) := by
  refine ⟨fun k hk => ?_, fun t ht p x => ?_⟩
  · by_cases hk2 : k = h + 1
    · subst hk2
      rw [h7]
      decide
    · rw [h6 k (by omega)]
      exact C.1 k (by omega)
  · rw [zTot_m h1 h2 h3 h4 h5]
    by_cases ht2 : t = h + 2
    · subst ht2
      have e1 : zTot A B g e ((h + 2 : Nat) : Int) p x m = zTot A B g e ((h + 1 : Nat) : Int) p x m := zTot_up hh W m (Nat.le_refl m)
      have e2 : zPts B' (h + 2) = zPts B (h + 1) := by
        rw [show zPts B' (h + 2) = zPts B' (h + 1) + (B' 3697 (h + 1)).toInt from rfl, h7, zPts_c (h + 1) (fun k hk => h6 k (by omega))]
        show zPts B (h + 1) + 0 = _
        omega
      rw [e1, e2]
      exact C.2 (h + 1) (by omega) p x
    · rw [zPts_c t (fun k hk => h6 k (by omega))]
      exact C.2 t (by omega) p x
set_option maxRecDepth 20000 in
set_option maxHeartbeats 4000000 in
theorem fin5 {t m e h u u' s d : Nat} {g f : Nat → Nat → Nat} {ap tk : Nat → Nat} (hi : i < 4190) (hs : zScr L xs (I, J, P, N, n, z)) (hS : zStat P N) (hk : I 54 = zTK0 ∧ N 54 = 32) (hr : 201 ≤ n ∧ n + N 31 ≤ 201 + 12 * i ∧ z ≤ 1542900 + 1200 * i) (X : zAll I J P N I J n i t m e h u s d g f)
    (y2 : I 2115 7 = nI (zsN ap (h + 1))) (y3 : I 2115 8 = nI (zsN tk (h + 1)))
    (y4 : ∀ i, i ≤ h → h ≤ i + u → J 2193 (i % 65) = zsJ (J 3697) i ∧ I 2224 (i % 65) = nI (zsN ap i) ∧ I 2256 (i % 65) = nI (zsN tk i))
    (y5 : ∀ k, k ≤ h → I 3728 k = nI (ap k) ∧ I 3760 k = nI (tk k)) (y6 : h ≤ i) (y7 : zsN ap (h + 1) ≤ i) (y8 : zsN tk (h + 1) ≤ i) (y1 : J 2115 6 = zsJ (J 3697) (h + 1)) (hu1 : u' ≤ u + 1) (hu2 : u' ≤ d) :
    zInv L xs (i + 4) (zu (zu (zu (zu (zu (zu (zu (zu (zu (zu (zu I 11 10 1) 2115 4 (nI (h + 1))) 2115 5 (nI u')) 2224 ((h + 1) % 65) (nI (zsN ap (h + 1)))) 2256 ((h + 1) % 65) (nI (zsN tk (h + 1)))) 3118 63 0) 3118 13 1) 3118 23 (nI (h + 1))) 3728 (h + 1) 0) 3760 (h + 1) 0) 3118 24 (nI u'), zu (zu J 2193 ((h + 1) % 65) (zsJ (J 3697) (h + 1))) 3697 (h + 1) 0, P, N, n, z) := by
  obtain ⟨s1, s2, s3⟩ := hs
  obtain ⟨k1, k2⟩ := hk
  obtain ⟨r1, r2, r3⟩ := hr
  obtain ⟨V, -, T, La, O, W, S, C, G⟩ := X
  obtain ⟨⟨v0, v1, v2, v3, v4, v5, v6⟩, ⟨w0, w1, w2, w3, w4, w5, w6⟩, ⟨b1, b2, b3, b4, b5, b6, b7, b8⟩, ⟨x1, x2, x3, x4⟩⟩ := V
  have M : zMo I J (zu (zu (zu (zu (zu (zu (zu (zu (zu (zu (zu I 11 10 1) 2115 4 (nI (h + 1))) 2115 5 (nI u')) 2224 ((h + 1) % 65) (nI (zsN ap (h + 1)))) 2256 ((h + 1) % 65) (nI (zsN tk (h + 1)))) 3118 63 0) 3118 13 1) 3118 23 (nI (h + 1))) 3728 (h + 1) 0) 3760 (h + 1) 0) 3118 24 (nI u')) (zu (zu J 2193 ((h + 1) % 65) (zsJ (J 3697) (h + 1))) 3697 (h + 1) 0) := by
    intro a ha q0 q1 q2 q3
    unfold zKm at ha
    constructor
    · simp (disch := omega) only [zuR_ne]
    · simp (disch := omega) only [zuR_ne]
  have H : zSb I J P N (zu (zu (zu (zu (zu (zu (zu (zu (zu (zu (zu I 11 10 1) 2115 4 (nI (h + 1))) 2115 5 (nI u')) 2224 ((h + 1) % 65) (nI (zsN ap (h + 1)))) 2256 ((h + 1) % 65) (nI (zsN tk (h + 1)))) 3118 63 0) 3118 13 1) 3118 23 (nI (h + 1))) 3728 (h + 1) 0) 3760 (h + 1) 0) 3118 24 (nI u')) (zu (zu J 2193 ((h + 1) % 65) (zsJ (J 3697) (h + 1))) 3697 (h + 1) 0) P N := by
    refine ⟨fun a ha => ⟨?_, ?_, rfl, rfl⟩, rfl, rfl⟩
    · simp (disch := omega) only [zuR_ne]
    · simp (disch := omega) only [zuR_ne]
  refine ⟨⟨s1, fun j => ?_, s3⟩, hS, ⟨?_, k2⟩, ⟨r1, by omega, by omega⟩, t, m, e, h + 1, u', s, d, g, f, ?_, ?_, ?_, ?_, zOuts_m M (zOuts_c H (Nat.le_refl n) O), zWfO_m M (zWfO_h (by omega) W), zScs_m M (zScs_c H (Nat.le_refl n) S), ?_, ?_⟩
  · dsimp only
    simp (disch := omega) only [zuR_ne]
    exact s2 j
  · simp (disch := omega) only [zuR_ne]
    exact k1
  · unfold zVal
    simp (disch := omega) only [zuR_ne, zu_nj, zu_at]
    exact ⟨⟨v0, v1, v2, trivial, trivial, v5, v6⟩, ⟨w0, w1, w2, trivial, trivial, w5, w6⟩, ⟨b1, b2, b3, by omega, hu2, b6, b7, b8⟩, ⟨trivial, Or.inr trivial, x3, x4⟩⟩
  · refine ⟨fun k => if k = h + 1 then 0 else ap k, fun k => if k = h + 1 then 0 else tk k, ?_⟩
    have ea : ∀ i, i ≤ h + 1 → zsN (fun k => if k = h + 1 then 0 else ap k) i = zsN ap i := fun i hi => zsN_c i (fun k hk => if_neg (by omega))
    have et : ∀ i, i ≤ h + 1 → zsN (fun k => if k = h + 1 then 0 else tk k) i = zsN tk i := fun i hi => zsN_c i (fun k hk => if_neg (by omega))
    have ea2 : zsN (fun k => if k = h + 1 then 0 else ap k) (h + 1 + 1) = zsN ap (h + 1) := by
      rw [show zsN (fun k => if k = h + 1 then 0 else ap k) (h + 1 + 1) = zsN (fun k => if k = h + 1 then 0 else ap k) (h + 1) + (if h + 1 = h + 1 then 0 else ap (h + 1)) from rfl, if_pos rfl, ea (h + 1) (by omega)]
      rfl
    have et2 : zsN (fun k => if k = h + 1 then 0 else tk k) (h + 1 + 1) = zsN tk (h + 1) := by
      rw [show zsN (fun k => if k = h + 1 then 0 else tk k) (h + 1 + 1) = zsN (fun k => if k = h + 1 then 0 else tk k) (h + 1) + (if h + 1 = h + 1 then 0 else tk (h + 1)) from rfl, if_pos rfl, et (h + 1) (by omega)]
      rfl
    have eJ : ∀ i, i ≤ h + 1 → zsJ (zu (zu J 2193 ((h + 1) % 65) (zsJ (J 3697) (h + 1))) 3697 (h + 1) 0 3697) i = zsJ (J 3697) i := fun i hi => zsJ_c i (fun k hk => by rw [zu_nj (by omega), zuR_ne (by decide)])
    have eJ2 : zsJ (zu (zu J 2193 ((h + 1) % 65) (zsJ (J 3697) (h + 1))) 3697 (h + 1) 0 3697) (h + 1 + 1) = zsJ (J 3697) (h + 1) := by
      rw [show ∀ F : Nat → Int64, zsJ F (h + 1 + 1) = zsJ F (h + 1) + F (h + 1) from fun F => rfl, eJ (h + 1) (by omega), zu_at]
      exact Int64.add_zero _
    rw [ea2, et2, eJ2]
    refine ⟨?_, ?_, ?_, ?_, ?_, by omega, by omega, by omega⟩
    · simp (disch := omega) only [zuR_ne]
      exact y1
    · simp (disch := omega) only [zuR_ne, zu_nj]
      exact y2
    · simp (disch := omega) only [zuR_ne, zu_nj]
      exact y3
    · intro j hj1 hj2
      rw [eJ j hj1, ea j hj1, et j hj1]
      by_cases hj3 : j = h + 1
      · subst hj3
        simp (disch := omega) only [zuR_ne, zu_nj, zu_at]
        exact ⟨trivial, trivial, trivial⟩
      · have hne : j % 65 ≠ (h + 1) % 65 := by omega
        simp (disch := omega) only [zuR_ne, zu_nj]
        exact y4 j (by omega) (by omega)
    · intro k hk
      by_cases hk3 : k = h + 1
      · subst hk3
        simp (disch := omega) only [zuR_ne, zu_nj, zu_at]
        exact ⟨rfl, rfl⟩
      · simp (disch := omega) only [zuR_ne, zu_nj, hk3, if_false]
        exact y5 k (by omega)
  · refine zTap_cm b1 (fun j hj => ?_) ?_ T
    · simp (disch := omega) only [zuR_ne]
    · simp (disch := omega) only [zuR_ne]
  · refine zLat_cm ?_ (fun j hj => ?_) La
    · simp (disch := omega) only [zuR_ne]
    · simp (disch := omega) only [zuR_ne, zu_nj]
  · refine zCon_up (by omega) W ?_ ?_ ?_ ?_ ?_ ?_ ?_ C
    · simp (disch := omega) only [zuR_ne]
    · simp (disch := omega) only [zuR_ne]
    · simp (disch := omega) only [zuR_ne]
    · simp (disch := omega) only [zuR_ne]
    · simp (disch := omega) only [zuR_ne]
    · intro k hk
      simp (disch := omega) only [zuR_ne, zu_nj]
    · exact zu_at
  · intro h0
    revert h0
    simp (disch := omega) only [zuR_ne, zu_nj, zu_at]
    intro h0
    exact absurd h0 (by decide)
set_option maxRecDepth 20000 in
set_option maxHeartbeats 4000000 in
theorem c_5 (hi : i < 4190) (h : zInv L xs i (I, J, P, N, n, z)) : zCall 5 a b c L xs (I, J, P, N, n, z) (zInv L xs (i + 4)) := by
  obtain ⟨hs, hS, hk, hr, t, m, e, h, u, s, d, g, f, X⟩ := h
  obtain ⟨⟨⟨v0, v1, v2, v3, v4, v5, v6⟩, ⟨w0, w1, w2, w3, w4, w5, w6⟩, ⟨b1, b2, b3, b4, b5, b6, b7, b8⟩, ⟨x1, x2, x3, x4⟩⟩, Su, -⟩ := id X
  obtain ⟨ap, tk, y1, y2, y3, y4, y5, y6, y7, y8⟩ := Su
  have q := fun (σ : zS) => m315 (σ := σ) (x := h + 1) (by omega)
  have hmod : (h + 1) % 65 < 65 := Nat.mod_lt _ (by decide)
  have sc : ∀ j, (zu (zu (zu (zu (zu I 11 10 1) 2115 4 (nI (h + 1))) 2115 5 j) 2224 ((h + 1) % 65) (nI (zsN ap (h + 1)))) 2256 ((h + 1) % 65) (nI (zsN tk (h + 1)))) 22 = I 22 := fun j => by simp (disch := omega) only [zuR_ne]
  show zTwoI 162 303 [] L xs _ _
  refine zC_of (fun Q hQ => ?_)
  by_cases hud : u + 1 ≤ d
  · simp (decide := true) (disch := omega) only [v3, v4, v6, zu, q, y1, y2, y3, zi63, zt63, zo63_0, zi162, zt162, zo162_0, zy_ldI, zy_ldL, zy_ldA, zy_stI, zy_stL, zy_stA, zy_cI, zy_cL, zy_nul, zy_inc, zy_bI, zy_bL, zy_sL, zy_un, zy_cmp, zy_dup, zy_dup2, zy_pop, zy_pop2, zy_jn, zy_jnn, zy_go, zy_fal, zy_tsw, zy_lsw, zy_get, zy_put, zy_ald, zy_ast, zy_len, zy_newa, zy_new, zy_cal, zy_ret, zy_tak, zy_cst, zy_acp, zy_oini, zy_cln, zy_thr, zy_bad, zy_lco, zy_if0, zy_ic0, zy_if1, zy_ic1, zy_if2, zy_ic2, zy_if3, zy_ic3, zy_if4, zy_ic4, zy_if5, zy_ic5, zK_go, zK_to, zK_end, zK_callH, zK_iteC, zK_none, zsLd, zsSt, zsInc, zsBI, zsBL, zsSL, zsUn, zsCmp, zsDup, zsDup2, zsPop, zsPop2, zsJn, zsTsw, zsLsw, zsGet, zsPut, zsAld, zsAst, zsLen, zsNewa, zsCal, zsRet, zsCst, zsAcp, zsOini, zsCln, zsLco, zsThr, zxBI, zxBL, zxSL, zxU, zset1, zset2, zclr, zcat, zmake_mk, zcomp, zH_i, zH_l, zH_r, zH_u, zH_n, List.set_cons_zero, List.set_cons_succ, List.getElem?_cons_zero, List.getElem?_cons_succ, List.length_cons, List.length_nil, List.take_succ_cons, List.take_zero, List.drop_succ_cons, List.drop_zero, List.reverse_cons, List.reverse_nil, List.nil_append, List.cons_append, List.map_cons, List.map_nil, List.sum_cons, List.sum_nil, Option.toList_some, Option.toList_none, Value.category, Nat.reduceAdd, Nat.reduceMul, Nat.reduceMod, Nat.reduceDiv, Nat.reduceSub, Nat.reduceLT, Nat.reduceLeDiff, Nat.reduceEqDiff, Nat.zero_le, Nat.le_refl, Int32.reduceToNatClampNeg, Int32.reduceLT, Int32.reduceLE, Int32.reduceAdd, Int32.reduceSub, Int32.reduceMul, ↓reduceIte, reduceCtorEq, Nat.add_zero, Nat.zero_add, true_or, or_true, false_or, or_false, true_and, and_true, false_and, and_false, not_true_eq_false, not_false_eq_true, if_true, if_false, true_implies, false_implies, implies_true, forall_const, false_imp_iff, true_imp_iff, va_rf, zlay, zent, List.replicate_zero, List.append_nil, List.replicate_succ, List.length_append, ne_eq, Option.some.injEq, Value.int.injEq, Value.long.injEq, Int32.reduceOfNat, Int32.reduceToInt, Int.reduceLT, Int.reduceLE, Int.reduceSub, Int.reduceToNat, Int.reduceAdd, Int.reduceNeg, Int32.reduceDiv, Int64.reduceAdd, Int64.reduceSub, lg_cmp_ge, lg_cmp_le, lg_cmp_gt, lg_cmp_lt, lg_cmp_eq, wlt_t, wlt_f, wle_t, wle_f, wmod, wI_lt, wI_le, wI_eq, wI_neg, wI_pos, wI_cl, wI_ge, wI_po, w64_lt, w64_le, w64_eq, w64_lt0, w64_le0, w64_eq0, w64_32, zc317, zc319, wI_add, wI_a1, wI_s1, wI_e0, wI_m8, wI_m128, wI_m64, wI_m190, not_true_eq_false, not_false_eq_true, sP_11_4 hS, sP_2115_9 hS, sP_2115_10 hS, sP_2115_11 hS, sN_2193 hS, sN_2224 hS, sN_2256 hS, sN_6417 hS]
    refine hQ _ _ ⟨_, rfl, ⟨hs.1, fun j => ?_, hs.2.2⟩, zC_of (fun Q hQ => ?_)⟩
    · exact (congrFun (sc (nI (u + 1))) j).trans (hs.2.1 j)
    · simp (decide := true) (disch := omega) only [v3, v4, v6, w3, w4, w6, zu, zi303, zt303, zo303_0, zo303_1, zo303_2, zy_ldI, zy_ldL, zy_ldA, zy_stI, zy_stL, zy_stA, zy_cI, zy_cL, zy_nul, zy_inc, zy_bI, zy_bL, zy_sL, zy_un, zy_cmp, zy_dup, zy_dup2, zy_pop, zy_pop2, zy_jn, zy_jnn, zy_go, zy_fal, zy_tsw, zy_lsw, zy_get, zy_put, zy_ald, zy_ast, zy_len, zy_newa, zy_new, zy_cal, zy_ret, zy_tak, zy_cst, zy_acp, zy_oini, zy_cln, zy_thr, zy_bad, zy_lco, zy_if0, zy_ic0, zy_if1, zy_ic1, zy_if2, zy_ic2, zy_if3, zy_ic3, zy_if4, zy_ic4, zy_if5, zy_ic5, zK_go, zK_to, zK_end, zK_callH, zK_iteC, zK_none, zsLd, zsSt, zsInc, zsBI, zsBL, zsSL, zsUn, zsCmp, zsDup, zsDup2, zsPop, zsPop2, zsJn, zsTsw, zsLsw, zsGet, zsPut, zsAld, zsAst, zsLen, zsNewa, zsCal, zsRet, zsCst, zsAcp, zsOini, zsCln, zsLco, zsThr, zxBI, zxBL, zxSL, zxU, zset1, zset2, zclr, zcat, zmake_mk, zcomp, zH_i, zH_l, zH_r, zH_u, zH_n, List.set_cons_zero, List.set_cons_succ, List.getElem?_cons_zero, List.getElem?_cons_succ, List.length_cons, List.length_nil, List.take_succ_cons, List.take_zero, List.drop_succ_cons, List.drop_zero, List.reverse_cons, List.reverse_nil, List.nil_append, List.cons_append, List.map_cons, List.map_nil, List.sum_cons, List.sum_nil, Option.toList_some, Option.toList_none, Value.category, Nat.reduceAdd, Nat.reduceMul, Nat.reduceMod, Nat.reduceDiv, Nat.reduceSub, Nat.reduceLT, Nat.reduceLeDiff, Nat.reduceEqDiff, Nat.zero_le, Nat.le_refl, Int32.reduceToNatClampNeg, Int32.reduceLT, Int32.reduceLE, Int32.reduceAdd, Int32.reduceSub, Int32.reduceMul, ↓reduceIte, reduceCtorEq, Nat.add_zero, Nat.zero_add, true_or, or_true, false_or, or_false, true_and, and_true, false_and, and_false, not_true_eq_false, not_false_eq_true, if_true, if_false, true_implies, false_implies, implies_true, forall_const, false_imp_iff, true_imp_iff, va_rf, zlay, zent, List.replicate_zero, List.append_nil, List.replicate_succ, List.length_append, ne_eq, Option.some.injEq, Value.int.injEq, Value.long.injEq, Int32.reduceOfNat, Int32.reduceToInt, Int.reduceLT, Int.reduceLE, Int.reduceSub, Int.reduceToNat, Int.reduceAdd, Int.reduceNeg, Int32.reduceDiv, Int64.reduceAdd, Int64.reduceSub, lg_cmp_ge, lg_cmp_le, lg_cmp_gt, lg_cmp_lt, lg_cmp_eq, wlt_t, wlt_f, wle_t, wle_f, wmod, wI_lt, wI_le, wI_eq, wI_neg, wI_pos, wI_cl, wI_ge, wI_po, w64_lt, w64_le, w64_eq, w64_lt0, w64_le0, w64_eq0, w64_32, zc317, zc319, wI_add, wI_a1, wI_s1, wI_e0, wI_m8, wI_m128, wI_m64, wI_m190, not_true_eq_false, not_false_eq_true, sP_3118_25 hS, sP_3118_26 hS, sP_3118_27 hS, sN_3697 hS, sN_3728 hS, sN_3760 hS, sN_6417 hS]
      exact hQ _ _ ⟨rfl, fin5 hi hs hS hk hr X y2 y3 y4 y5 y6 y7 y8 y1 (Nat.le_refl (u + 1)) hud⟩
  · obtain rfl : u = d := by omega
    simp (decide := true) (disch := omega) only [v3, v4, v6, zu, q, y1, y2, y3, zi63, zt63, zo63_0, zi162, zt162, zo162_0, zy_ldI, zy_ldL, zy_ldA, zy_stI, zy_stL, zy_stA, zy_cI, zy_cL, zy_nul, zy_inc, zy_bI, zy_bL, zy_sL, zy_un, zy_cmp, zy_dup, zy_dup2, zy_pop, zy_pop2, zy_jn, zy_jnn, zy_go, zy_fal, zy_tsw, zy_lsw, zy_get, zy_put, zy_ald, zy_ast, zy_len, zy_newa, zy_new, zy_cal, zy_ret, zy_tak, zy_cst, zy_acp, zy_oini, zy_cln, zy_thr, zy_bad, zy_lco, zy_if0, zy_ic0, zy_if1, zy_ic1, zy_if2, zy_ic2, zy_if3, zy_ic3, zy_if4, zy_ic4, zy_if5, zy_ic5, zK_go, zK_to, zK_end, zK_callH, zK_iteC, zK_none, zsLd, zsSt, zsInc, zsBI, zsBL, zsSL, zsUn, zsCmp, zsDup, zsDup2, zsPop, zsPop2, zsJn, zsTsw, zsLsw, zsGet, zsPut, zsAld, zsAst, zsLen, zsNewa, zsCal, zsRet, zsCst, zsAcp, zsOini, zsCln, zsLco, zsThr, zxBI, zxBL, zxSL, zxU, zset1, zset2, zclr, zcat, zmake_mk, zcomp, zH_i, zH_l, zH_r, zH_u, zH_n, List.set_cons_zero, List.set_cons_succ, List.getElem?_cons_zero, List.getElem?_cons_succ, List.length_cons, List.length_nil, List.take_succ_cons, List.take_zero, List.drop_succ_cons, List.drop_zero, List.reverse_cons, List.reverse_nil, List.nil_append, List.cons_append, List.map_cons, List.map_nil, List.sum_cons, List.sum_nil, Option.toList_some, Option.toList_none, Value.category, Nat.reduceAdd, Nat.reduceMul, Nat.reduceMod, Nat.reduceDiv, Nat.reduceSub, Nat.reduceLT, Nat.reduceLeDiff, Nat.reduceEqDiff, Nat.zero_le, Nat.le_refl, Int32.reduceToNatClampNeg, Int32.reduceLT, Int32.reduceLE, Int32.reduceAdd, Int32.reduceSub, Int32.reduceMul, ↓reduceIte, reduceCtorEq, Nat.add_zero, Nat.zero_add, true_or, or_true, false_or, or_false, true_and, and_true, false_and, and_false, not_true_eq_false, not_false_eq_true, if_true, if_false, true_implies, false_implies, implies_true, forall_const, false_imp_iff, true_imp_iff, va_rf, zlay, zent, List.replicate_zero, List.append_nil, List.replicate_succ, List.length_append, ne_eq, Option.some.injEq, Value.int.injEq, Value.long.injEq, Int32.reduceOfNat, Int32.reduceToInt, Int.reduceLT, Int.reduceLE, Int.reduceSub, Int.reduceToNat, Int.reduceAdd, Int.reduceNeg, Int32.reduceDiv, Int64.reduceAdd, Int64.reduceSub, lg_cmp_ge, lg_cmp_le, lg_cmp_gt, lg_cmp_lt, lg_cmp_eq, wlt_t, wlt_f, wle_t, wle_f, wmod, wI_lt, wI_le, wI_eq, wI_neg, wI_pos, wI_cl, wI_ge, wI_po, w64_lt, w64_le, w64_eq, w64_lt0, w64_le0, w64_eq0, w64_32, zc317, zc319, wI_add, wI_a1, wI_s1, wI_e0, wI_m8, wI_m128, wI_m64, wI_m190, not_true_eq_false, not_false_eq_true, sP_11_4 hS, sP_2115_9 hS, sP_2115_10 hS, sP_2115_11 hS, sN_2193 hS, sN_2224 hS, sN_2256 hS, sN_6417 hS]
    refine hQ _ _ ⟨_, rfl, ⟨hs.1, fun j => ?_, hs.2.2⟩, zC_of (fun Q hQ => ?_)⟩
    · exact (congrFun (sc (nI u)) j).trans (hs.2.1 j)
    · simp (decide := true) (disch := omega) only [v3, v4, v6, w3, w4, w6, zu, zi303, zt303, zo303_0, zo303_1, zo303_2, zy_ldI, zy_ldL, zy_ldA, zy_stI, zy_stL, zy_stA, zy_cI, zy_cL, zy_nul, zy_inc, zy_bI, zy_bL, zy_sL, zy_un, zy_cmp, zy_dup, zy_dup2, zy_pop, zy_pop2, zy_jn, zy_jnn, zy_go, zy_fal, zy_tsw, zy_lsw, zy_get, zy_put, zy_ald, zy_ast, zy_len, zy_newa, zy_new, zy_cal, zy_ret, zy_tak, zy_cst, zy_acp, zy_oini, zy_cln, zy_thr, zy_bad, zy_lco, zy_if0, zy_ic0, zy_if1, zy_ic1, zy_if2, zy_ic2, zy_if3, zy_ic3, zy_if4, zy_ic4, zy_if5, zy_ic5, zK_go, zK_to, zK_end, zK_callH, zK_iteC, zK_none, zsLd, zsSt, zsInc, zsBI, zsBL, zsSL, zsUn, zsCmp, zsDup, zsDup2, zsPop, zsPop2, zsJn, zsTsw, zsLsw, zsGet, zsPut, zsAld, zsAst, zsLen, zsNewa, zsCal, zsRet, zsCst, zsAcp, zsOini, zsCln, zsLco, zsThr, zxBI, zxBL, zxSL, zxU, zset1, zset2, zclr, zcat, zmake_mk, zcomp, zH_i, zH_l, zH_r, zH_u, zH_n, List.set_cons_zero, List.set_cons_succ, List.getElem?_cons_zero, List.getElem?_cons_succ, List.length_cons, List.length_nil, List.take_succ_cons, List.take_zero, List.drop_succ_cons, List.drop_zero, List.reverse_cons, List.reverse_nil, List.nil_append, List.cons_append, List.map_cons, List.map_nil, List.sum_cons, List.sum_nil, Option.toList_some, Option.toList_none, Value.category, Nat.reduceAdd, Nat.reduceMul, Nat.reduceMod, Nat.reduceDiv, Nat.reduceSub, Nat.reduceLT, Nat.reduceLeDiff, Nat.reduceEqDiff, Nat.zero_le, Nat.le_refl, Int32.reduceToNatClampNeg, Int32.reduceLT, Int32.reduceLE, Int32.reduceAdd, Int32.reduceSub, Int32.reduceMul, ↓reduceIte, reduceCtorEq, Nat.add_zero, Nat.zero_add, true_or, or_true, false_or, or_false, true_and, and_true, false_and, and_false, not_true_eq_false, not_false_eq_true, if_true, if_false, true_implies, false_implies, implies_true, forall_const, false_imp_iff, true_imp_iff, va_rf, zlay, zent, List.replicate_zero, List.append_nil, List.replicate_succ, List.length_append, ne_eq, Option.some.injEq, Value.int.injEq, Value.long.injEq, Int32.reduceOfNat, Int32.reduceToInt, Int.reduceLT, Int.reduceLE, Int.reduceSub, Int.reduceToNat, Int.reduceAdd, Int.reduceNeg, Int32.reduceDiv, Int64.reduceAdd, Int64.reduceSub, lg_cmp_ge, lg_cmp_le, lg_cmp_gt, lg_cmp_lt, lg_cmp_eq, wlt_t, wlt_f, wle_t, wle_f, wmod, wI_lt, wI_le, wI_eq, wI_neg, wI_pos, wI_cl, wI_ge, wI_po, w64_lt, w64_le, w64_eq, w64_lt0, w64_le0, w64_eq0, w64_32, zc317, zc319, wI_add, wI_a1, wI_s1, wI_e0, wI_m8, wI_m128, wI_m64, wI_m190, not_true_eq_false, not_false_eq_true, sP_3118_25 hS, sP_3118_26 hS, sP_3118_27 hS, sN_3697 hS, sN_3728 hS, sN_3760 hS, sN_6417 hS]
      exact hQ _ _ ⟨rfl, fin5 hi hs hS hk hr X y2 y3 y4 y5 y6 y7 y8 y1 (Nat.le_succ u) (Nat.le_refl u)⟩
end
