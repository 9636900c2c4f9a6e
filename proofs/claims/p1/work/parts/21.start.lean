/-! stores as lists of what was laid (codes of ints: 0 is 0, 1 is -1, 2 is c) -/
def zAI (B : Nat → Nat → Int32) (c : Int32) : List (Nat × Option Nat × Nat) → Nat → Nat → Int32
  | [], a, j => B a j
  | (a', none, v) :: r, a, j => if a = a' then (if v = 0 then 0 else if v = 1 then -1 else c) else zAI B c r a j
  | (a', some j', v) :: r, a, j => if a = a' ∧ j = j' then (if v = 0 then 0 else if v = 1 then -1 else c) else zAI B c r a j
def zAR {α : Type} (B : Nat → Nat → α) : List (Nat × Option Nat × α) → Nat → Nat → α
  | [], a, j => B a j
  | (a', none, v) :: r, a, j => if a = a' then v else zAR B r a j
  | (a', some j', v) :: r, a, j => if a = a' ∧ j = j' then v else zAR B r a j
def zAN (B : Nat → Nat) : List (Nat × Nat) → Nat → Nat
  | [], a => B a
  | (a', v) :: r, a => if a = a' then v else zAN B r a
def yB (xs : Nat → Int32) (a j : Nat) : Int32 := if a = 22 then xs j else if a = 54 then zTK0 j else 0
def yBJ (_ _ : Nat) : Int64 := 0
def yBP (_ _ : Nat) : Option Nat := none
def yBN (L a : Nat) : Nat := if a = 22 then L else if a = 54 then 32 else 0
theorem zAI_nil {B : Nat → Nat → Int32} {c : Int32} {a j : Nat} : zAI B c [] a j = B a j := rfl
theorem zAN_nil {B : Nat → Nat} {a : Nat} : zAN B [] a = B a := rfl
theorem zB_22 {xs : Nat → Int32} {j : Nat} : yB xs 22 j = xs j := rfl
theorem zBN_22 {L : Nat} : yBN L 22 = L := rfl
theorem zAIrow {B : Nat → Nat → Int32} {c : Int32} {l : List (Nat × Option Nat × Nat)} {a : Nat} : zrow (zAI B c l) a 0 = zAI B c ((a, none, 0) :: l) := rfl
theorem zAIneg {B : Nat → Nat → Int32} {c : Int32} {l : List (Nat × Option Nat × Nat)} {a j : Nat} : zu (zAI B c l) a j (-1) = zAI B c ((a, some j, 1) :: l) := rfl
theorem zAIc {v c : Int32} (h : v = c) {a j : Nat} {B : Nat → Nat → Int32} {l : List (Nat × Option Nat × Nat)} : zu (zAI B c l) a j v = zAI B c ((a, some j, 2) :: l) := by
  subst h
  rfl
theorem zARrow {α : Type} {B : Nat → Nat → α} {l : List (Nat × Option Nat × α)} {a : Nat} {v : α} : zrow (zAR B l) a v = zAR B ((a, none, v) :: l) := rfl
theorem zARput {α : Type} {B : Nat → Nat → α} {l : List (Nat × Option Nat × α)} {a j : Nat} {v : α} : zu (zAR B l) a j v = zAR B ((a, some j, v) :: l) := rfl
theorem zANput {B : Nat → Nat} {l : List (Nat × Nat)} {a v : Nat} : zlen1 (zAN B l) a v = zAN B ((a, v) :: l) := rfl
/-- what was laid last at a place -/
def ylk {α : Type} : List (Nat × Option Nat × α) → Nat → Nat → Option α
  | [], _, _ => none
  | (a', none, v) :: r, a, j => if a = a' then some v else ylk r a j
  | (a', some j', v) :: r, a, j => if a = a' ∧ j = j' then some v else ylk r a j
/-- a row of which nothing was laid but the whole -/
def ylr {α : Type} : List (Nat × Option Nat × α) → Nat → Option α
  | [], _ => none
  | (a', none, v) :: r, a => if a = a' then some v else ylr r a
  | (a', some _, _) :: r, a => if a = a' then none else ylr r a
def yln : List (Nat × Nat) → Nat → Option Nat
  | [], _ => none
  | (a', v) :: r, a => if a = a' then some v else yln r a
theorem ylk_I {B : Nat → Nat → Int32} {c : Int32} {a j v : Nat} : ∀ (l : List (Nat × Option Nat × Nat)), ylk l a j = some v → zAI B c l a j = (if v = 0 then 0 else if v = 1 then -1 else c)
  | [], h => by cases h
  | (a', none, v') :: r, h => by
    unfold ylk at h
    unfold zAI
    split at h
    · rename_i e; cases h; rw [if_pos e]
    · rename_i e; rw [if_neg e]; exact ylk_I r h
  | (a', some j', v') :: r, h => by
    unfold ylk at h
    unfold zAI
    split at h
    · rename_i e; cases h; rw [if_pos e]
    · rename_i e; rw [if_neg e]; exact ylk_I r h
theorem ylk_0 {B : Nat → Nat → Int32} {c : Int32} {a j : Nat} : ∀ (l : List (Nat × Option Nat × Nat)), ylr l a = none → (∀ e ∈ l, e.1 ≠ a) → zAI B c l a j = B a j
  | [], _, _ => rfl
  | (a', none, v') :: r, h, h2 => by
    unfold ylr at h
    unfold zAI
    rw [if_neg (fun e => h2 _ List.mem_cons_self e.symm)] at h ⊢
    exact ylk_0 r h (fun e he => h2 e (List.mem_cons_of_mem _ he))
  | (a', some j', v') :: r, h, h2 => by
    unfold ylr at h
    unfold zAI
    rw [if_neg (fun e => h2 _ List.mem_cons_self e.1.symm)]
    rw [if_neg (fun e => h2 _ List.mem_cons_self e.symm)] at h
    exact ylk_0 r h (fun e he => h2 e (List.mem_cons_of_mem _ he))
theorem ylr_I {B : Nat → Nat → Int32} {c : Int32} {a v : Nat} : ∀ (l : List (Nat × Option Nat × Nat)), ylr l a = some v → ∀ j, zAI B c l a j = (if v = 0 then 0 else if v = 1 then -1 else c)
  | [], h, _ => by cases h
  | (a', none, v') :: r, h, j => by
    unfold ylr at h
    unfold zAI
    split at h
    · rename_i e; cases h; rw [if_pos e]
    · rename_i e; rw [if_neg e]; exact ylr_I r h j
  | (a', some j', v') :: r, h, j => by
    unfold ylr at h
    unfold zAI
    split at h
    · cases h
    · rename_i e; rw [if_neg (fun x => e x.1)]; exact ylr_I r h j
theorem ylk_R {α : Type} {B : Nat → Nat → α} {a j : Nat} {v : α} : ∀ (l : List (Nat × Option Nat × α)), ylk l a j = some v → zAR B l a j = v
  | [], h => by cases h
  | (a', none, v') :: r, h => by
    unfold ylk at h
    unfold zAR
    split at h
    · rename_i e; cases h; rw [if_pos e]
    · rename_i e; rw [if_neg e]; exact ylk_R r h
  | (a', some j', v') :: r, h => by
    unfold ylk at h
    unfold zAR
    split at h
    · rename_i e; cases h; rw [if_pos e]
    · rename_i e; rw [if_neg e]; exact ylk_R r h
theorem ylr_R {α : Type} {B : Nat → Nat → α} {a : Nat} {v : α} : ∀ (l : List (Nat × Option Nat × α)), ylr l a = some v → ∀ j, zAR B l a j = v
  | [], h, _ => by cases h
  | (a', none, v') :: r, h, j => by
    unfold ylr at h
    unfold zAR
    split at h
    · rename_i e; cases h; rw [if_pos e]
    · rename_i e; rw [if_neg e]; exact ylr_R r h j
  | (a', some j', v') :: r, h, j => by
    unfold ylr at h
    unfold zAR
    split at h
    · cases h
    · rename_i e; rw [if_neg (fun x => e x.1)]; exact ylr_R r h j
theorem yln_N {B : Nat → Nat} {a v : Nat} : ∀ (l : List (Nat × Nat)), yln l a = some v → zAN B l a = v
  | [], h => by cases h
  | (a', v') :: r, h => by
    unfold yln at h
    unfold zAN
    split at h
    · rename_i e; cases h; rw [if_pos e]
    · rename_i e; rw [if_neg e]; exact yln_N r h
theorem yln_0 {B : Nat → Nat} {a : Nat} : ∀ (l : List (Nat × Nat)), yln l a = none → zAN B l a = B a
  | [], _ => rfl
  | (a', v') :: r, h => by
    unfold yln at h
    unfold zAN
    split at h
    · cases h
    · rename_i e; rw [if_neg e]; exact yln_0 r h
def zvI (v : Int32) (k : Nat) : Bool := if k = 0 then v == 0 else if k = 1 then v == -1 else false
/-- the facts of zF, asked of the lists -/
def zFck (lI : List (Nat × Option Nat × Nat)) (lJ : List (Nat × Option Nat × Int64)) (lP : List (Nat × Option Nat × Option Nat)) (lN : List (Nat × Nat)) : Bool :=
  fP.all (fun e => ylk lP e.1 e.2.1 == some e.2.2) && (fN.all (fun e => yln lN e.1 == some e.2) && (fI.all (fun e => match ylk lI e.1 e.2.1 with | some k => zvI e.2.2 k | none => false)
   && (fJ.all (fun e => ylk lJ e.1 e.2.1 == some e.2.2) && (fZI.all (fun e => ylr lI e == some 0) && (fZJ.all (fun e => ylr lJ e == some 0) && (fZP.all (fun e => ylr lP e == some none)
   && (ylk lI 2115 1 == some 2 && (ylk lI 3118 0 == some 2 && (lI.all (fun e => e.1 != 22 && e.1 != 54) && (yln lN 22 == none && (yln lN 54 == none && yln lN 31 == none)))))))))))
theorem ylr_none {α : Type} {a : Nat} : ∀ (l : List (Nat × Option Nat × α)), (∀ e ∈ l, e.1 ≠ a) → ylr l a = none
  | [], _ => rfl
  | (a', none, v') :: r, h2 => by
    unfold ylr
    rw [if_neg (fun e => h2 _ List.mem_cons_self e.symm)]
    exact ylr_none r (fun e he => h2 e (List.mem_cons_of_mem _ he))
  | (a', some j', v') :: r, h2 => by
    unfold ylr
    rw [if_neg (fun e => h2 _ List.mem_cons_self e.symm)]
    exact ylr_none r (fun e he => h2 e (List.mem_cons_of_mem _ he))
theorem zF_of {L : Nat} {xs : Nat → Int32} {c : Int32} {lI : List (Nat × Option Nat × Nat)} {lJ : List (Nat × Option Nat × Int64)} {lP : List (Nat × Option Nat × Option Nat)} {lN : List (Nat × Nat)} (h : zFck lI lJ lP lN = true) : zF c L xs (zAI (yB xs) c lI, zAR yBJ lJ, zAR yBP lP, zAN (yBN L) lN, 201, 1542900) := by
  simp only [zFck, Bool.and_eq_true, List.all_eq_true, beq_iff_eq, bne_iff_ne] at h
  obtain ⟨h1, h2, h3, h4, h5, h6, h7, h8, h9, h10, h11, h12, h13⟩ := h
  refine ⟨fun e he => ylk_R _ (h1 e he), fun e he => yln_N _ (h2 e he), fun e he => ?_, fun e he => ylk_R _ (h4 e he), fun e he j => (ylr_I _ (h5 e he) j).trans rfl, fun e he j => ylr_R _ (h6 e he) j, fun e he j => ylr_R _ (h7 e he) j, (ylk_I _ h8).trans rfl, (ylk_I _ h9).trans rfl, rfl, rfl, ?_, (yln_0 _ h11).trans rfl, ?_, (yln_0 _ h12).trans rfl, (yln_0 _ h13).trans rfl⟩
  · have := h3 e he
    split at this
    · rename_i k hk
      rw [show (zAI (yB xs) c lI, zAR yBJ lJ, zAR yBP lP, zAN (yBN L) lN, (201 : Nat), (1542900 : Nat)).1 e.1 e.2.1 = zAI (yB xs) c lI e.1 e.2.1 from rfl, ylk_I _ hk]
      unfold zvI at this
      split at this
      · rename_i h0; rw [if_pos h0]; exact (beq_iff_eq.1 this).symm
      · split at this
        · rename_i h0 h1; rw [if_neg h0, if_pos h1]; exact (beq_iff_eq.1 this).symm
        · cases this
    · cases this
  · funext j
    exact ylk_0 _ (ylr_none _ (fun e he => (h10 e he).1)) (fun e he => (h10 e he).1)
  · funext j
    exact ylk_0 _ (ylr_none _ (fun e he => (h10 e he).2)) (fun e he => (h10 e he).2)
theorem zclampM (d : Int32) : (if 1 < (if 64 < d then (64 : Int32) else d) then (if 64 < d then (64 : Int32) else d) else 1) = zclamp d := by
  unfold zclamp
  have e1 : (64 : Int32).toInt = 64 := rfl
  have e2 : (1 : Int32).toInt = 1 := rfl
  by_cases h : 64 < d
  · have h1 : ¬ d < 1 := fun h1 => by
      have := Int32.lt_iff_toInt_lt.1 h
      have := Int32.lt_iff_toInt_lt.1 h1
      omega
    rw [if_pos h, if_neg h1]
    rfl
  · by_cases h2 : d < 1
    · have h1 : ¬ 1 < d := fun h1 => by
        have := Int32.lt_iff_toInt_lt.1 h2
        have := Int32.lt_iff_toInt_lt.1 h1
        omega
      rw [if_neg h, if_neg h1, if_pos h2]
    · by_cases h1 : 1 < d
      · rw [if_neg h, if_pos h1, if_neg h2]
      · have e : d = 1 := by
          apply Int32.toInt_inj.1
          have a := mt Int32.lt_iff_toInt_lt.2 h2
          have b := mt Int32.lt_iff_toInt_lt.2 h1
          omega
        rw [if_neg h, if_neg h1, if_neg h2, e]
set_option maxRecDepth 100000 in
set_option maxHeartbeats 8000000 in
theorem zstart {L : Nat} {xs : Nat → Int32} (hL : L < 2147483648) {Q : Option Value → zS → Prop} (key : ∀ τ, zF (zclamp (if L = 0 then 0 else xs 0)) L xs τ → zQ zt328 zo328_1 [some (.ref 22), some (.ref 11), some (.ref 3118), some (.ref 6417), some (.int 1), none, none, none] [] τ Q) : zQ (zGG 328).1 ((zGG 328).1 0) (zent [.ref 22] 8) [] (zs0 L xs) Q := by
  show zQ zt328 zo328_0 [some (.ref 22), none, none, none, none, none, none, none] [] (zAI (yB xs) (zclamp (if L = 0 then 0 else xs 0)) [], zAR yBJ [], zAR yBP [], zAN (yBN L) [], 0, 0) Q
  simp only [zi156, zt156, zo156_0, zi88, zt88, zo88_0, zi29, zt29, zo29_0, zi107, zt107, zo107_0, zi120, zt120, zo120_0, zo120_1, zo120_2, zi42, zt42, zo42_0, zi65, zt65, zo65_0, zi321, zt321, zo321_0, zo321_1, zo321_2, zi19, zt19, zo19_0, zi149, zt149, zo149_0, zi0, zt0, zo0_0, zi245, zt245, zo245_0, zo245_1, zo245_2, zo245_3, zi228, zt228, zo228_0, zi178, zt178, zo178_0, zi328, zt328, zo328_0, zQ_cons, zK_go, zK_to, zK_end, zK_call, zK_iteD, zK_none, zp_ldI, zp_ldL, zp_ldA, zp_stI, zp_stL, zp_stA, zp_cI, zp_cL, zp_nul, zp_inc, zp_bI, zp_bL, zp_sL, zp_un, zp_cmp, zp_dup, zp_dup2, zp_pop, zp_pop2, zp_if, zp_ic, zp_jn, zp_jnn, zp_go, zp_fal, zp_tsw, zp_lsw, zp_get, zp_put, zp_ald, zp_ast, zp_len, zp_newa, zp_new, zp_cal, zp_ret, zp_tak, zp_cst, zp_acp, zp_oini, zp_cln, zp_thr, zp_bad, zp_lco, zsLd, zsSt, zsInc, zsBI, zsBL, zsSL, zsUn, zsCmp, zsDup, zsDup2, zsPop, zsPop2, zsIf, zsIc, zsJn, zsTsw, zsLsw, zsGet, zsPut, zsAld, zsAst, zsLen, zsNewa, zsCal, zsRet, zsCst, zsAcp, zsOini, zsCln, zsLco, zsThr, zxBI, zxBL, zxSL, zxU, zxC, zset1, zset2, zclr, zcat, zmake_mk, zcomp, zaft_c, zaft_cn, List.set_cons_zero, List.set_cons_succ, List.getElem?_cons_zero, List.getElem?_cons_succ, List.length_cons, List.length_nil, List.take_succ_cons, List.take_zero, List.drop_succ_cons, List.drop_zero, List.reverse_cons, List.reverse_nil, List.nil_append, List.cons_append, List.map_cons, List.map_nil, List.sum_cons, List.sum_nil, Option.toList_some, Option.toList_none, Value.category, Nat.reduceAdd, Nat.reduceMul, Nat.reduceMod, Nat.reduceDiv, Nat.reduceSub, Nat.reduceLT, Nat.reduceLeDiff, Nat.reduceEqDiff, Nat.zero_le, Nat.le_refl, Int32.reduceToNatClampNeg, Int32.reduceLT, Int32.reduceLE, Int32.reduceAdd, Int32.reduceSub, Int32.reduceMul, reduceIte, reduceCtorEq, Nat.add_zero, Nat.zero_add, true_or, or_true, false_or, or_false, true_and, and_true, false_and, and_false, not_true_eq_false, not_false_eq_true, if_true, if_false, true_implies, false_implies, implies_true, forall_const, false_imp_iff, true_imp_iff, va_rf, zlay, zent, List.replicate_zero, List.append_nil, List.replicate_succ, List.length_append, zu, zrow, zlen1, ne_eq, Int32.reduceOfNat, nI, zc313, zc317, zc319, hL, zAI_nil, zAN_nil, zB_22, zBN_22]
  generalize (if L = 0 then (0 : Int32) else xs 0) = d at key ⊢
  have hcl : (if 1 < (if 64 < d then (64 : Int32) else d) then (if 64 < d then (64 : Int32) else d) else 1) = zclamp d := zclampM d
  have e1 : (64 : Int32).toInt = 64 := rfl
  have e2 : (1 : Int32).toInt = 1 := rfl
  refine ⟨fun h1 => ⟨fun h2 => ?_, fun h2 => ?_⟩, fun h1 => ?_⟩
  · have hc2 : d = zclamp d := by
      unfold zclamp
      rw [if_neg (fun h => by have := Int32.lt_iff_toInt_lt.1 h; have := Int32.le_iff_toInt_le.1 h1; omega), if_neg (fun h => by have := Int32.lt_iff_toInt_lt.1 h; have := Int32.le_iff_toInt_le.1 h2; omega)]
    simp only [zAIrow, zAIneg, zAIc hcl, zAIc hc2, zARrow, zARput, zANput]
    exact key _ (zF_of (by decide +kernel))
  · have hc2 : 64 = zclamp d := by
      unfold zclamp
      rw [if_neg (fun h => by have := Int32.lt_iff_toInt_lt.1 h; have := Int32.le_iff_toInt_le.1 h1; omega), if_pos (Int32.not_le.1 h2)]
    simp only [zAIrow, zAIneg, zAIc hcl, zAIc hc2, zARrow, zARput, zANput]
    exact key _ (zF_of (by decide +kernel))
  · have hc2 : 1 = zclamp d := by
      unfold zclamp
      rw [if_pos (Int32.not_le.1 h1)]
    simp only [zAIrow, zAIneg, zAIc hcl, zAIc hc2, zARrow, zARput, zANput]
    exact key _ (zF_of (by decide +kernel))
