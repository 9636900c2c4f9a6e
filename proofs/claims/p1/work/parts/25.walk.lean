/-! walking with what is left kept closed, so that nothing is walked before its turn -/
def zH (o : zO) (st : List Value) (tg : Nat → List zO) (rest : List zO) (ls : zL) (Q : Option Value → zS → Prop) (r : Option Value) (τ : zS) : Prop := ∃ st2 τ2, zaft o r st τ = some (st2, τ2) ∧ zQ tg rest ls st2 τ2 Q
section
variable {tg : Nat → List zO} {rest : List zO} {ls : zL} {st : List Value} {σ τ : zS} {Q : Option Value → zS → Prop} {o : zO} {q n md c : Nat}
theorem zK_callH {as : List Value} : zK tg rest Q o (some (.inr (.inl (q, as, ls, st, σ)))) = zC q as σ (zH o st tg rest ls Q) := rfl
theorem zH_i {x : Int32} : zH (zcal q n md c) st tg rest ls Q (some (.int x)) τ = zQ tg rest ls (.int x :: st) τ Q := zaft_c (fun k h => by cases h)
theorem zH_l {x : Int64} : zH (zcal q n md c) st tg rest ls Q (some (.long x)) τ = zQ tg rest ls (.long x :: st) τ Q := zaft_c (fun k h => by cases h)
theorem zH_r {x : Nat} : zH (zcal q n md c) st tg rest ls Q (some (.ref x)) τ = zQ tg rest ls (.ref x :: st) τ Q := zaft_c (fun k h => by cases h)
theorem zH_u : zH (zcal q n md c) st tg rest ls Q (some .null) τ = zQ tg rest ls (.null :: st) τ Q := zaft_c (fun k h => by cases h)
theorem zH_n : zH (zcal q n md c) st tg rest ls Q none τ = zQ tg rest ls st τ Q := zaft_cn
theorem zC_of {as : List Value} (h : ∀ Q' : Option Value → zS → Prop, (∀ r τ, Q r τ → Q' r τ) → zC q as σ Q') : zC q as σ Q := h Q (fun _ _ h => h)
end
theorem zK_iteC {tg : Nat → List zO} {rest : List zO} {Q : Option Value → zS → Prop} {o : zO} {c : Prop} {d : Decidable c} {x y : Option zR} : zK tg rest Q o (@ite _ c d x y) = @ite Prop c (Classical.propDecidable _) (zK tg rest Q o x) (zK tg rest Q o y) := by
  by_cases h : c
  · rw [if_pos h, if_pos h]
  · rw [if_neg h, if_neg h]
theorem iteC {c : Prop} {A B : Prop} : @ite Prop c (Classical.propDecidable _) A B = ((c → A) ∧ (¬ c → B)) := iteP
/-! one rule for each operation; a branch is an `if` whose truth nobody computes -/
section
variable {tg : Nat → List zO} {rest : List zO} {ls : zL} {st r : List Value} {σ : zS} {Q : Option Value → zS → Prop}
theorem zy_ldI {i : Nat} : zQ tg (zldI i :: rest) ls st σ Q = zK tg rest Q (zldI i) (zsLd 0 i ls st σ) := zQ_cons
theorem zy_ldL {i : Nat} : zQ tg (zldL i :: rest) ls st σ Q = zK tg rest Q (zldL i) (zsLd 1 i ls st σ) := zQ_cons
theorem zy_ldA {i : Nat} : zQ tg (zldA i :: rest) ls st σ Q = zK tg rest Q (zldA i) (zsLd 2 i ls st σ) := zQ_cons
theorem zy_stI {i : Nat} : zQ tg (zstI i :: rest) ls st σ Q = zK tg rest Q (zstI i) (zsSt 0 i ls st σ) := zQ_cons
theorem zy_stL {i : Nat} : zQ tg (zstL i :: rest) ls st σ Q = zK tg rest Q (zstL i) (zsSt 1 i ls st σ) := zQ_cons
theorem zy_stA {i : Nat} : zQ tg (zstA i :: rest) ls st σ Q = zK tg rest Q (zstA i) (zsSt 2 i ls st σ) := zQ_cons
theorem zy_cI {c : Int32} : zQ tg (zcI c :: rest) ls st σ Q = zQ tg rest ls (.int c :: st) σ Q := zQ_cons
theorem zy_cL {c : Int64} : zQ tg (zcL c :: rest) ls st σ Q = zQ tg rest ls (.long c :: st) σ Q := zQ_cons
theorem zy_nul  : zQ tg (znul :: rest) ls st σ Q = zQ tg rest ls (.null :: st) σ Q := zQ_cons
theorem zy_inc {i : Nat} {c : Int32} : zQ tg (zinc i c :: rest) ls st σ Q = zK tg rest Q (zinc i c) (zsInc i c ls st σ) := zQ_cons
theorem zy_bI {k : Nat} : zQ tg (zbI k :: rest) ls st σ Q = zK tg rest Q (zbI k) (zsBI k ls st σ) := zQ_cons
theorem zy_bL {k : Nat} : zQ tg (zbL k :: rest) ls st σ Q = zK tg rest Q (zbL k) (zsBL k ls st σ) := zQ_cons
theorem zy_sL {k : Nat} : zQ tg (zsL k :: rest) ls st σ Q = zK tg rest Q (zsL k) (zsSL k ls st σ) := zQ_cons
theorem zy_un {k : Nat} : zQ tg (zun k :: rest) ls st σ Q = zK tg rest Q (zun k) (zsUn k ls st σ) := zQ_cons
theorem zy_cmp  : zQ tg (zcmp :: rest) ls st σ Q = zK tg rest Q (zcmp) (zsCmp ls st σ) := zQ_cons
theorem zy_dup  : zQ tg (zdup :: rest) ls st σ Q = zK tg rest Q (zdup) (zsDup ls st σ) := zQ_cons
theorem zy_dup2  : zQ tg (zdup2 :: rest) ls st σ Q = zK tg rest Q (zdup2) (zsDup2 ls st σ) := zQ_cons
theorem zy_pop  : zQ tg (zpop :: rest) ls st σ Q = zK tg rest Q (zpop) (zsPop ls st σ) := zQ_cons
theorem zy_pop2  : zQ tg (zpop2 :: rest) ls st σ Q = zK tg rest Q (zpop2) (zsPop2 ls st σ) := zQ_cons
theorem zy_jn {b : Nat} : zQ tg (zjn b :: rest) ls st σ Q = zK tg rest Q (zjn b) (zsJn (b + 1) 0 ls st σ) := zQ_cons
theorem zy_jnn {b : Nat} : zQ tg (zjnn b :: rest) ls st σ Q = zK tg rest Q (zjnn b) (zsJn 0 (b + 1) ls st σ) := zQ_cons
theorem zy_go {b : Nat} : zQ tg (zgo b :: rest) ls st σ Q = zQ tg (tg b) ls st σ Q := zQ_cons
theorem zy_fal {b : Nat} : zQ tg (zfal b :: rest) ls st σ Q = zQ tg (tg b) ls st σ Q := zQ_cons
theorem zy_tsw {b : Nat} {lo : Int32} {bs : List Nat} : zQ tg (ztsw b lo bs :: rest) ls st σ Q = zK tg rest Q (ztsw b lo bs) (zsTsw b lo bs ls st σ) := zQ_cons
theorem zy_lsw {b : Nat} {ks bs : List Nat} : zQ tg (zlsw b ks bs :: rest) ls st σ Q = zK tg rest Q (zlsw b ks bs) (zsLsw b ks bs ls st σ) := zQ_cons
theorem zy_get {c k t : Nat} : zQ tg (zget c k t :: rest) ls st σ Q = zK tg rest Q (zget c k t) (zsGet c k t ls st σ) := zQ_cons
theorem zy_put {c k t : Nat} : zQ tg (zput c k t :: rest) ls st σ Q = zK tg rest Q (zput c k t) (zsPut c k t ls st σ) := zQ_cons
theorem zy_ald {t : Nat} : zQ tg (zald t :: rest) ls st σ Q = zK tg rest Q (zald t) (zsAld t ls st σ) := zQ_cons
theorem zy_ast {t : Nat} : zQ tg (zast t :: rest) ls st σ Q = zK tg rest Q (zast t) (zsAst t ls st σ) := zQ_cons
theorem zy_len  : zQ tg (zlen :: rest) ls st σ Q = zK tg rest Q (zlen) (zsLen ls st σ) := zQ_cons
theorem zy_newa {kd : Nat} : zQ tg (znewa kd :: rest) ls st σ Q = zK tg rest Q (znewa kd) (zsNewa kd ls st σ) := zQ_cons
theorem zy_new {c z : Nat} : zQ tg (znew c z :: rest) ls st σ Q = zK tg rest Q (znew c z) (if c < 15 then some (.inl (0, ls, .ref (32 * σ.2.2.2.2.1 + c) :: st, zmake σ c 0 z)) else none) := zQ_cons
theorem zy_cal {q n md c : Nat} : zQ tg (zcal q n md c :: rest) ls st σ Q = zK tg rest Q (zcal q n md c) (zsCal q n md c ls st σ) := zQ_cons
theorem zy_ret {t : Nat} : zQ tg (zret t :: rest) ls st σ Q = zK tg rest Q (zret t) (zsRet t st σ) := zQ_cons
theorem zy_tak  : zQ tg (ztak :: rest) ls st σ Q = zQ tg rest ls (.ref 54 :: st) σ Q := zQ_cons
theorem zy_cst {kd : Nat} : zQ tg (zcst kd :: rest) ls st σ Q = zK tg rest Q (zcst kd) (zsCst kd ls st σ) := zQ_cons
theorem zy_acp  : zQ tg (zacp :: rest) ls st σ Q = zK tg rest Q (zacp) (zsAcp ls st σ) := zQ_cons
theorem zy_oini  : zQ tg (zoini :: rest) ls st σ Q = zK tg rest Q (zoini) (zsOini ls st σ) := zQ_cons
theorem zy_cln {kd : Nat} : zQ tg (zcln kd :: rest) ls st σ Q = zK tg rest Q (zcln kd) (zsCln kd ls st σ) := zQ_cons
theorem zy_thr {pc : Nat} : zQ tg (zthr pc :: rest) ls st σ Q = zK tg rest Q (zthr pc) (zsThr pc st σ) := zQ_cons
theorem zy_bad  : zQ tg (zbad :: rest) ls st σ Q = zK tg rest Q (zbad) (none) := zQ_cons
theorem zy_lco {q pc : Nat} : zQ tg (zlco q pc :: rest) ls st σ Q = zK tg rest Q (zlco q pc) (zsLco q ls st σ) := zQ_cons
theorem zy_if0 {b : Nat} {x : Int32} : zQ tg (zif 0 b :: rest) ls (.int x :: r) σ Q = @ite Prop (x = 0) (Classical.propDecidable _) (zQ tg (tg b) ls r σ Q) (zQ tg rest ls r σ Q) := by
  rw [zQ_cons]
  exact zK_iteC
theorem zy_ic0 {b : Nat} {x y : Int32} : zQ tg (zic 0 b :: rest) ls (.int y :: .int x :: r) σ Q = @ite Prop (x = y) (Classical.propDecidable _) (zQ tg (tg b) ls r σ Q) (zQ tg rest ls r σ Q) := by
  rw [zQ_cons]
  exact zK_iteC
theorem zy_if1 {b : Nat} {x : Int32} : zQ tg (zif 1 b :: rest) ls (.int x :: r) σ Q = @ite Prop (¬ x = 0) (Classical.propDecidable _) (zQ tg (tg b) ls r σ Q) (zQ tg rest ls r σ Q) := by
  rw [zQ_cons]
  exact zK_iteC
theorem zy_ic1 {b : Nat} {x y : Int32} : zQ tg (zic 1 b :: rest) ls (.int y :: .int x :: r) σ Q = @ite Prop (¬ x = y) (Classical.propDecidable _) (zQ tg (tg b) ls r σ Q) (zQ tg rest ls r σ Q) := by
  rw [zQ_cons]
  exact zK_iteC
theorem zy_if2 {b : Nat} {x : Int32} : zQ tg (zif 2 b :: rest) ls (.int x :: r) σ Q = @ite Prop (x < 0) (Classical.propDecidable _) (zQ tg (tg b) ls r σ Q) (zQ tg rest ls r σ Q) := by
  rw [zQ_cons]
  exact zK_iteC
theorem zy_ic2 {b : Nat} {x y : Int32} : zQ tg (zic 2 b :: rest) ls (.int y :: .int x :: r) σ Q = @ite Prop (x < y) (Classical.propDecidable _) (zQ tg (tg b) ls r σ Q) (zQ tg rest ls r σ Q) := by
  rw [zQ_cons]
  exact zK_iteC
theorem zy_if3 {b : Nat} {x : Int32} : zQ tg (zif 3 b :: rest) ls (.int x :: r) σ Q = @ite Prop (0 ≤ x) (Classical.propDecidable _) (zQ tg (tg b) ls r σ Q) (zQ tg rest ls r σ Q) := by
  rw [zQ_cons]
  exact zK_iteC
theorem zy_ic3 {b : Nat} {x y : Int32} : zQ tg (zic 3 b :: rest) ls (.int y :: .int x :: r) σ Q = @ite Prop (y ≤ x) (Classical.propDecidable _) (zQ tg (tg b) ls r σ Q) (zQ tg rest ls r σ Q) := by
  rw [zQ_cons]
  exact zK_iteC
theorem zy_if4 {b : Nat} {x : Int32} : zQ tg (zif 4 b :: rest) ls (.int x :: r) σ Q = @ite Prop (0 < x) (Classical.propDecidable _) (zQ tg (tg b) ls r σ Q) (zQ tg rest ls r σ Q) := by
  rw [zQ_cons]
  exact zK_iteC
theorem zy_ic4 {b : Nat} {x y : Int32} : zQ tg (zic 4 b :: rest) ls (.int y :: .int x :: r) σ Q = @ite Prop (y < x) (Classical.propDecidable _) (zQ tg (tg b) ls r σ Q) (zQ tg rest ls r σ Q) := by
  rw [zQ_cons]
  exact zK_iteC
theorem zy_if5 {b : Nat} {x : Int32} : zQ tg (zif 5 b :: rest) ls (.int x :: r) σ Q = @ite Prop (x ≤ 0) (Classical.propDecidable _) (zQ tg (tg b) ls r σ Q) (zQ tg rest ls r σ Q) := by
  rw [zQ_cons]
  exact zK_iteC
theorem zy_ic5 {b : Nat} {x y : Int32} : zQ tg (zic 5 b :: rest) ls (.int y :: .int x :: r) σ Q = @ite Prop (x ≤ y) (Classical.propDecidable _) (zQ tg (tg b) ls r σ Q) (zQ tg rest ls r σ Q) := by
  rw [zQ_cons]
  exact zK_iteC
end
theorem wI_lt {i j : Nat} (hi : i < 2 ^ 31) (hj : j < 2 ^ 31) : (nI i < nI j) = (i < j) := by
  rw [Int32.lt_iff_toInt_lt, nI_toInt hi, nI_toInt hj]
  exact propext (by omega)
theorem wI_le {i j : Nat} (hi : i < 2 ^ 31) (hj : j < 2 ^ 31) : (nI i ≤ nI j) = (i ≤ j) := by
  rw [Int32.le_iff_toInt_le, nI_toInt hi, nI_toInt hj]
  exact propext (by omega)
theorem wI_eq {i j : Nat} (hi : i < 2 ^ 31) (hj : j < 2 ^ 31) : (nI i = nI j) = (i = j) := by
  refine propext ⟨fun h => ?_, fun h => by rw [h]⟩
  have := congrArg Int32.toInt h
  rw [nI_toInt hi, nI_toInt hj] at this
  omega
theorem wI_0 : (0 : Int32) = nI 0 := rfl
theorem wI_neg {i : Nat} (hi : i < 2 ^ 31) : (nI i < 0) = False := by
  rw [wI_0, wI_lt hi (by decide)]
  exact propext ⟨fun h => by omega, fun h => h.elim⟩
theorem wI_pos {i : Nat} (hi : i < 2 ^ 31) : (0 ≤ nI i) = True := by
  rw [wI_0, wI_le (by decide) hi]
  exact propext ⟨fun _ => trivial, fun _ => Nat.zero_le _⟩
theorem wI_cl {i : Nat} (hi : i < 2 ^ 31) : (nI i).toNatClampNeg = i := nI_clamp hi
theorem wlt_t {i j : Nat} (h : i < j) : (i < j) = True := eq_true h
theorem wlt_f {i j : Nat} (h : j ≤ i) : (i < j) = False := eq_false (by omega)
theorem wle_t {i j : Nat} (h : i ≤ j) : (i ≤ j) = True := eq_true h
theorem wle_f {i j : Nat} (h : j < i) : (i ≤ j) = False := eq_false (by omega)
theorem weq_f {i j : Nat} (h : i ≠ j) : (i = j) = False := eq_false h
theorem wmod {x k : Nat} (h : k < 32) : (32 * x + k) % 32 = k := by omega
theorem zuR_ne {α : Type} {F : Nat → Nat → α} {a a' j : Nat} {v : α} (h : a' ≠ a) : zu F a j v a' = F a' := by
  funext j'
  unfold zu
  rw [if_neg (fun x => h x.1)]
theorem zC_eq {q : Nat} {as : List Value} {σ τ : zS} {r : Option Value} (h : ∀ Q : Option Value → zS → Prop, Q r τ → zC q as σ Q) (Q : Option Value → zS → Prop) : zC q as σ Q = Q r τ := by
  refine propext ⟨fun hq => ?_, h Q⟩
  obtain ⟨-, n1, r1, τ1, e1, h1, h2⟩ := h (fun r' τ' => r' = r ∧ τ' = τ) ⟨rfl, rfl⟩
  obtain ⟨-, n2, r2, τ2, e2, h3⟩ := hq
  have a1 := zrun_le (Nat.le_max_left n1 n2) e1
  have a2 := zrun_le (Nat.le_max_right n1 n2) e2
  rw [a1] at a2
  cases a2
  subst h1
  subst h2
  exact h3
