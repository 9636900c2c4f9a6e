/-! Runs of the small machine, said without their length; rules to walk them. -/
theorem zrun_more {G : zG} : ∀ (n : Nat) (tg : Nat → List zO) (ops : List zO) (ls : zL) (st : List Value) (σ : zS) (x : Option Value × zS), zrun G n tg ops ls st σ = some x → zrun G (n + 1) tg ops ls st σ = some x := by
  intro n
  induction n with
  | zero => intro tg ops ls st σ x h; cases h
  | succ n ih =>
    intro tg ops ls st σ x h
    cases ops with
    | nil => cases h
    | cons o rest =>
      obtain ⟨r, σ'⟩ := x
      obtain ⟨y, hy, hr⟩ := zrun_inv h
      rw [zrun]
      rw [hy]
      rcases y with ⟨b, ls1, st1, σ1⟩ | ⟨q, as, ls1, st1, σ1⟩ | ⟨v, σ1⟩
      · cases b with
        | zero => exact ih _ _ _ _ _ _ hr
        | succ b => exact ih _ _ _ _ _ _ hr
      · obtain ⟨h0, v, σ2, st2, σ3, h1, h2, h3⟩ := hr
        dsimp only
        rw [if_pos h0, ih _ _ _ _ _ _ h1]
        dsimp only
        rw [h2]
        exact ih _ _ _ _ _ _ h3
      · obtain ⟨rfl, rfl⟩ := hr
        rfl
theorem zrun_le {G : zG} {n k : Nat} (h : n ≤ k) {tg : Nat → List zO} {ops : List zO} {ls : zL} {st : List Value} {σ : zS} {x : Option Value × zS} (hr : zrun G n tg ops ls st σ = some x) : zrun G k tg ops ls st σ = some x := by
  induction h with
  | refl => exact hr
  | step _ ih => exact zrun_more _ _ _ _ _ _ _ ih
/-- from here the run ends, and Q holds of its end -/
def zQ (tg : Nat → List zO) (ops : List zO) (ls : zL) (st : List Value) (σ : zS) (Q : Option Value → zS → Prop) : Prop := ∃ n r τ, zrun zGG n tg ops ls st σ = some (r, τ) ∧ Q r τ
/-- a call of method q ends, and Q holds of its end -/
def zC (q : Nat) (as : List Value) (σ : zS) (Q : Option Value → zS → Prop) : Prop := (zlay as).length ≤ (zGG q).2 ∧ zQ (zGG q).1 ((zGG q).1 0) (zent as (zGG q).2) [] σ Q
theorem zC.mono {q : Nat} {as : List Value} {σ : zS} {Q Q' : Option Value → zS → Prop} (h : zC q as σ Q) (hi : ∀ r τ, Q r τ → Q' r τ) : zC q as σ Q' := by
  obtain ⟨h0, n, r, τ, h1, h2⟩ := h
  exact ⟨h0, n, r, τ, h1, hi r τ h2⟩
/-- what is left to show behind a step -/
def zK (tg : Nat → List zO) (rest : List zO) (Q : Option Value → zS → Prop) (o : zO) (x : Option zR) : Prop := match x with
  | none => False
  | some (.inl (0, ls, st, σ)) => zQ tg rest ls st σ Q
  | some (.inl (b + 1, ls, st, σ)) => zQ tg (tg b) ls st σ Q
  | some (.inr (.inl (q, as, ls, st, σ))) => zC q as σ (fun r τ => ∃ st2 τ2, zaft o r st τ = some (st2, τ2) ∧ zQ tg rest ls st2 τ2 Q)
  | some (.inr (.inr (r, σ))) => Q r σ
theorem zQ_cons {tg : Nat → List zO} {o : zO} {rest : List zO} {ls : zL} {st : List Value} {σ : zS} {Q : Option Value → zS → Prop} : zQ tg (o :: rest) ls st σ Q = zK tg rest Q o (zstep o ls st σ) := by
  apply propext
  constructor
  · rintro ⟨n, r, τ, h, hq⟩
    cases n with
    | zero => cases h
    | succ n =>
      obtain ⟨y, hy, hr⟩ := zrun_inv h
      rw [hy]
      rcases y with ⟨b, ls1, st1, σ1⟩ | ⟨q, as, ls1, st1, σ1⟩ | ⟨v, σ1⟩
      · cases b with
        | zero => exact ⟨n, r, τ, hr, hq⟩
        | succ b => exact ⟨n, r, τ, hr, hq⟩
      · obtain ⟨h0, v, σ2, st2, σ3, h1, h2, h3⟩ := hr
        exact ⟨h0, n, v, σ2, h1, st2, σ3, h2, n, r, τ, h3, hq⟩
      · obtain ⟨rfl, rfl⟩ := hr
        exact hq
  · intro h
    cases hy : zstep o ls st σ with
    | none => rw [hy] at h; exact h.elim
    | some y =>
      rw [hy] at h
      rcases y with ⟨b, ls1, st1, σ1⟩ | ⟨q, as, ls1, st1, σ1⟩ | ⟨v, σ1⟩
      · cases b with
        | zero =>
          obtain ⟨n, r, τ, h1, h2⟩ := h
          exact ⟨n + 1, r, τ, by rw [zrun_go hy]; exact h1, h2⟩
        | succ b =>
          obtain ⟨n, r, τ, h1, h2⟩ := h
          exact ⟨n + 1, r, τ, by rw [zrun_to hy]; exact h1, h2⟩
      · obtain ⟨h0, n, v, σ2, h1, st2, σ3, h2, k, r, τ, h3, hq⟩ := h
        refine ⟨max n k + 1, r, τ, ?_, hq⟩
        rw [zrun, hy]
        dsimp only
        rw [if_pos h0, zrun_le (Nat.le_max_left n k) h1]
        dsimp only
        rw [h2]
        exact zrun_le (Nat.le_max_right n k) h3
      · exact ⟨1, v, σ1, zrun_end hy, h⟩
section
variable {tg : Nat → List zO} {rest : List zO} {ls : zL} {st : List Value} {σ : zS} {Q : Option Value → zS → Prop} {o : zO}
theorem zK_go : zK tg rest Q o (some (.inl (0, ls, st, σ))) = zQ tg rest ls st σ Q := rfl
theorem zK_to {b : Nat} : zK tg rest Q o (some (.inl (b + 1, ls, st, σ))) = zQ tg (tg b) ls st σ Q := rfl
theorem zK_end {r : Option Value} : zK tg rest Q o (some (.inr (.inr (r, σ)))) = Q r σ := rfl
theorem zK_call {q : Nat} {as : List Value} : zK tg rest Q o (some (.inr (.inl (q, as, ls, st, σ)))) = zC q as σ (fun r τ => ∃ st2 τ2, zaft o r st τ = some (st2, τ2) ∧ zQ tg rest ls st2 τ2 Q) := rfl
theorem zK_ite {c : Prop} [Decidable c] {x y : Option zR} : zK tg rest Q o (if c then x else y) = if c then zK tg rest Q o x else zK tg rest Q o y := by split <;> rfl
theorem zK_iteD {c : Prop} {d : Decidable c} {x y : Option zR} : zK tg rest Q o (@ite _ c d x y) = ((c → zK tg rest Q o x) ∧ (¬ c → zK tg rest Q o y)) := by
  apply propext
  by_cases h : c <;> simp [h]
theorem zK_none : zK tg rest Q o none = False := rfl
-- the steps by the operations' names
theorem zp_ldI {i : Nat} : zstep (zldI i) ls st σ = zsLd 0 i ls st σ := rfl
theorem zp_ldL {i : Nat} : zstep (zldL i) ls st σ = zsLd 1 i ls st σ := rfl
theorem zp_ldA {i : Nat} : zstep (zldA i) ls st σ = zsLd 2 i ls st σ := rfl
theorem zp_stI {i : Nat} : zstep (zstI i) ls st σ = zsSt 0 i ls st σ := rfl
theorem zp_stL {i : Nat} : zstep (zstL i) ls st σ = zsSt 1 i ls st σ := rfl
theorem zp_stA {i : Nat} : zstep (zstA i) ls st σ = zsSt 2 i ls st σ := rfl
theorem zp_cI {c : Int32} : zstep (zcI c) ls st σ = some (.inl (0, ls, .int c :: st, σ)) := rfl
theorem zp_cL {c : Int64} : zstep (zcL c) ls st σ = some (.inl (0, ls, .long c :: st, σ)) := rfl
theorem zp_nul : zstep znul ls st σ = some (.inl (0, ls, .null :: st, σ)) := rfl
theorem zp_inc {i : Nat} {c : Int32} : zstep (zinc i c) ls st σ = zsInc i c ls st σ := rfl
theorem zp_bI {k : Nat} : zstep (zbI k) ls st σ = zsBI k ls st σ := rfl
theorem zp_bL {k : Nat} : zstep (zbL k) ls st σ = zsBL k ls st σ := rfl
theorem zp_sL {k : Nat} : zstep (zsL k) ls st σ = zsSL k ls st σ := rfl
theorem zp_un {k : Nat} : zstep (zun k) ls st σ = zsUn k ls st σ := rfl
theorem zp_cmp : zstep zcmp ls st σ = zsCmp ls st σ := rfl
theorem zp_dup : zstep zdup ls st σ = zsDup ls st σ := rfl
theorem zp_dup2 : zstep zdup2 ls st σ = zsDup2 ls st σ := rfl
theorem zp_pop : zstep zpop ls st σ = zsPop ls st σ := rfl
theorem zp_pop2 : zstep zpop2 ls st σ = zsPop2 ls st σ := rfl
theorem zp_if {k b : Nat} : zstep (zif k b) ls st σ = zsIf k b ls st σ := rfl
theorem zp_ic {k b : Nat} : zstep (zic k b) ls st σ = zsIc k b ls st σ := rfl
theorem zp_jn {b : Nat} : zstep (zjn b) ls st σ = zsJn (b + 1) 0 ls st σ := rfl
theorem zp_jnn {b : Nat} : zstep (zjnn b) ls st σ = zsJn 0 (b + 1) ls st σ := rfl
theorem zp_go {b : Nat} : zstep (zgo b) ls st σ = some (.inl (b + 1, ls, st, σ)) := rfl
theorem zp_fal {b : Nat} : zstep (zfal b) ls st σ = some (.inl (b + 1, ls, st, σ)) := rfl
theorem zp_tsw {b : Nat} {lo : Int32} {bs : List Nat} : zstep (ztsw b lo bs) ls st σ = zsTsw b lo bs ls st σ := rfl
theorem zp_lsw {b : Nat} {ks bs : List Nat} : zstep (zlsw b ks bs) ls st σ = zsLsw b ks bs ls st σ := rfl
theorem zp_get {c k t : Nat} : zstep (zget c k t) ls st σ = zsGet c k t ls st σ := rfl
theorem zp_put {c k t : Nat} : zstep (zput c k t) ls st σ = zsPut c k t ls st σ := rfl
theorem zp_ald {t : Nat} : zstep (zald t) ls st σ = zsAld t ls st σ := rfl
theorem zp_ast {t : Nat} : zstep (zast t) ls st σ = zsAst t ls st σ := rfl
theorem zp_len : zstep zlen ls st σ = zsLen ls st σ := rfl
theorem zp_newa {kd : Nat} : zstep (znewa kd) ls st σ = zsNewa kd ls st σ := rfl
theorem zp_new {c z : Nat} : zstep (znew c z) ls st σ = if c < 15 then some (.inl (0, ls, .ref (32 * σ.2.2.2.2.1 + c) :: st, zmake σ c 0 z)) else none := rfl
theorem zp_cal {q n md c : Nat} : zstep (zcal q n md c) ls st σ = zsCal q n md c ls st σ := rfl
theorem zp_ret {t : Nat} : zstep (zret t) ls st σ = zsRet t st σ := rfl
theorem zp_tak : zstep ztak ls st σ = some (.inl (0, ls, .ref 54 :: st, σ)) := rfl
theorem zp_cst {kd : Nat} : zstep (zcst kd) ls st σ = zsCst kd ls st σ := rfl
theorem zp_acp : zstep zacp ls st σ = zsAcp ls st σ := rfl
theorem zp_oini : zstep zoini ls st σ = zsOini ls st σ := rfl
theorem zp_cln {kd : Nat} : zstep (zcln kd) ls st σ = zsCln kd ls st σ := rfl
theorem zp_thr {pc : Nat} : zstep (zthr pc) ls st σ = zsThr pc st σ := rfl
theorem zp_bad : zstep zbad ls st σ = none := rfl
theorem zp_lco {q pc : Nat} : zstep (zlco q pc) ls st σ = zsLco q ls st σ := rfl
end
theorem zmake_mk {I : zI} {J : zJ} {P : zP} {N : Nat → Nat} {n z kd len k : Nat} : zmake (I, J, P, N, n, z) kd len k = (zrow I (32 * n + kd) 0, zrow J (32 * n + kd) 0, zrow P (32 * n + kd) none, zlen1 N (32 * n + kd) len, n + 1, z + k) := rfl
theorem zaft_c {q n md c : Nat} {v : Value} {st : List Value} {σ : zS} {X : List Value → zS → Prop} (hv : ∀ k, v ≠ .retAddr k) : (∃ st2 τ2, zaft (zcal q n md c) (some v) st σ = some (st2, τ2) ∧ X st2 τ2) = X (v :: st) σ := by
  have e : zaft (zcal q n md c) (some v) st σ = some (v :: st, σ) := by
    unfold zaft
    rw [if_neg (show ¬ (zcal q n md c).1 = 41 from (by decide : ¬ (33 : Nat) = 41))]
    split
    · rename_i k h; cases h; exact absurd rfl (hv _)
    · rfl
  apply propext
  constructor
  · rintro ⟨s2, t2, h, hx⟩
    rw [e] at h
    cases h
    exact hx
  · intro h
    exact ⟨_, _, e, h⟩
theorem zaft_cn {q n md c : Nat} {st : List Value} {σ : zS} {X : List Value → zS → Prop} : (∃ st2 τ2, zaft (zcal q n md c) none st σ = some (st2, τ2) ∧ X st2 τ2) = X st σ := by
  apply propext
  constructor
  · rintro ⟨s2, t2, h, hx⟩
    cases h
    exact hx
  · intro h
    exact ⟨_, _, rfl, h⟩
