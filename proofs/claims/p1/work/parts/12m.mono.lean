/-! Cells and slots never become fewer. -/
def zle (σ τ : zS) : Prop := σ.2.2.2.2.1 ≤ τ.2.2.2.2.1 ∧ σ.2.2.2.2.2 ≤ τ.2.2.2.2.2 ∧ σ.2.2.2.1 31 ≤ τ.2.2.2.1 31
theorem zle_rf {σ : zS} : zle σ σ := ⟨Nat.le_refl _, Nat.le_refl _, Nat.le_refl _⟩
theorem zle_tr {a b c : zS} (h : zle a b) (h' : zle b c) : zle a c := ⟨Nat.le_trans h.1 h'.1, Nat.le_trans h.2.1 h'.2.1, Nat.le_trans h.2.2 h'.2.2⟩
theorem zle_make {σ : zS} {kd len z : Nat} (h : kd < 31) : zle σ (zmake σ kd len z) := by
  rw [zmake_eq]
  refine ⟨Nat.le_succ _, Nat.le_add_right _ _, ?_⟩
  dsimp only
  rw [zlen1_ne (by omega)]
  exact Nat.le_refl _
def zmn (σ : zS) (x : zR) : Prop := match x with
  | .inl (_, _, _, σ1) => zle σ σ1
  | .inr (.inl (_, _, _, _, σ1)) => σ1 = σ
  | .inr (.inr (_, σ1)) => σ1 = σ
theorem zstep_mono {o : zO} {ls : zL} {st : List Value} {σ : zS} {x : zR} (h : zstep o ls st σ = some x) : zmn σ x := by
  obtain ⟨t, a, b, d, c, e, bs, ks⟩ := o
  by_cases h31 : t = 31
  · subst h31
    obtain ⟨n, r, -, -, -, hk, rfl⟩ := zvNewa (show zsNewa a ls st σ = some x from h)
    exact zle_make (by omega)
  by_cases h39 : t = 39
  · subst h39
    obtain ⟨a9, r, -, -, -, hk, rfl⟩ := zvCln (show zsCln a ls st σ = some x from h)
    refine ⟨Nat.le_succ _, Nat.le_add_right _ _, ?_⟩
    dsimp only
    rw [zlen1_ne (by omega)]
    exact Nat.le_refl _
  by_cases h32 : t = 32
  · subst h32
    have h9 : (if a < 15 then some (Sum.inl (0, ls, Value.ref (32 * σ.2.2.2.2.1 + a) :: st, zmake σ a 0 b)) else none : Option zR) = some x := h
    split at h9
    · cases h9
      exact zle_make (by omega)
    · cases h9
  obtain ⟨I, J, P, N, n, z⟩ := σ
  unfold zstep at h
  dsimp only at h
  split at h
  all_goals first
    | (exact absurd rfl h31)
    | (exact absurd rfl h39)
    | (exact absurd rfl h32)
    | (cases h; exact zle_rf)
    | (cases h; rfl)
    | (cases h; done)
    | (simp only [zsLd, zsSt, zsInc, zsBI, zsBL, zsSL, zsUn, zsCmp, zsDup, zsDup2, zsPop, zsPop2, zsIf, zsIc, zsJn, zsTsw, zsLsw, zsGet, zsPut, zsAld, zsAst, zsLen, zsCal, zsRet, zsCst, zsAcp, zsOini, zsLco, zsThr] at h
       repeat' split at h
       all_goals first
         | (cases h; done)
         | (cases h; exact zle_rf)
         | (cases h; exact ⟨Nat.le_refl _, Nat.le_refl _, Nat.le_refl _⟩)
         | (cases h; rfl))
theorem zaft_mono {o : zO} {r : Option Value} {st st2 : List Value} {σ σ2 : zS} (h : zaft o r st σ = some (st2, σ2)) : zle σ σ2 := by
  unfold zaft at h
  split at h
  · split at h
    · split at h
      · cases h; exact ⟨Nat.le_refl _, Nat.le_refl _, Nat.le_refl _⟩
      · cases h
    · split at h
      · cases h
      · cases h
        refine ⟨Nat.le_refl _, Nat.le_add_right _ _, ?_⟩
        dsimp only
        rw [zlen1_at]
        exact Nat.le_succ _
    · cases h
  · split at h
    · cases h
    · cases h; exact zle_rf
theorem zrun_mono {G : zG} : ∀ (n : Nat) (tg : Nat → List zO) (ops : List zO) (ls : zL) (st : List Value) (σ σ' : zS) (r : Option Value), zrun G n tg ops ls st σ = some (r, σ') → zle σ σ' := by
  intro n
  induction n with
  | zero => intro tg ops ls st σ σ' r h; cases h
  | succ n ih =>
    intro tg ops ls st σ σ' r h
    cases ops with
    | nil => cases h
    | cons o rest =>
      obtain ⟨x, hx, hr⟩ := zrun_inv h
      have hm := zstep_mono hx
      clear hx
      rcases x with ⟨b, ls1, st1, σ1⟩ | ⟨q, as, ls1, st1, σ1⟩ | ⟨v, σ1⟩
      · cases b with
        | zero => exact zle_tr hm (ih _ _ _ _ _ _ _ hr)
        | succ b => exact zle_tr hm (ih _ _ _ _ _ _ _ hr)
      · obtain ⟨-, v, σ2, st2, σ3, h1, h2, h3⟩ := hr
        have e : σ1 = σ := hm
        subst e
        exact zle_tr (ih _ _ _ _ _ _ _ h1) (zle_tr (zaft_mono h2) (ih _ _ _ _ _ _ _ h3))
      · obtain ⟨-, rfl⟩ := hr
        have e : σ1 = σ := hm
        subst e
        exact zle_rf
theorem zaft_cal {q n md c : Nat} {r : Option Value} {st st2 : List Value} {σ σ2 : zS} (h : zaft (zcal q n md c) r st σ = some (st2, σ2)) : st2 = r.toList ++ st ∧ σ2 = σ ∧ ∀ k, r ≠ some (.retAddr k) := by
  unfold zaft at h
  rw [if_neg (show ¬ (zcal q n md c).1 = 41 from (by decide : ¬ (33 : Nat) = 41))] at h
  split at h
  · cases h
  · rename_i hn
    cases h
    exact ⟨rfl, rfl, fun k e => hn k e⟩
theorem zaft_lco {q pc : Nat} {r : Option Value} {st st2 : List Value} {σ σ2 : zS} (h : zaft (zlco q pc) r st σ = some (st2, σ2)) : ∃ b s, st = .ref b :: s ∧ ((∃ v, r = some (.long v) ∧ b % 32 = 17 ∧ 0 < σ.2.2.2.1 b ∧ st2 = .int 0 :: s ∧ σ2 = (σ.1, zu σ.2.1 b 0 v, σ.2.2)) ∨ (r = some (.retAddr pc) ∧ st2 = .int 1 :: s ∧ σ2 = (σ.1, σ.2.1, σ.2.2.1, zlen1 σ.2.2.2.1 31 (σ.2.2.2.1 31 + 1), σ.2.2.2.2.1, σ.2.2.2.2.2 + 6))) := by
  unfold zaft at h
  rw [if_pos (show (zlco q pc).1 = 41 from rfl)] at h
  split at h
  · split at h
    · rename_i hc; cases h; exact ⟨_, _, rfl, Or.inl ⟨_, rfl, hc.1, hc.2, rfl, rfl⟩⟩
    · cases h
  · split at h
    · cases h
    · rename_i hc
      have hc := Decidable.not_not.mp hc
      cases h
      subst hc
      exact ⟨_, _, rfl, Or.inr ⟨rfl, rfl, rfl⟩⟩
  · cases h
