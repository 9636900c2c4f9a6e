-- needs: 01 02.names 03 04 05 18 19 20 22 23 24 25 30 31 32 33 36 40 42 43 44 46 47 60 61 62 63 64 79f 79g 79h 79i 79j 79k 79l 79m 79n 79o 79p 79q 79r 79s 79t 79u 7a 7b
/-! what holds of the machine all along -/
def yvl (Kd : Nat → Nat) (M top v : Nat) : Prop := (v < M ∧ 7 ≤ Kd v) ∨ (200 ≤ v ∧ v < top)
def ywv (Kd l : Nat → Nat) (M top : Nat) : yV → Prop
  | (k, x, b, e, (K, F, C, T, Z, L, Y)) => k < 8 ∧ (k = 1 → K = 1 ∧ F 0 = 2) ∧ (k = 1 ∨ k = 4 → ywf (K, F, C, T, Z, L, Y)) ∧ (k = 5 → b < M ∧ e.length + 1 = l b) ∧ (k = 6 → b < M ∧ e.length = l b) ∧ (k = 7 → b < 32 ∧ x = (nI b).toInt64 ∧ e.length < yar b) ∧ (5 ≤ k → ∀ v, v ∈ e → yvl Kd M top v)
/-- the code: l counts the lambdas around a node -/
def yco (Kd Sc : Nat → Nat) (Nm : Nat → Int64) (l : Nat → Nat) (M : Nat) : Prop := M ≤ 200 ∧ ∀ n, n < M → Kd n < 12 ∧ l n ≤ 190 ∧ (Kd n = 0 → ∃ i, 1 ≤ i ∧ i ≤ l n ∧ Nm n = (nI i).toInt64) ∧ (Kd n = 1 → n + 1 < M ∧ l (n + 1) = l n + 1) ∧ (Kd n = 3 ∨ Kd n = 4 → n + 1 < M ∧ l (n + 1) = l n) ∧ (Kd n = 2 → n + 1 < M ∧ l (n + 1) = l n ∧ Sc n < M ∧ l (Sc n) = l n) ∧ (Kd n = 6 → ∃ i, i < 32 ∧ Nm n = (nI i).toInt64)
def yws (Kd l : Nat → Nat) (M top : Nat) : List (Nat × Nat × List Nat) → Prop
  | [] => True
  | (k, y, e) :: r => (k < 3 ∧ (k = 0 → y < M ∧ Kd y = 2 ∧ (∀ v, v ∈ e → yvl Kd M top v) ∧ e.length = l y) ∧ (k = 1 → yvl Kd M top y)) ∧ yws Kd l M top r
def ywm (Kd l : Nat → Nat) (M : Nat) : yM → Prop
  | (tab, top, m, x, e, st, S, W, a) => (200 ≤ top ∧ top ≤ 200 + W ∧ S ≤ 20000 ∧ W ≤ 3000 ∧ st.length ≤ 400 ∧ m < 3) ∧ (∀ v, yvl Kd M top v → ywv Kd l M top (tab v)) ∧ yws Kd l M top st ∧ (m = 0 → x < M ∧ (∀ v, v ∈ e → yvl Kd M top v) ∧ e.length = l x) ∧ (m = 1 ∨ m = 2 ∧ a = 0 → yvl Kd M top x)
section
variable {Kd Sc l : Nat → Nat} {Nm : Nat → Int64} {M top : Nat}
theorem yvl_m {top' v : Nat} (h : top ≤ top') (hv : yvl Kd M top v) : yvl Kd M top' v := by
  unfold yvl at hv ⊢
  omega
theorem ywv_m {top' : Nat} {w : yV} (h : top ≤ top') (hw : ywv Kd l M top w) : ywv Kd l M top' w := by
  obtain ⟨k, x, b, e, K, F, C, T, Z, L, Y⟩ := w
  obtain ⟨h1, h2, h3, h4, h5, h6, h7⟩ := hw
  exact ⟨h1, h2, h3, h4, h5, h6, fun hk v hv => yvl_m h (h7 hk v hv)⟩
theorem yws_m {top' : Nat} (h : top ≤ top') : ∀ st, yws Kd l M top st → yws Kd l M top' st := by
  intro st
  induction st with
  | nil => exact fun _ => trivial
  | cons f r ih =>
    obtain ⟨k, y, e⟩ := f
    rintro ⟨⟨h1, h2, h3⟩, h4⟩
    exact ⟨⟨h1, fun hk => ⟨(h2 hk).1, (h2 hk).2.1, fun v hv => yvl_m h ((h2 hk).2.2.1 v hv), (h2 hk).2.2.2⟩, fun hk => yvl_m h (h3 hk)⟩, ih h4⟩
theorem ywv_I {x : Int64} : ywv Kd l M top (yvI x) := ⟨by omega, fun h => by omega, fun h => by omega, fun h => by omega, fun h => by omega, fun h => by omega, fun h => by omega⟩
theorem ywv_T {p : Prop} : ywv Kd l M top (yvT p) := ⟨by omega, fun h => by omega, fun h => by omega, fun h => by omega, fun h => by omega, fun h => by omega, fun h => by omega⟩
theorem ywv_D {d : yD} (h : ywf d) : ywv Kd l M top (yvD d) := ⟨by omega, fun h => by omega, fun _ => h, fun h => by omega, fun h => by omega, fun h => by omega, fun h => by omega⟩
theorem ywv_B {n : Nat} {y : Nat → Int32} (hn : n ≤ 64) (hy : ∀ i, i < n → (y i).toInt8.toInt32 = y i) : ywv Kd l M top (yvB (ybyt n y)) := ⟨by omega, fun _ => ⟨rfl, rfl⟩, fun _ => ywf_byt hn hy, fun h => by omega, fun h => by omega, fun h => by omega, fun h => by omega⟩
theorem yin_w {op : Nat} {x y : Int64} {w : yV} (h : yin op x y = some w) : ywv Kd l M top w := by
  have key : ∀ (p : Prop) (a : Int64), yif p none (some (yvI a)) = some w → ywv Kd l M top w := fun p a e => by
    by_cases hp : p
    · rw [yif_t hp] at e; cases e
    · rw [yif_f hp] at e; cases e; exact ywv_I
  have key2 : ∀ (p : Prop) (a : Int64), yif p (some (yvI a)) none = some w → ywv Kd l M top w := fun p a e => by
    by_cases hp : p
    · rw [yif_t hp] at e; cases e; exact ywv_I
    · rw [yif_f hp] at e; cases e
  unfold yin at h
  split at h
  · exact key _ _ h
  · exact key _ _ h
  · exact key2 _ _ h
  · exact key _ _ h
  · exact key _ _ h
  · exact key _ _ h
  · exact key _ _ h
  · cases h; exact ywv_T
  · cases h; exact ywv_T
  · cases h; exact ywv_T
/-- bytes as a value -/
theorem ywf_b {K : Nat} {F C Z L : Nat → Nat} {T : Nat → Int64} {Y : Nat → Nat → Int32} (h : ywf (K, F, C, T, Z, L, Y)) (h2 : F 0 = 2) : C 0 ≤ 64 ∧ ∀ i, i < C 0 → (Y 0 i).toInt8.toInt32 = Y 0 i := by
  have h0 : 0 < K := by have := h.1.1; omega
  exact ⟨(h.1.2 0 h0).2.2.1.2.2.1 h2, h.2 0 h0 h2⟩
theorem yfr_le {x : Int64} {n : Nat} : yfr x n ≤ n := by
  unfold yfr
  split <;> omega
theorem ywv_f {f : Nat} {w : yV} (h : ywv Kd l M top w) (hf : yfm f w) : ywf w.2.2.2.2 ∧ w.2.2.2.2.2.1 0 = f := by
  obtain ⟨k, x, b, e, K, F, C, T, Z, L, Y⟩ := w
  exact ⟨h.2.2.1 (Or.inr hf.1), hf.2⟩
theorem ywv_d {w : yV} (h : ywv Kd l M top w) (hf : w.1 = 4) : ywf w.2.2.2.2 := by
  obtain ⟨k, x, b, e, K, F, C, T, Z, L, Y⟩ := w
  exact h.2.2.1 (Or.inr hf)
theorem ywv_b {w : yV} (h : ywv Kd l M top w) (hf : w.1 = 1) : w.2.2.2.2.2.2.1 0 ≤ 64 ∧ ∀ i, i < w.2.2.2.2.2.2.1 0 → (w.2.2.2.2.2.2.2.2.2.2 0 i).toInt8.toInt32 = w.2.2.2.2.2.2.2.2.2.2 0 i := by
  obtain ⟨k, x, b, e, K, F, C, T, Z, L, Y⟩ := w
  exact ywf_b (h.2.2.1 (Or.inl hf)) (h.2.1 hf).2
theorem ybt_w {op : Nat} {a b c w : yV} (ho : op = 10 ∨ op = 11 ∨ op = 12 ∨ op = 13 ∨ op = 14 ∨ op = 15) (ha : ywv Kd l M top a) (hb : ywv Kd l M top b) (hc : ywv Kd l M top c) (hf : yft op a b c) (h : ybt op a.2.1 b.2.1 a.2.2.2.2 b.2.2.2.2 c.2.2.2.2 = some w) : ywv Kd l M top w := by
  rcases ho with rfl | rfl | rfl | rfl | rfl | rfl
  · have a1 := ywv_b ha hf.1
    have b1 := ywv_b hb hf.2
    obtain ⟨k, x, bb, e, K, F, C, T, Z, L, Y⟩ := a
    obtain ⟨k', x', b', e', K', F', C', T', Z', L', Y'⟩ := b
    have h : yif (64 < C 0 + C' 0) none (some (yvB (ybyt (C 0 + C' 0) (fun i => if i < C 0 then Y 0 i else Y' 0 (i - C 0))))) = some w := h
    by_cases hp : 64 < C 0 + C' 0
    · rw [yif_t hp] at h; cases h
    · rw [yif_f hp] at h
      cases h
      refine ywv_B (by omega) (fun i hi => ?_)
      split
      · rename_i hl; exact a1.2 i hl
      · rename_i hl
        have hx : i - C 0 < C' 0 := by omega
        exact b1.2 (i - C 0) hx
  · obtain ⟨k, x, bb, e, K, F, C, T, Z, L, Y⟩ := a
    cases h
    exact ywv_I
  · obtain ⟨k, x, bb, e, K, F, C, T, Z, L, Y⟩ := a
    have h : yif _ none (some (yvI _)) = some w := h
    by_cases hp : b.2.1 < 0 ∨ (nI (C 0)).toInt64 ≤ b.2.1
    · rw [yif_t hp] at h; cases h
    · rw [yif_f hp] at h; cases h; exact ywv_I
  · have c1 := ywv_b hc hf.2.2
    obtain ⟨k, x, bb, e, K, F, C, T, Z, L, Y⟩ := c
    cases h
    have e1 := yfr_le (x := a.2.1) (n := C 0)
    have e2 := yfr_le (x := b.2.1) (n := C 0 - yfr a.2.1 (C 0))
    refine ywv_B (by have := c1.1; have : C 0 ≤ 64 := this; omega) (fun i hi => c1.2 _ ?_)
    show yfr a.2.1 (C 0) + i < C 0
    omega
  · obtain ⟨k, x, bb, e, K, F, C, T, Z, L, Y⟩ := a
    cases h
    exact ywv_T
  · obtain ⟨k, x, bb, e, K, F, C, T, Z, L, Y⟩ := a
    cases h
    exact ywv_T
theorem ydo_w {op : Nat} {a b c w : yV} (ho : 17 ≤ op ∧ op < 32) (ha : ywv Kd l M top a) (hb : ywv Kd l M top b) (hf : yft op a b c) (h : ydo op a.2.1 a.2.2.2.2 b.2.2.2.2 = some w) : ywv Kd l M top w := by
  have hs : op = 17 ∨ op = 18 ∨ op = 19 ∨ op = 20 ∨ op = 21 ∨ op = 22 ∨ op = 23 ∨ op = 24 ∨ op = 25 ∨ op = 26 ∨ op = 27 ∨ op = 28 ∨ op = 29 ∨ op = 30 ∨ op = 31 := by omega
  rcases hs with rfl | rfl | rfl | rfl | rfl | rfl | rfl | rfl | rfl | rfl | rfl | rfl | rfl | rfl | rfl
  · cases h; exact ywv_T
  · cases h; exact ywv_I
  · cases h; exact ywv_I
  · have q := ywv_f ha hf
    obtain ⟨k, x, bb, e, K, F, C, T, Z, L, Y⟩ := a
    cases h
    exact ywv_D (ywf_as q.1 (by have := q.2; have : F 0 = 6 := this; omega) (by omega) (by omega))
  · have q := ywv_f hb hf.2
    obtain ⟨k, x, bb, e, K, F, C, T, Z, L, Y⟩ := b
    have h : yif (a.2.1 < 0 ∨ 127 < a.2.1) none (some (yvD (yas 6 a.2.1 (K, F, C, T, Z, L, Y)))) = some w := h
    by_cases hp : a.2.1 < 0 ∨ 127 < a.2.1
    · rw [yif_t hp] at h; cases h
    · rw [yif_f hp] at h
      cases h
      exact ywv_D (ywf_as q.1 (by have := q.2; have : F 0 = 4 := this; omega) (by omega) (by omega))
  · cases h; exact ywv_D ywf_int
  · have q := ywv_b ha hf
    cases h
    exact ywv_D (ywf_byt q.1 q.2)
  · cases h; exact ywv_I
  · have q := ywv_f ha hf
    obtain ⟨k, x, bb, e, K, F, C, T, Z, L, Y⟩ := a
    cases h
    have r := ywf_b q.1 q.2
    exact ywv_B r.1 r.2
  · have q := ywv_f ha hf
    obtain ⟨k, x, bb, e, K, F, C, T, Z, L, Y⟩ := a
    have h : yif (C 0 = 0) none (some (yvD (ysub 1 (K, F, C, T, Z, L, Y)))) = some w := h
    by_cases hp : C 0 = 0
    · rw [yif_t hp] at h; cases h
    · rw [yif_f hp] at h
      cases h
      have k0 : 0 < K := by have := q.1.1.1; omega
      have : F 0 = 4 := q.2
      exact ywv_D (ywf_sub q.1 (zDt_1st q.1.1 k0 (by omega) (by omega)))
  · have q := ywv_f ha hf
    obtain ⟨k, x, bb, e, K, F, C, T, Z, L, Y⟩ := a
    have h : yif (C 0 = 0) none (some (yvD (yoth (K, F, C, T, Z, L, Y)))) = some w := h
    by_cases hp : C 0 = 0
    · rw [yif_t hp] at h; cases h
    · rw [yif_f hp] at h
      cases h
      exact ywv_D (ywf_oth q.1 q.2 hp).1
  · have q := ywv_d ha hf.1
    have q' := ywv_f hb hf.2
    obtain ⟨k, x, bb, e, K, F, C, T, Z, L, Y⟩ := a
    obtain ⟨k', x', b', e', K', F', C', T', Z', L', Y'⟩ := b
    have h : yif (200 < K + K' ∨ ydp (K, F, C, T, Z, L, Y)) none (some (yvD (ycon (K, F, C, T, Z, L, Y) (K', F', C', T', Z', L', Y')))) = some w := h
    by_cases hp : 200 < K + K' ∨ ydp (K, F, C, T, Z, L, Y)
    · rw [yif_t hp] at h; cases h
    · rw [yif_f hp] at h
      cases h
      refine ywv_D (ywf_con q q'.1 q'.2 (by omega) (fun j hj => ?_))
      exact Nat.lt_of_not_le fun x => hp (Or.inr ⟨j, hj, x⟩)
  · cases h; exact ywv_T
  · have q := ywv_f ha hf
    obtain ⟨k, x, bb, e, K, F, C, T, Z, L, Y⟩ := a
    have h : yif (¬ C 0 % 2 = 0) none (some (yvD (yas 5 0 (K, F, C, T, Z, L, Y)))) = some w := h
    by_cases hp : ¬ C 0 % 2 = 0
    · rw [yif_t hp] at h; cases h
    · rw [yif_f hp] at h
      cases h
      exact ywv_D (ywf_as q.1 (by have := q.2; have : F 0 = 4 := this; omega) (by omega) (fun _ => Classical.not_not.1 hp))
  · have q := ywv_f ha hf
    obtain ⟨k, x, bb, e, K, F, C, T, Z, L, Y⟩ := a
    cases h
    exact ywv_D (ywf_as q.1 (by have := q.2; have : F 0 = 5 := this; omega) (by omega) (by omega))
theorem yrs_w {op : Nat} {a b c w : yV} (ho : op < 32) (h16 : op ≠ 16) (ha : ywv Kd l M top a) (hb : ywv Kd l M top b) (hc : ywv Kd l M top c) (hf : yft op a b c) (h : yrs op a b c = some w) : ywv Kd l M top w := by
  unfold yrs at h
  split at h
  · exact yin_w h
  · split at h
    · exact ybt_w (by omega) ha hb hc hf h
    · exact ydo_w (by omega) ha hb hf h
theorem ywm_o {tab : Nat → yV} {x S W a : Nat} (h1 : 200 ≤ top ∧ top ≤ 200 + W ∧ S ≤ 20000 ∧ W ≤ 3000) (h2 : ∀ v, yvl Kd M top v → ywv Kd l M top (tab v)) (h3 : a = 0 → yvl Kd M top x) : ywm Kd l M (yov tab top x S W a) := ⟨⟨by omega, by omega, by omega, by omega, by show 0 ≤ 400; omega, by omega⟩, h2, trivial, fun h => by omega, fun h => h3 (by omega)⟩
theorem yup_v {tab : Nat → yV} {w : yV} (hM : M ≤ 200) (ht : 200 ≤ top) (h2 : ∀ v, yvl Kd M top v → ywv Kd l M top (tab v)) (hw : ywv Kd l M (top + 1) w) : ∀ v, yvl Kd M (top + 1) v → ywv Kd l M (top + 1) (yup tab top w v) := by
  intro v hv
  unfold yup
  split
  · exact hw
  · exact ywv_m (Nat.le_succ _) (h2 v (by unfold yvl at hv ⊢; omega))
theorem ywm_n {tab : Nat → yV} {st : List (Nat × Nat × List Nat)} {S W c : Nat} {w : yV} (hM : M ≤ 200) (h1 : 200 ≤ top ∧ top ≤ 200 + W ∧ S ≤ 20000 ∧ W ≤ 3000 ∧ st.length ≤ 400) (hc : 1 ≤ c) (h2 : ∀ v, yvl Kd M top v → ywv Kd l M top (tab v)) (h3 : yws Kd l M top st) (hw : ywv Kd l M (top + 1) w) : ywm Kd l M (ynw tab top st S W w c) := by
  unfold ynw
  split
  · exact ywm_o (by omega) h2 (fun h => by omega)
  · exact ⟨⟨by omega, by omega, by omega, by omega, by omega, by omega⟩, yup_v hM h1.1 h2 hw, yws_m (Nat.le_succ _) _ h3, fun h => by omega, fun _ => Or.inr ⟨by omega, by omega⟩⟩
theorem ysz_p {w : yV} (h : ywv Kd l M top w) : 1 ≤ ysz w := by
  obtain ⟨k, x, b, e, K, F, C, T, Z, L, Y⟩ := w
  show 1 ≤ if k = 1 then 1 + C 0 / 8 else if k = 4 then K + ysm F C K / 8 else 1
  split
  · omega
  · split
    · rename_i h4
      have := (h.2.2.1 (Or.inr h4)).1.1
      omega
    · omega
theorem yga_v {e : List Nat} {v : Nat} (h1 : ∀ u, u ∈ e → yvl Kd M top u) (h2 : yvl Kd M top v) : yvl Kd M top (yga e v).1 ∧ yvl Kd M top (yga e v).2.1 ∧ yvl Kd M top (yga e v).2.2 := by
  match e, h1 with
  | [], _ => exact ⟨h2, h2, h2⟩
  | [a], h1 => exact ⟨h1 a (List.mem_cons_self ..), h2, h2⟩
  | b :: a :: r, h1 => exact ⟨h1 a (List.mem_cons_of_mem _ (List.mem_cons_self ..)), h1 b (List.mem_cons_self ..), h2⟩
theorem ywm_f {tab : Nat → yV} {st : List (Nat × Nat × List Nat)} {S W op : Nat} {g : Nat × Nat × Nat} (hM : M ≤ 200) (h1 : 200 ≤ top ∧ top ≤ 200 + W ∧ S ≤ 20000 ∧ W ≤ 3000 ∧ st.length ≤ 400) (h2 : ∀ v, yvl Kd M top v → ywv Kd l M top (tab v)) (h3 : yws Kd l M top st) (ho : op < 32) (hg : yvl Kd M top g.1 ∧ yvl Kd M top g.2.1 ∧ yvl Kd M top g.2.2) : ywm Kd l M (yfn tab top st S W op g) := by
  unfold yfn
  by_cases hf : yft op (tab g.1) (tab g.2.1) (tab g.2.2)
  · rw [yif_f (fun x => x hf)]
    by_cases h16 : op = 16
    · rw [if_pos h16]
      have hi : yvl Kd M top (yif ((tab g.1).2.1 = 1) g.2.1 g.2.2) := by
        by_cases hp : (tab g.1).2.1 = 1
        · rw [yif_t hp]; exact hg.2.1
        · rw [yif_f hp]; exact hg.2.2
      generalize yif ((tab g.1).2.1 = 1) g.2.1 g.2.2 = i at hi
      show ywm Kd l M (if 3000 < W + ysz (tab i) then _ else _)
      split
      · exact ywm_o (by omega) h2 (fun h => by omega)
      · exact ⟨⟨by omega, by omega, by omega, by omega, by omega, by omega⟩, h2, h3, fun h => by omega, fun _ => hi⟩
    · rw [if_neg h16]
      cases hr : yrs op (tab g.1) (tab g.2.1) (tab g.2.2) with
      | none => exact ywm_o (by omega) h2 (fun h => by omega)
      | some w =>
        have hw := yrs_w ho h16 (h2 _ hg.1) (h2 _ hg.2.1) (h2 _ hg.2.2) hf hr
        exact ywm_n hM h1 (ysz_p hw) h2 h3 (ywv_m (Nat.le_succ _) hw)
  · rw [yif_t hf]
    exact ywm_o (by omega) h2 (fun h => by omega)
theorem ywm_a {tab : Nat → yV} {st : List (Nat × Nat × List Nat)} {S W f v : Nat} (hM : M ≤ 200) (h1 : 200 ≤ top ∧ top ≤ 200 + W ∧ S ≤ 20000 ∧ W ≤ 3000 ∧ st.length ≤ 400) (h2 : ∀ v, yvl Kd M top v → ywv Kd l M top (tab v)) (h3 : yws Kd l M top st) (hf : yvl Kd M top f) (hv : yvl Kd M top v) : ywm Kd l M (yap tab top st S W f v) := by
  have w := h2 f hf
  unfold yap
  generalize tab f = u at w
  obtain ⟨k, x, b, e, K, F, C, T, Z, L, Y⟩ := u
  obtain ⟨w1, w2, w3, w4, w5, w6, w7⟩ := w
  have cons : 5 ≤ k → ∀ u, u ∈ v :: e → yvl Kd M top u := fun hk u hu => by
    rcases List.mem_cons.1 hu with rfl | h
    · exact hv
    · exact w7 hk u h
  show ywm Kd l M (if k = 5 then _ else _)
  split
  · rename_i k5
    split
    · exact ywm_o (by omega) h2 (fun h => by omega)
    · exact ⟨⟨by omega, by omega, by omega, by omega, by omega, by omega⟩, h2, h3, fun _ => ⟨(w4 k5).1, cons (by omega), (w4 k5).2⟩, fun h => by omega⟩
  · split
    · rename_i k7
      obtain ⟨o1, o2, o3⟩ := w6 k7
      split
      · rename_i hl
        refine ywm_n hM h1 (by omega) h2 h3 ⟨by omega, fun h => by omega, fun h => by omega, fun h => by omega, fun h => by omega, fun _ => ⟨o1, rfl, hl⟩, fun _ u hu => yvl_m (Nat.le_succ _) (cons (by omega) u hu)⟩
      · split
        · exact ywm_o (by omega) h2 (fun h => by omega)
        · exact ywm_f hM (by omega) h2 h3 o1 (yga_v (w7 (by omega)) hv)
    · exact ywm_o (by omega) h2 (fun h => by omega)
theorem nI_i64 {i : Nat} (h : i < 2 ^ 31) : (nI i).toInt64.toInt.toNat = i := by
  rw [Int32.toInt_toInt64, nI_toInt h]
  omega
theorem ywm_e {tab : Nat → yV} {e : List Nat} {st : List (Nat × Nat × List Nat)} {S W x : Nat} (hc : yco Kd Sc Nm l M) (h1 : 200 ≤ top ∧ top ≤ 200 + W ∧ S ≤ 20000 ∧ W ≤ 3000 ∧ st.length ≤ 400) (h2 : ∀ v, yvl Kd M top v → ywv Kd l M top (tab v)) (h3 : yws Kd l M top st) (hx : x < M) (he : ∀ v, v ∈ e → yvl Kd M top v) (hl : e.length = l x) : ywm Kd l M (yev Kd Nm tab top x e st S W) := by
  obtain ⟨hM, hc⟩ := hc
  obtain ⟨c1, c2, c3, c4, c5, c6, c7⟩ := hc x hx
  unfold yev
  split
  · exact ywm_o (by omega) h2 (fun h => by omega)
  · split
    · rename_i hk
      obtain ⟨i, i1, i2, i3⟩ := c3 hk
      refine ⟨⟨by omega, by omega, by omega, by omega, by omega, by omega⟩, h2, h3, fun h => by omega, fun _ => ?_⟩
      rw [i3, nI_i64 (by omega), List.getD_eq_getElem?_getD, List.getElem?_eq_getElem (by omega)]
      exact he _ (List.getElem_mem _)
    · rename_i hk
      exact ywm_n hM (by omega) (by omega) h2 h3 ⟨by omega, fun h => by omega, fun h => by omega, fun _ => ⟨(c4 hk).1, by rw [(c4 hk).2, hl]⟩, fun h => by omega, fun h => by omega, fun _ u hu => yvl_m (Nat.le_succ _) (he u hu)⟩
    · rename_i hk
      split
      · exact ywm_o (by omega) h2 (fun h => by omega)
      · obtain ⟨d1, d2, d3, d4⟩ := c6 hk
        exact ⟨⟨by omega, by omega, by omega, by omega, by show st.length + 1 ≤ 400; omega, by omega⟩, h2, ⟨⟨by omega, fun _ => ⟨hx, hk, he, hl⟩, fun h => by omega⟩, h3⟩, fun _ => ⟨d1, he, by rw [d2, hl]⟩, fun h => by omega⟩
    · rename_i hk
      obtain ⟨d1, d2⟩ := c5 (Or.inl hk)
      exact ywm_n hM (by omega) (by omega) h2 h3 ⟨by omega, fun h => by omega, fun h => by omega, fun h => by omega, fun _ => ⟨d1, by rw [d2, hl]⟩, fun h => by omega, fun _ u hu => yvl_m (Nat.le_succ _) (he u hu)⟩
    · rename_i hk
      split
      · exact ywm_o (by omega) h2 (fun h => by omega)
      · obtain ⟨d1, d2⟩ := c5 (Or.inr hk)
        exact ⟨⟨by omega, by omega, by omega, by omega, by show st.length + 1 ≤ 400; omega, by omega⟩, h2, ⟨⟨by omega, fun h => by omega, fun h => by omega⟩, h3⟩, fun _ => ⟨d1, he, by rw [d2, hl]⟩, fun h => by omega⟩
    · exact ywm_o (by omega) h2 (fun h => by omega)
    · rename_i hk
      obtain ⟨i, i1, i2⟩ := c7 hk
      refine ywm_n hM (by omega) (by omega) h2 h3 ?_
      rw [i2, nI_i64 (by omega)]
      refine ⟨by omega, fun h => by omega, fun h => by omega, fun h => by omega, fun h => by omega, fun _ => ⟨i1, rfl, ?_⟩, fun _ u hu => by cases hu⟩
      show 0 < yar i
      unfold yar
      split
      · omega
      · split <;> omega
    · rename_i q0 q1 q2 q3 q4 q5 q6
      have q0 : ¬ Kd x = 0 := q0
      have q1 : ¬ Kd x = 1 := q1
      have q2 : ¬ Kd x = 2 := q2
      have q3 : ¬ Kd x = 3 := q3
      have q4 : ¬ Kd x = 4 := q4
      have q5 : ¬ Kd x = 5 := q5
      have q6 : ¬ Kd x = 6 := q6
      exact ⟨⟨by omega, by omega, by omega, by omega, by omega, by omega⟩, h2, h3, fun h => by omega, fun _ => Or.inl ⟨hx, by omega⟩⟩
theorem ywm_s {s : yM} (hc : yco Kd Sc Nm l M) (h : ywm Kd l M s) : ywm Kd l M (yst Kd Sc Nm s) := by
  obtain ⟨tab, top, m, x, e, st, S, W, a⟩ := s
  obtain ⟨h1, h2, h3, h4, h5⟩ := h
  unfold yst
  dsimp only
  split
  · obtain ⟨a1, a2, a3⟩ := h4 rfl
    exact ywm_e hc (by omega) h2 h3 a1 a2 a3
  · have hx := h5 (Or.inl rfl)
    unfold ygv
    split
    · exact ywm_o (by omega) h2 (fun _ => hx)
    · rename_i k y e' r
      obtain ⟨⟨b1, b2, b3⟩, b4⟩ := h3
      have hl : r.length + 1 ≤ 400 := by have := h1.2.2.2.2.1; exact this
      split
      · obtain ⟨d1, d2, d3, d4⟩ := b2 rfl
        obtain ⟨f1, f2, f3, f4⟩ := (hc.2 y d1).2.2.2.2.2.1 d2
        exact ⟨⟨by omega, by omega, by omega, by omega, hl, by omega⟩, h2, ⟨⟨by omega, fun h => by omega, fun _ => hx⟩, b4⟩, fun _ => ⟨f3, d3, by rw [d4, f4]⟩, fun h => by omega⟩
      · exact ywm_a hc.1 (by omega) h2 b4 (b3 rfl) hx
      · split
        · rename_i h6
          have w := h2 x hx
          generalize tab x = u at w h6
          obtain ⟨k, x, b, e, K, F, C, T, Z, L, Y⟩ := u
          exact ⟨⟨by omega, by omega, by omega, by omega, by omega, by omega⟩, h2, b4, fun _ => ⟨(w.2.2.2.2.1 h6).1, w.2.2.2.2.2.2 (by have : k = 6 := h6; omega), (w.2.2.2.2.1 h6).2⟩, fun h => by omega⟩
        · exact ywm_o (by omega) h2 (fun h => by omega)
  · exact ⟨h1, h2, h3, h4, h5⟩
theorem ywm_i {s : yM} (hc : yco Kd Sc Nm l M) (h : ywm Kd l M s) : ∀ k, ywm Kd l M (yit Kd Sc Nm s k) := by
  intro k
  induction k with
  | zero => exact h
  | succ k ih => exact ywm_s hc ih
end
