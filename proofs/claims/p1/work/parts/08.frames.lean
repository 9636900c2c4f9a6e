/-! A frame of a method: what holds of it, its locals, its ends. -/
def zlv (ad ro : Nat → Nat) (ls : zL) : List (Nat × Value) := (List.range ls.length).filterMap fun i => match ls[i]? with
  | some (some v) => some (i, zv ad ro v)
  | _ => none
theorem zlv_mem {ad ro : Nat → Nat} {ls : zL} {i : Nat} {w : Value} : (i, w) ∈ zlv ad ro ls ↔ ∃ v, ls[i]? = some (some v) ∧ w = zv ad ro v := by
  unfold zlv
  rw [List.mem_filterMap]
  constructor
  · rintro ⟨k, -, hk⟩
    split at hk
    · rename_i v hv
      cases hk
      exact ⟨v, hv, rfl⟩
    · cases hk
  · rintro ⟨v, hv, rfl⟩
    refine ⟨i, List.mem_range.mpr (List.getElem?_eq_some_iff.mp hv).1, ?_⟩
    simp only [hv]
def zlh (ad ro : Nat → Nat) (nL : Nat) (ls : zL) (lsA : Array Slot) : Prop := ls.length = nL ∧ lv_has lsA nL (zlv ad ro ls)
theorem zlh_at {ad ro : Nat → Nat} {nL i : Nat} {ls : zL} {lsA : Array Slot} {v : Value} (h : zlh ad ro nL ls lsA) (hv : ls[i]? = some (some v)) : lsA[i]? = some (.val (zv ad ro v)) := h.2.2.2 (i, zv ad ro v) (zlv_mem.mpr ⟨v, hv, rfl⟩)
theorem zv_cat (ad ro : Nat → Nat) (v : Value) : (zv ad ro v).category = v.category := by cases v <;> rfl
theorem zcat_map (ad ro : Nat → Nat) (st : List Value) : ((st.map (zv ad ro)).map fun v => v.category).sum = zcat st := by
  rw [List.map_map]
  unfold zcat
  congr 1
  exact List.map_congr_left fun v _ => zv_cat ad ro v
theorem zclr_get {ls : zL} {i j : Nat} {v : Value} (hj : (zclr ls i)[j]? = some (some v)) : ls[j]? = some (some v) ∧ ¬ (j + 1 = i ∧ v.category = 2) := by
  unfold zclr at hj
  split at hj
  · exact ⟨hj, fun h => by omega⟩
  · rename_i k
    split at hj
    · rename_i y hy
      rw [List.getElem?_set] at hj
      split at hj
      · split at hj <;> simp at hj
      · rename_i hne
        exact ⟨hj, fun h => hne (by omega)⟩
    · rename_i y hy
      rw [List.getElem?_set] at hj
      split at hj
      · split at hj <;> simp at hj
      · rename_i hne
        exact ⟨hj, fun h => hne (by omega)⟩
    · rename_i hn hn2
      refine ⟨hj, fun h => ?_⟩
      obtain ⟨h1, h2⟩ := h
      have : j = k := by omega
      subst this
      cases v <;> simp [Value.category] at h2
      · exact hn _ hj
      · exact hn2 _ hj
theorem zset1_get {ls : zL} {i j : Nat} {v w : Value} (hj : (zset1 ls i w)[j]? = some (some v)) : (j = i ∧ v = w) ∨ (j ≠ i ∧ ls[j]? = some (some v) ∧ ¬ (j + 1 = i ∧ v.category = 2)) := by
  unfold zset1 at hj
  rw [List.getElem?_set] at hj
  split at hj
  · rename_i e
    split at hj
    · cases hj
      exact Or.inl ⟨e.symm, rfl⟩
    · cases hj
  · rename_i hne
    obtain ⟨a, b⟩ := zclr_get hj
    exact Or.inr ⟨fun e => hne e.symm, a, b⟩
theorem zset2_get {ls : zL} {i j : Nat} {v w : Value} (hj : (zset2 ls i w)[j]? = some (some v)) : (j = i ∧ v = w) ∨ (j ≠ i ∧ j ≠ i + 1 ∧ ls[j]? = some (some v) ∧ ¬ (j + 1 = i ∧ v.category = 2)) := by
  unfold zset2 at hj
  rw [List.getElem?_set] at hj
  split at hj
  · split at hj <;> simp at hj
  · rename_i hne
    have h2 : (zset1 ls i w)[j]? = some (some v) := hj
    rcases zset1_get h2 with h | ⟨h, a, b⟩
    · exact Or.inl h
    · exact Or.inr ⟨h, fun e => hne e.symm, a, b⟩
theorem zclr_len {ls : zL} {i : Nat} : (zclr ls i).length = ls.length := by
  unfold zclr
  split
  · rfl
  · split <;> simp
theorem zset1_len {ls : zL} {i : Nat} {w : Value} : (zset1 ls i w).length = ls.length := by simp [zset1, zclr_len]
theorem zset2_len {ls : zL} {i : Nat} {w : Value} : (zset2 ls i w).length = ls.length := by simp [zset2, zclr_len]
theorem zlh_set1 {ad ro : Nat → Nat} {nL i : Nat} {ls : zL} {lsA lsB : Array Slot} {w : Value} (h : zlh ad ro nL ls lsA) (hB : lv_has lsB nL ((i, zv ad ro w) :: (zlv ad ro ls).filter (fun q => !(q.1 == i) && !(q.1 + 1 == i && q.2.category == 2)))) : zlh ad ro nL (zset1 ls i w) lsB := by
  refine ⟨by rw [zset1_len]; exact h.1, hB.1, hB.2.1, ?_⟩
  rintro ⟨j, u⟩ hq
  obtain ⟨v, hv, rfl⟩ := zlv_mem.mp hq
  rcases zset1_get hv with ⟨rfl, rfl⟩ | ⟨h1, h2, h3⟩
  · exact hB.2.2 _ List.mem_cons_self
  · refine hB.2.2 _ (List.mem_cons_of_mem _ (List.mem_filter.mpr ⟨zlv_mem.mpr ⟨v, h2, rfl⟩, ?_⟩))
    rw [zv_cat]
    simp only [Bool.and_eq_true, Bool.not_eq_true', beq_eq_false_iff_ne, ne_eq, Bool.and_eq_false_iff]
    exact ⟨h1, (Decidable.em (j + 1 = i)).elim (fun e => Or.inr (fun e2 => h3 ⟨e, e2⟩)) Or.inl⟩
theorem zlh_set2 {ad ro : Nat → Nat} {nL i : Nat} {ls : zL} {lsA lsB : Array Slot} {w : Value} (h : zlh ad ro nL ls lsA) (hB : lv_has lsB nL ((i, zv ad ro w) :: (zlv ad ro ls).filter (fun q => !(q.1 == i) && (!(q.1 == i + 1) && !(q.1 + 1 == i && q.2.category == 2))))) : zlh ad ro nL (zset2 ls i w) lsB := by
  refine ⟨by rw [zset2_len]; exact h.1, hB.1, hB.2.1, ?_⟩
  rintro ⟨j, u⟩ hq
  obtain ⟨v, hv, rfl⟩ := zlv_mem.mp hq
  rcases zset2_get hv with ⟨rfl, rfl⟩ | ⟨h1, h1', h2, h3⟩
  · exact hB.2.2 _ List.mem_cons_self
  · refine hB.2.2 _ (List.mem_cons_of_mem _ (List.mem_filter.mpr ⟨zlv_mem.mpr ⟨v, h2, rfl⟩, ?_⟩))
    rw [zv_cat]
    simp only [Bool.and_eq_true, Bool.not_eq_true', beq_eq_false_iff_ne, ne_eq, Bool.and_eq_false_iff]
    exact ⟨h1, h1', (Decidable.em (j + 1 = i)).elim (fun e => Or.inr (fun e2 => h3 ⟨e, e2⟩)) Or.inl⟩
theorem zlk_set1 {ks : List Nat} {ls : zL} {i : Nat} {w : Value} (h : zlk ks ls) (hw : zvk ks w) : zlk ks (zset1 ls i w) := by
  intro j v hv
  rcases zset1_get hv with ⟨-, rfl⟩ | ⟨-, h2, -⟩
  · exact hw
  · exact h j v h2
theorem zlk_set2 {ks : List Nat} {ls : zL} {i : Nat} {w : Value} (h : zlk ks ls) (hw : zvk ks w) : zlk ks (zset2 ls i w) := by
  intro j v hv
  rcases zset2_get hv with ⟨-, rfl⟩ | ⟨-, -, h2, -⟩
  · exact hw
  · exact h j v h2
theorem zlh_of {ks : List Nat} {ad ad' ro : Nat → Nat} {nL : Nat} {ls : zL} {lsA : Array Slot} (ha : ∀ i, i < ks.length → ad' i = ad i) (hk : zlk ks ls) (h : zlh ad ro nL ls lsA) : zlh ad' ro nL ls lsA := by
  refine ⟨h.1, h.2.1, h.2.2.1, ?_⟩
  rintro ⟨j, u⟩ hq
  obtain ⟨v, hv, rfl⟩ := zlv_mem.mp hq
  rw [zv_of ha (hk j v hv)]
  exact zlh_at h hv
theorem zsk_cons {ks : List Nat} {v : Value} {st : List Value} (hv : zvk ks v) (h : zsk ks st) : zsk ks (v :: st) := fun w hw => (List.mem_cons.mp hw).elim (fun e => e ▸ hv) (h w)
theorem zsk_tl {ks : List Nat} {v : Value} {st : List Value} (h : zsk ks (v :: st)) : zsk ks st := fun w hw => h w (List.mem_cons_of_mem _ hw)
theorem zsk_hd {ks : List Nat} {v : Value} {st : List Value} (h : zsk ks (v :: st)) : zvk ks v := h v List.mem_cons_self
theorem zvk_rf {ks : List Nat} {o : Option Nat} (h : ∀ x, o = some x → zok ks x) : zvk ks (va_rf o) := by
  cases o with
  | none => exact trivial
  | some x => exact h x rfl
theorem zv_rf (ad ro : Nat → Nat) (o : Option Nat) : zv ad ro (va_rf o) = va_rf (o.map (zad ad ro)) := by cases o <;> rfl
/-- what the law's frame knows beside: no stack traces, Throwable's statics -/
def zEX (l : Launch) (s : State) (A : Nat → Prop) : Prop := l.stackTraces = false ∧ vx_Zq Bundle.tN "UNASSIGNED_STACK" Bundle.steD A s s.heap ∧ vx_Zq Bundle.tN "SUPPRESSED_SENTINEL" Bundle.listD A s s.heap
/-- what holds of a method's frame from its entry on -/
def zCx (l : Launch) (q : Nat) (R : Room) (p : Program) (s : State) (m : MethodId) (args : Array Value) (meth : Method) (c : Code) (D : va_G) (cy : Nat → ClassId) (ro : Nat → Nat) (A : Nat → Prop) (xs : Nat → Nat → Int32) (Ls : Nat → Nat) : Prop :=
  p.tables.exec = Jvm.exec ∧ c.code = zby q ∧ c.maxLocals = zml q ∧ s.vm.findClass (zon (zow q)) = some m.cls ∧ (∀ w ∈ zTBL, w.before args s = true) ∧ (∀ w ∈ zNW, va_Nw w s) ∧ va_K D vwCl (ztys cy) s ∧ (∀ x, s.heap.size ≤ x → A x) ∧
  (∀ k, k < 2 → va_X (ro k) (Ls k) (xs k) s s.heap ∧ ro k < s.heap.size ∧ ¬ A (ro k)) ∧ va_Z RX0 "TAKES" "[I" (.ref (ro 1)) A s s.heap ∧ R.frames = zfr q ∧ R.locals = zlo q ∧ meth.name = (zy q).name ∧ (q = 328 → zEX l s A)
/-- what holds of the heap at each point -/
def zSt (s : State) (D : va_G) (cy : Nat → ClassId) (ad ro : Nat → Nat) (A : Nat → Prop) (xs : Nat → Nat → Int32) (Ls : Nat → Nat) (σ : zS) (ks : List Nat) (H : Heap) (locs : List Loc) : Prop :=
  va_P D vwCl (zw cy ad ro σ ks) H ∧ va_D A (zw cy ad ro σ ks) ∧ va_S A s.heap H locs ∧ zinv σ ks ∧ ∀ k, k < 2 → σ.1 (32 * k + 22) = xs k ∧ σ.2.2.2.1 (32 * k + 22) = Ls k
