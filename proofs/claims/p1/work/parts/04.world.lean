/-! The heap that the small machine speaks of: its cells as a world of the kit. -/
def zft (c j : Nat) : FieldType := match c with
  | 0 => tyX0 j
  | 1 => tyX1 j
  | 2 => tyX2 j
  | 3 => tyX3 j
  | 4 => tyX4 j
  | 5 => tyX5 j
  | 6 => tyX6 j
  | 7 => tyX7 j
  | 8 => tyX8 j
  | 9 => tyX9 j
  | 10 => tyX10 j
  | 11 => tyX11 j
  | 12 => tyX12 j
  | 13 => tyX13 j
  | _ => tyX14 j
def zcod (t : FieldType) : Nat := match t with
  | .int => 0
  | .long => 1
  | .boolean => 3
  | .byte => 4
  | _ => 2
def zad (ad ro : Nat → Nat) (r : Nat) : Nat := if r % 32 = 22 then ro (r / 32) else ad (r / 32)
def zv (ad ro : Nat → Nat) (v : Value) : Value := match v with
  | .ref r => .ref (zad ad ro r)
  | v => v
def zpl (ad ro : Nat → Nat) (σ : zS) (c r j : Nat) : Value :=
  if zcod (zft c j) = 1 then .long (σ.2.1 r j) else if zcod (zft c j) = 2 then va_rf ((σ.2.2.1 r j).map (zad ad ro)) else .int (σ.1 r j)
def zfc (c : Nat) : Nat := match vwCl[c]? with
  | some q => q.2.2
  | none => 0
def zcell (cy : Nat → ClassId) (ad ro : Nat → Nat) (σ : zS) (kd r : Nat) : va_E :=
  if kd < 15 then .inr (kd, (List.range (zfc kd)).map (zpl ad ro σ kd r))
  else if kd = 17 then .inl (cy 2, σ.2.2.2.1 r, .inr (.inl (σ.2.1 r)))
  else if kd < 19 then .inl (cy (kd - 15), σ.2.2.2.1 r, .inl (σ.1 r))
  else .inl (cy (kd - 15), σ.2.2.2.1 r, .inr (.inr (.inr (.inr (fun j => (σ.2.2.1 r j).map (zad ad ro))))))
def zw (cy : Nat → ClassId) (ad ro : Nat → Nat) (σ : zS) (ks : List Nat) : va_W := ks.mapIdx (fun i kd => (ad i, zcell cy ad ro σ kd (32 * i + kd)))
def ztys (cy : Nat → ClassId) : List (ClassId × FieldType) := [(cy 0, .byte), (cy 1, .int), (cy 2, .long), (cy 3, .boolean), (cy 4, .object RX1), (cy 5, .object RX6), (cy 6, .object RX7)]
/-- a reference that there is -/
def zok (ks : List Nat) (r : Nat) : Prop := (r % 32 = 22 ∧ r / 32 < 2) ∨ ks[r / 32]? = some (r % 32)
def zvk (ks : List Nat) (v : Value) : Prop := match v with
  | .ref r => zok ks r
  | _ => True
def zlk (ks : List Nat) (ls : zL) : Prop := ∀ (i : Nat) (v : Value), ls[i]? = some (some v) → zvk ks v
def zsk (ks : List Nat) (st : List Value) : Prop := ∀ v ∈ st, zvk ks v
/-- what always holds of the stores -/
def zinv (σ : zS) (ks : List Nat) : Prop := ks.length = σ.2.2.2.2.1 ∧ (∀ kd ∈ ks, kd < 22) ∧ (∀ r, ks[r / 32]? = some (r % 32) → ∀ j x, σ.2.2.1 r j = some x → zok ks x) ∧ (∀ r, r % 32 = 15 → ∀ j, fits .byte (.int (σ.1 r j)) = true)
theorem zmd (i kd : Nat) (h : kd < 32) : (32 * i + kd) % 32 = kd := by omega
theorem zdv (i kd : Nat) (h : kd < 32) : (32 * i + kd) / 32 = i := by omega
theorem zrr (r : Nat) : 32 * (r / 32) + r % 32 = r := by omega
theorem zw_len {cy : Nat → ClassId} {ad ro : Nat → Nat} {σ : zS} {ks : List Nat} : (zw cy ad ro σ ks).length = ks.length := by simp [zw]
theorem zw_get {cy : Nat → ClassId} {ad ro : Nat → Nat} {σ : zS} {ks : List Nat} {i kd : Nat} (h : ks[i]? = some kd) : (zw cy ad ro σ ks)[i]? = some (ad i, zcell cy ad ro σ kd (32 * i + kd)) := by
  simp [zw, List.getElem?_mapIdx, h]
theorem zw_none {cy : Nat → ClassId} {ad ro : Nat → Nat} {σ : zS} {ks : List Nat} {i : Nat} (h : ks[i]? = none) : (zw cy ad ro σ ks)[i]? = none := by
  simp [zw, List.getElem?_mapIdx, h]
/-- a reference that is no read-only array is a cell of the world -/
theorem zok_in {ks : List Nat} {r : Nat} (h : zok ks r) (hk : ¬ r % 32 = 22) : ks[r / 32]? = some (r % 32) := h.elim (fun h => absurd h.1 hk) id
theorem zw_at {cy : Nat → ClassId} {ad ro : Nat → Nat} {σ : zS} {ks : List Nat} {r : Nat} (h : ks[r / 32]? = some (r % 32)) (hk : ¬ r % 32 = 22) : (zw cy ad ro σ ks)[r / 32]? = some (zad ad ro r, zcell cy ad ro σ (r % 32) r) := by
  rw [zw_get h, zrr, zad, if_neg hk]
theorem zcell_congr {cy : Nat → ClassId} {ad ro : Nat → Nat} {σ τ : zS} {kd r : Nat} (h1 : τ.1 r = σ.1 r) (h2 : τ.2.1 r = σ.2.1 r) (h3 : τ.2.2.1 r = σ.2.2.1 r) (h4 : τ.2.2.2.1 r = σ.2.2.2.1 r) : zcell cy ad ro τ kd r = zcell cy ad ro σ kd r := by
  have e : zpl ad ro τ kd r = zpl ad ro σ kd r := by
    funext j
    simp only [zpl, h1, h2, h3]
  simp only [zcell, e, h1, h2, h3, h4]
theorem zw_set {cy : Nat → ClassId} {ad ro : Nat → Nat} {σ τ : zS} {ks : List Nat} {r : Nat} {E : va_E} (hks : ∀ kd ∈ ks, kd < 22) (h : ks[r / 32]? = some (r % 32)) (hE : zcell cy ad ro τ (r % 32) r = E)
    (ho : ∀ x, x ≠ r → τ.1 x = σ.1 x ∧ τ.2.1 x = σ.2.1 x ∧ τ.2.2.1 x = σ.2.2.1 x ∧ τ.2.2.2.1 x = σ.2.2.2.1 x) : (zw cy ad ro σ ks).set (r / 32) (zad ad ro r, E) = zw cy ad ro τ ks := by
  have hk : ¬ r % 32 = 22 := fun e => by
    have := hks _ (List.mem_of_getElem? h)
    omega
  apply List.ext_getElem?
  intro i
  rw [List.getElem?_set]
  by_cases hi : r / 32 = i
  · subst hi
    have hlt : r / 32 < (zw cy ad ro σ ks).length := by
      rw [zw_len]
      exact (List.getElem?_eq_some_iff.mp h).1
    rw [if_pos rfl, if_pos hlt, zw_at h hk, hE]
  · rw [if_neg hi]
    cases hc : ks[i]? with
    | none => rw [zw_none hc, zw_none hc]
    | some kd =>
      have hkd := hks _ (List.mem_of_getElem? hc)
      rw [zw_get hc, zw_get hc]
      have hne : 32 * i + kd ≠ r := fun e => hi (by omega)
      obtain ⟨a1, a2, a3, a4⟩ := ho _ hne
      rw [zcell_congr (cy := cy) (ad := ad) (ro := ro) (kd := kd) a1 a2 a3 a4]
/-- other addresses behind the cells that there are don't matter -/
theorem zad_of {ks : List Nat} {ad ad' ro : Nat → Nat} (ha : ∀ i, i < ks.length → ad' i = ad i) {r : Nat} (h : zok ks r) : zad ad' ro r = zad ad ro r := by
  unfold zad
  by_cases hk : r % 32 = 22
  · rw [if_pos hk, if_pos hk]
  · rw [if_neg hk, if_neg hk]
    exact ha _ (List.getElem?_eq_some_iff.mp (zok_in h hk)).1
theorem zv_of {ks : List Nat} {ad ad' ro : Nat → Nat} (ha : ∀ i, i < ks.length → ad' i = ad i) {v : Value} (h : zvk ks v) : zv ad' ro v = zv ad ro v := by
  cases v <;> try rfl
  exact congrArg Value.ref (zad_of ha h)
theorem zvs_of {ks : List Nat} {ad ad' ro : Nat → Nat} (ha : ∀ i, i < ks.length → ad' i = ad i) {st : List Value} (h : zsk ks st) : st.map (zv ad' ro) = st.map (zv ad ro) := List.map_congr_left fun v hv => zv_of ha (h v hv)
theorem zw_of {cy : Nat → ClassId} {ks : List Nat} {ad ad' ro : Nat → Nat} {σ : zS} (hi : zinv σ ks) (ha : ∀ i, i < ks.length → ad' i = ad i) : zw cy ad' ro σ ks = zw cy ad ro σ ks := by
  apply List.ext_getElem?
  intro i
  cases hc : ks[i]? with
  | none => rw [zw_none hc, zw_none hc]
  | some kd =>
    have hkd := hi.2.1 _ (List.mem_of_getElem? hc)
    rw [zw_get hc, zw_get hc, ha i (List.getElem?_eq_some_iff.mp hc).1]
    have hr : ks[(32 * i + kd) / 32]? = some ((32 * i + kd) % 32) := by rw [zdv i kd (by omega), zmd i kd (by omega)]; exact hc
    have hp : ∀ j, (σ.2.2.1 (32 * i + kd) j).map (zad ad' ro) = (σ.2.2.1 (32 * i + kd) j).map (zad ad ro) := by
      intro j
      cases hx : σ.2.2.1 (32 * i + kd) j with
      | none => rfl
      | some x => exact congrArg some (zad_of ha (hi.2.2.1 _ hr j x hx))
    have e : zpl ad' ro σ kd (32 * i + kd) = zpl ad ro σ kd (32 * i + kd) := by
      funext j
      simp only [zpl, hp]
    simp only [zcell, e, hp]
theorem zok_app {ks : List Nat} {kd r : Nat} (h : zok ks r) : zok (ks ++ [kd]) r := by
  rcases h with h | h
  · exact Or.inl h
  · exact Or.inr (by rw [List.getElem?_append_left (List.getElem?_eq_some_iff.mp h).1]; exact h)
theorem zok_new {ks : List Nat} {kd n : Nat} (hn : ks.length = n) (hk : kd < 22) : zok (ks ++ [kd]) (32 * n + kd) := by
  refine Or.inr ?_
  rw [zdv n kd (by omega), zmd n kd (by omega), ← hn]
  simp
theorem zvk_app {ks : List Nat} {kd : Nat} {v : Value} (h : zvk ks v) : zvk (ks ++ [kd]) v := by
  cases v <;> try exact trivial
  exact zok_app h
theorem zsk_app {ks : List Nat} {kd : Nat} {st : List Value} (h : zsk ks st) : zsk (ks ++ [kd]) st := fun v hv => zvk_app (h v hv)
theorem zlk_app {ks : List Nat} {kd : Nat} {ls : zL} (h : zlk ks ls) : zlk (ks ++ [kd]) ls := fun i v hv => zvk_app (h i v hv)
/-- a new cell -/
def zadn (ad : Nat → Nat) (n q : Nat) : Nat → Nat := fun i => if i = n then q else ad i
theorem zadn_lt {ad : Nat → Nat} {ks : List Nat} {n q : Nat} (hn : ks.length = n) : ∀ i, i < ks.length → zadn ad n q i = ad i := fun i h => if_neg (by omega)
theorem zw_app {cy : Nat → ClassId} {ks : List Nat} {ad ro : Nat → Nat} {σ τ : zS} {kd q : Nat} {E : va_E} (hi : zinv σ ks) (hkd : kd < 22) (hE : zcell cy (zadn ad ks.length q) ro τ kd (32 * ks.length + kd) = E)
    (ho : ∀ x, x ≠ 32 * ks.length + kd → τ.1 x = σ.1 x ∧ τ.2.1 x = σ.2.1 x ∧ τ.2.2.1 x = σ.2.2.1 x ∧ τ.2.2.2.1 x = σ.2.2.2.1 x) : zw cy ad ro σ ks ++ [(q, E)] = zw cy (zadn ad ks.length q) ro τ (ks ++ [kd]) := by
  rw [← zw_of (ad' := zadn ad ks.length q) hi (zadn_lt rfl)]
  apply List.ext_getElem?
  intro i
  rcases Nat.lt_trichotomy i ks.length with h | h | h
  · rw [List.getElem?_append_left (by rw [zw_len]; exact h)]
    cases hc : ks[i]? with
    | none => exact absurd (List.getElem?_eq_none_iff.mp hc) (by omega)
    | some kd' =>
      have hkd' := hi.2.1 _ (List.mem_of_getElem? hc)
      rw [zw_get hc, zw_get (by rw [List.getElem?_append_left h]; exact hc)]
      obtain ⟨a1, a2, a3, a4⟩ := ho (32 * i + kd') (by omega)
      rw [zcell_congr (cy := cy) (ad := zadn ad ks.length q) (ro := ro) (kd := kd') a1 a2 a3 a4]
  · subst h
    rw [List.getElem?_append_right (by rw [zw_len]; exact Nat.le_refl _), zw_len, Nat.sub_self, zw_get (kd := kd) (by simp)]
    simp [hE, zadn]
  · rw [List.getElem?_eq_none_iff.mpr (by simp [zw_len]; omega), zw_none (List.getElem?_eq_none_iff.mpr (by simp; omega))]
