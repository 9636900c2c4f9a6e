-- needs: 01 02.names 03 04 05 18 19 20 22 23 24 25 30 31 32 33 36 40 42 43 44 46 47 60 61 62 63 64 79f 79g 79h 79i 79j 79k 79l 79m 79n 79o 79p 79q 79r 79s 79t 79u 7a
/-! DATA of a row of DATA; rows of nodes, wherever they lie -/
/-- rows of nodes at b: E tells what lies at a place -/
def yEt (E : Nat → Nat → Nat → Int64 → Nat → (Nat → Int32) → Prop) (b : Nat) : yD → Prop
  | (K, F, C, T, Z, L, Y) => ∀ j, j < K → E (b + j) (F j) (C j) (T j) (Z j) (Y j)
def yls : List yD → yD
  | [] => yemp
  | d :: r => ycon d (yls r)
/-- all nodes of a row -/
def yll : List yD → Nat
  | [] => 0
  | d :: r => d.1 + yll r
def yEl (E : Nat → Nat → Nat → Int64 → Nat → (Nat → Int32) → Prop) : Nat → List yD → Prop
  | _, [] => True
  | b, d :: r => yEt E b d ∧ yEl E (b + d.1) r
/-- levels up to m -/
def ylv (m : Nat) : yD → Prop
  | (K, _, _, _, _, L, _) => ∀ j, j < K → L j ≤ m
theorem yls_0 : ∀ ds, (yls ds).1 = 1 + yll ds ∧ (yls ds).2.1 0 = 4 ∧ (yls ds).2.2.1 0 = ds.length ∧ (yls ds).2.2.2.1 0 = 0 ∧ (yls ds).2.2.2.2.1 0 = 1 + yll ds ∧ (yls ds).2.2.2.2.2.1 0 = 1 := by
  intro ds
  induction ds with
  | nil => exact ⟨rfl, rfl, rfl, rfl, rfl, rfl⟩
  | cons d r ih =>
    obtain ⟨K, F, C, T, Z, L, Y⟩ := d
    have e : yls ((K, F, C, T, Z, L, Y) :: r) = ycon (K, F, C, T, Z, L, Y) (yls r) := rfl
    rw [e]
    generalize yls r = l at ih
    obtain ⟨K', F', C', T', Z', L', Y'⟩ := l
    obtain ⟨i1, i2, i3, i4, i5, i6⟩ := ih
    have i1 : K' = 1 + yll r := i1
    have i3 : C' 0 = r.length := i3
    have ee : yll ((K, F, C, T, Z, L, Y) :: r) = K + yll r := rfl
    rw [ee]
    exact ⟨by show K + K' = _; omega, rfl, by show C' 0 + 1 = r.length + 1; omega, rfl, by show K + K' = 1 + (K + yll r); omega, rfl⟩
section
variable {E : Nat → Nat → Nat → Int64 → Nat → (Nat → Int32) → Prop} {b : Nat}
theorem yls_e : ∀ ds b, yEl E b ds → ∀ j, 1 ≤ j → j < (yls ds).1 → E (b + j - 1) ((yls ds).2.1 j) ((yls ds).2.2.1 j) ((yls ds).2.2.2.1 j) ((yls ds).2.2.2.2.1 j) ((yls ds).2.2.2.2.2.2 j) := by
  intro ds
  induction ds with
  | nil => intro b _ j h1 h2; have h2 : j < 1 := h2; omega
  | cons d r ih =>
    intro b h j h1 h2
    obtain ⟨K, F, C, T, Z, L, Y⟩ := d
    obtain ⟨hd, hr⟩ := h
    have ih := ih _ hr
    have h2 : j < (ycon (K, F, C, T, Z, L, Y) (yls r)).1 := h2
    show E (b + j - 1) ((ycon (K, F, C, T, Z, L, Y) (yls r)).2.1 j) ((ycon (K, F, C, T, Z, L, Y) (yls r)).2.2.1 j) ((ycon (K, F, C, T, Z, L, Y) (yls r)).2.2.2.1 j) ((ycon (K, F, C, T, Z, L, Y) (yls r)).2.2.2.2.1 j) ((ycon (K, F, C, T, Z, L, Y) (yls r)).2.2.2.2.2.2 j)
    generalize yls r = l at ih h2
    obtain ⟨K', F', C', T', Z', L', Y'⟩ := l
    have h2 : j < K + K' := h2
    show E (b + j - 1) (yhd 4 (ytw K F F') j) (yhd (C' 0 + 1) (ytw K C C') j) (yhd 0 (ytw K T T') j) (yhd (K + K') (ytw K Z Z') j) (ytw K Y Y' j)
    rw [yhd_s (by omega), yhd_s (by omega), yhd_s (by omega), yhd_s (by omega)]
    by_cases hj : j ≤ K
    · rw [ytw_a hj, ytw_a hj, ytw_a hj, ytw_a hj, ytw_a hj, show b + j - 1 = b + (j - 1) by omega]
      exact hd (j - 1) (by omega)
    · have hj : K < j := by omega
      rw [ytw_b hj, ytw_b hj, ytw_b hj, ytw_b hj, ytw_b hj]
      have := ih (j - K) (by omega) (show j - K < K' by omega)
      rw [show b + K + (j - K) - 1 = b + j - 1 by omega] at this
      exact this
theorem yls_at {ds : List yD} (h0 : ∀ y, E b 4 ds.length 0 (1 + yll ds) y) (h : yEl E (b + 1) ds) : yEt E b (yls ds) := by
  have e := yls_e ds (b + 1) h
  have z := yls_0 ds
  generalize yls ds = d at e z
  obtain ⟨K, F, C, T, Z, L, Y⟩ := d
  obtain ⟨z1, z2, z3, z4, z5, z6⟩ := z
  intro j hj
  by_cases h : j = 0
  · subst h
    have z2 : F 0 = 4 := z2
    have z3 : C 0 = ds.length := z3
    have z4 : T 0 = 0 := z4
    have z5 : Z 0 = 1 + yll ds := z5
    rw [z2, z3, z4, z5, Nat.add_zero]
    exact h0 _
  · have := e j (by omega) hj
    rw [show b + 1 + j - 1 = b + j by omega] at this
    exact this
theorem yas_at {ds : List yD} {f : Nat} {t : Int64} (h0 : ∀ y, E b f ds.length t (1 + yll ds) y) (h : yEl E (b + 1) ds) : yEt E b (yas f t (yls ds)) := by
  have e := yls_e ds (b + 1) h
  have z := yls_0 ds
  generalize yls ds = d at e z
  obtain ⟨K, F, C, T, Z, L, Y⟩ := d
  obtain ⟨z1, z2, z3, z4, z5, z6⟩ := z
  intro j hj
  by_cases h : j = 0
  · subst h
    have z3 : C 0 = ds.length := z3
    have z5 : Z 0 = 1 + yll ds := z5
    show E (b + 0) (yhd f F 0) (C 0) (yhd t T 0) (Z 0) (Y 0)
    rw [yhd_0, yhd_0, z3, z5, Nat.add_zero]
    exact h0 _
  · have := e j (by omega) hj
    rw [show b + 1 + j - 1 = b + j by omega] at this
    show E (b + j) (yhd f F j) (C j) (yhd t T j) (Z j) (Y j)
    rw [yhd_s h, yhd_s h]
    exact this
theorem yEl_a : ∀ (ds es : List yD) b, yEl E b ds → yEl E (b + yll ds) es → yEl E b (ds ++ es) := by
  intro ds
  induction ds with
  | nil => intro es b _ h; exact h
  | cons d r ih =>
    intro es b h1 h2
    refine ⟨h1.1, ih es _ h1.2 ?_⟩
    rw [show b + d.1 + yll r = b + yll (d :: r) by show _ = b + (d.1 + yll r); omega]
    exact h2
theorem yEt_m {E' : Nat → Nat → Nat → Int64 → Nat → (Nat → Int32) → Prop} {d : yD} (h : ∀ p f c t z y, b ≤ p → p < b + d.1 → E p f c t z y → E' p f c t z y) (he : yEt E b d) : yEt E' b d := by
  obtain ⟨K, F, C, T, Z, L, Y⟩ := d
  exact fun j hj => h _ _ _ _ _ _ (by omega) (show b + j < b + K by omega) (he j hj)
theorem yEl_m {E' : Nat → Nat → Nat → Int64 → Nat → (Nat → Int32) → Prop} : ∀ (ds : List yD) b, (∀ p f c t z y, b ≤ p → p < b + yll ds → E p f c t z y → E' p f c t z y) → yEl E b ds → yEl E' b ds := by
  intro ds
  induction ds with
  | nil => intro b _ _; trivial
  | cons d r ih =>
    intro b h he
    have e : yll (d :: r) = d.1 + yll r := rfl
    exact ⟨yEt_m (fun p f c t z y h1 h2 => h p f c t z y h1 (by omega)) he.1, ih _ (fun p f c t z y h1 h2 => h p f c t z y (by omega) (by omega)) he.2⟩
end
theorem yll_a : ∀ (ds es : List yD), yll (ds ++ es) = yll ds + yll es := by
  intro ds
  induction ds with
  | nil => intro es; show yll es = 0 + yll es; omega
  | cons d r ih => intro es; show d.1 + yll (r ++ es) = d.1 + yll r + yll es; rw [ih]; omega
/-- a row of DATA that are alike -/
theorem yll_r {f : Nat → yD} {c : Nat} : ∀ w, (∀ i, i < w → (f i).1 = c) → yll ((List.range w).map f) = c * w := by
  intro w
  induction w with
  | zero => intro _; rfl
  | succ w ih =>
    intro h
    rw [List.range_succ, List.map_append, yll_a, ih (fun i hi => h i (by omega))]
    show c * w + ((f w).1 + 0) = c * (w + 1)
    rw [h w (by omega), Nat.mul_succ]
    omega
theorem yEl_r {E : Nat → Nat → Nat → Int64 → Nat → (Nat → Int32) → Prop} {f : Nat → yD} {c b : Nat} : ∀ w, (∀ i, i < w → (f i).1 = c ∧ yEt E (b + c * i) (f i)) → yEl E b ((List.range w).map f) := by
  intro w
  induction w with
  | zero => intro _; trivial
  | succ w ih =>
    intro h
    rw [List.range_succ, List.map_append]
    refine yEl_a _ _ _ (ih (fun i hi => h i (by omega))) ?_
    rw [yll_r w (fun i hi => (h i (by omega)).1)]
    exact ⟨(h w (by omega)).2, trivial⟩
theorem ylv_c {m : Nat} {d l : yD} (h : ylv m d) (h' : ylv (m + 1) l) : ylv (m + 1) (ycon d l) := by
  obtain ⟨K, F, C, T, Z, L, Y⟩ := d
  obtain ⟨K', F', C', T', Z', L', Y'⟩ := l
  intro j hj
  have hj : j < K + K' := hj
  show yhd 1 (ytw K (fun j => L j + 1) L') j ≤ m + 1
  by_cases h0 : j = 0
  · rw [h0, yhd_0]; omega
  · rw [yhd_s h0]
    by_cases hk : j ≤ K
    · rw [ytw_a hk]
      have := h (j - 1) (by omega)
      show L (j - 1) + 1 ≤ m + 1
      omega
    · rw [ytw_b (by omega)]
      exact h' (j - K) (by omega)
theorem ylv_s {m : Nat} : ∀ ds, (∀ d, d ∈ ds → ylv m d) → ylv (m + 1) (yls ds) := by
  intro ds
  induction ds with
  | nil => intro _ j hj; show 1 ≤ m + 1; omega
  | cons d r ih => intro h; exact ylv_c (h d (List.mem_cons_self ..)) (ih (fun e he => h e (List.mem_cons_of_mem _ he)))
theorem ywf_ls {m : Nat} (hm : m < 12) : ∀ ds, (∀ d, d ∈ ds → ywf d ∧ ylv m d) → 1 + yll ds ≤ 200 → ywf (yls ds) := by
  intro ds
  induction ds with
  | nil => intro _ _; exact ywf_emp
  | cons d r ih =>
    intro h hn
    have e : yll (d :: r) = d.1 + yll r := rfl
    have hr := ih (fun e he => h e (List.mem_cons_of_mem _ he)) (by omega)
    have hd := h d (List.mem_cons_self ..)
    have z := yls_0 r
    show ywf (ycon d (yls r))
    generalize yls r = l at hr z
    obtain ⟨K, F, C, T, Z, L, Y⟩ := d
    obtain ⟨K', F', C', T', Z', L', Y'⟩ := l
    have z1 : K' = 1 + yll r := z.1
    have e : yll ((K, F, C, T, Z, L, Y) :: r) = K + yll r := rfl
    exact ywf_con hd.1 hr z.2.1 (by omega) (fun j hj => by have := hd.2 j hj; omega)
theorem ylv_as {m f : Nat} {t : Int64} {d : yD} (h : ylv m d) : ylv m (yas f t d) := by
  obtain ⟨K, F, C, T, Z, L, Y⟩ := d
  exact h
theorem ywf_als {m : Nat} {t : Int64} (hm : m < 12) (ds : List yD) (h : ∀ d, d ∈ ds → ywf d ∧ ylv m d) (hn : 1 + yll ds ≤ 200) : ywf (yas 6 t (yls ds)) := by
  have w := ywf_ls hm ds h hn
  have z := yls_0 ds
  generalize yls ds = d at w z
  obtain ⟨K, F, C, T, Z, L, Y⟩ := d
  have z2 : F 0 = 4 := z.2.1
  exact ywf_as w (by omega) (by omega) (by omega)
theorem ylv_i {x : Int64} {m : Nat} (h : 1 ≤ m) : ylv m (yint x) := fun j _ => h
