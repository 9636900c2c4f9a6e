/-! Unpacking the checks; the statement of the simulation. -/
theorem zfl_of {q idx : Nat} {e : Nat × Nat × Nat × Nat × Nat} (he : e ∈ zFL) (h1 : e.1 = zow q) (h2 : e.2.1 = idx) : e.2.2.1 < 15 ∧ e.2.2.2.1 < zfc e.2.2.1 ∧ (zTX e.2.2.1 e.2.2.2.1).1 = zon e.2.2.1 ∧ Cond.fieldLink (zon (zow q)) idx (zon e.2.2.1) (zTX e.2.2.1 e.2.2.2.1).2.1 (zTX e.2.2.1 e.2.2.2.1).2.2.1 ∈ zTBL := by
  have h := List.all_eq_true.mp zFL_ok e he
  unfold zFLb at h
  simp only [Bool.and_eq_true, decide_eq_true_eq] at h
  obtain ⟨⟨⟨a, b⟩, c⟩, d⟩ := h
  have a := zwd_ok a
  rw [h1, h2] at a
  exact ⟨d, c, b, a⟩
theorem zfn_of {q idx : Nat} {e : Nat × Nat × Nat × Nat × Nat × Nat} (he : e ∈ zFN) (h1 : e.1 = zow q) (h2 : e.2.1 = idx) : e.2.2.1 < 15 ∧ e.2.2.2.1 < zfc e.2.2.1 ∧ (zTX e.2.2.1 e.2.2.2.1).1 = zon e.2.2.1 ∧ Cond.fieldLinkNest (zon (zow q)) idx (zon e.2.2.1) (zTX e.2.2.1 e.2.2.2.1).2.1 (zTX e.2.2.1 e.2.2.2.1).2.2.1 (zon e.2.2.2.2.1) ∈ zNW := by
  have h := List.all_eq_true.mp zFN_ok e he
  unfold zFNb at h
  simp only [Bool.and_eq_true, decide_eq_true_eq] at h
  obtain ⟨⟨⟨a, b⟩, c⟩, d⟩ := h
  have a := zwn_ok a
  rw [h1, h2] at a
  exact ⟨d, c, b, a⟩
theorem zget_of {q pc idx len : Nat} {o : zO} (h : zci q pc (.getfield idx) len o = true) : len = 3 ∧ ∃ c k, o = zget c k (zcod (zft c k)) ∧ c < 15 ∧ k < zfc c ∧ (zTX c k).1 = zon c ∧ (Cond.fieldLink (zon (zow q)) idx (zon c) (zTX c k).2.1 (zTX c k).2.2.1 ∈ zTBL ∨ ∃ host, Cond.fieldLinkNest (zon (zow q)) idx (zon c) (zTX c k).2.1 (zTX c k).2.2.1 host ∈ zNW) := by
  simp only [zci, Bool.and_eq_true, Bool.or_eq_true, decide_eq_true_eq, List.any_eq_true] at h
  obtain ⟨h0, ⟨e, he, ⟨h1, h2⟩, h3⟩ | ⟨e, he, ⟨h1, h2⟩, h3⟩⟩ := h
  · obtain ⟨a, b, c, d⟩ := zfl_of he h1 h2
    exact ⟨h0, _, _, zeq_ok h3, a, b, c, Or.inl d⟩
  · obtain ⟨a, b, c, d⟩ := zfn_of he h1 h2
    exact ⟨h0, _, _, zeq_ok h3, a, b, c, Or.inr ⟨_, d⟩⟩
theorem zput_of {q pc idx len : Nat} {o : zO} (h : zci q pc (.putfield idx) len o = true) : len = 3 ∧ ∃ c k, o = zput c k (zcod (zft c k)) ∧ c < 15 ∧ k < zfc c ∧ (zTX c k).1 = zon c ∧ ((Cond.fieldLink (zon (zow q)) idx (zon c) (zTX c k).2.1 (zTX c k).2.2.1 ∈ zTBL ∧ ((zTX c k).2.2.2 = false ∨ (zow q = c ∧ (zy q).name = "<init>" ∧ (zTX c k).2.2.2 = true))) ∨ ∃ host, Cond.fieldLinkNest (zon (zow q)) idx (zon c) (zTX c k).2.1 (zTX c k).2.2.1 host ∈ zNW ∧ (zTX c k).2.2.2 = false) := by
  simp only [zci, Bool.and_eq_true, Bool.or_eq_true, decide_eq_true_eq, List.any_eq_true] at h
  obtain ⟨h0, ⟨e, he, ⟨⟨h1, h2⟩, h3⟩, h4⟩ | ⟨e, he, ⟨⟨h1, h2⟩, h3⟩, h4⟩⟩ := h
  · obtain ⟨a, b, c, d⟩ := zfl_of he h1 h2
    exact ⟨h0, _, _, zeq_ok h3, a, b, c, Or.inl ⟨d, h4.elim Or.inl (fun h => Or.inr ⟨h.1.1, h.1.2, h.2⟩)⟩⟩
  · obtain ⟨a, b, c, d⟩ := zfn_of he h1 h2
    exact ⟨h0, _, _, zeq_ok h3, a, b, c, Or.inr ⟨_, d, h4⟩⟩
theorem zml_of {e : Nat × Nat × Nat × Nat × Nat × Nat × Nat × Nat × Nat} (he : e ∈ zMLK) {q idx md : Nat} (h1 : e.1 = zow q) (h2 : e.2.1 = idx) (h3 : e.2.2.2.1 = md) (hmd : md < 3) : zlkP q idx e.2.2.1 md := by
  have h := List.all_eq_true.mp zML_ok e he
  obtain ⟨o, i, q', md', hh, i1, i2, i3, i4⟩ := e
  dsimp only at h1 h2 h3
  subst h2 h3
  unfold zMLb at h
  simp only [Bool.and_eq_true] at h
  obtain ⟨⟨a, b⟩, d⟩ := h
  rw [h1] at a
  refine ⟨?_, zwd_ok b, ?_, ?_, ?_⟩
  · split at a
    · exact Or.inl (zwd_ok a)
    · exact Or.inr ⟨_, zwn_ok a⟩
  · intro e
    subst e
    exact zwd_ok d
  · intro e
    subst e
    simp only [Bool.and_eq_true] at d
    exact ⟨zwd_ok d.1, zwd_ok d.2⟩
  · intro e
    subst e
    simp only [Bool.and_eq_true, decide_eq_true_eq] at d
    exact ⟨zwd_ok d.1.1, d.1.2, d.2⟩
theorem zcx_of {q idx md : Nat} {o : zO} (hmd : md < 3) (h : zcx q idx md o = true) : ∃ q', o = zcal q' (if md = 0 then znp q' else znp q' + 1) md (zow q') ∧ zlkP q idx q' md ∧ zfr q' + 1 ≤ zfr q ∧ 8 + (zml q' + 11) + zlo q' ≤ zlo q ∧ q' < 328 := by
  simp only [zcx, zroom, Bool.and_eq_true, decide_eq_true_eq, List.any_eq_true] at h
  obtain ⟨e, he, ⟨⟨⟨h1, h2⟩, h3⟩, h4⟩, ⟨h5, h6⟩, h7⟩ := h
  exact ⟨e.2.2.1, zeq_ok h4, zml_of he h1 h2 h3 hmd, h5, h6, h7⟩
theorem zck_at {q b : Nat} (h : zck q = true) (hb : b < znb q) : zckL q (zbp q b) ((zGG q).1 b) = true := List.all_eq_true.mp h b (List.mem_range.mpr hb)
theorem zjmp_of {q pc b : Nat} {off : Int} (h : zjmp q pc b off = true) : (pc : Int) + off = (zbp q b : Int) ∧ b < znb q := by
  simpa [zjmp] using h
theorem zlk_off {q pc b : Nat} {d x : Int} (hd : (pc : Int) + d = (zbp q b : Int)) : ∀ (ps : List (Int × Int)) (ks bs : List Nat), ks.length = bs.length → ps.map (fun p => (p.1, (pc : Int) + p.2)) = (List.zip ks bs).map (fun p => ((p.1 : Int), (zbp q p.2 : Int))) → (pc : Int) + Op.lookupswitch.offset ps d x = (zbp q ((zxLk x ks bs).getD b) : Int)
  | [], [], [], _, _ => hd
  | [], _ :: _, _ :: _, _, h => by simp at h
  | _ :: _, [], [], _, h => by simp at h
  | [], [], _ :: _, hl, _ => by simp at hl
  | [], _ :: _, [], hl, _ => by simp at hl
  | _ :: _, [], _ :: _, hl, _ => by simp at hl
  | _ :: _, _ :: _, [], hl, _ => by simp at hl
  | (a, o) :: ps, k :: ks, b' :: bs, hl, h => by
    simp only [List.map_cons, List.zip_cons_cons, List.cons.injEq, Prod.mk.injEq] at h
    obtain ⟨⟨h1, h2⟩, h3⟩ := h
    rw [Op.lookupswitch.offset_cons]
    unfold zxLk
    by_cases hx : x = (k : Int)
    · rw [if_pos (by rw [h1, hx]), if_pos hx]
      exact h2
    · rw [if_neg (by rw [h1]; exact fun e => hx e.symm), if_neg hx]
      exact zlk_off hd ps ks bs (by simpa using hl) h3
theorem zxLk_mem {x : Int} : ∀ (ks bs : List Nat) {b : Nat}, zxLk x ks bs = some b → b ∈ bs
  | [], _, _, h => by simp [zxLk] at h
  | _ :: _, [], _, h => by simp [zxLk] at h
  | k :: ks, b' :: bs, b, h => by
    unfold zxLk at h
    split at h
    · cases h; exact List.mem_cons_self
    · exact List.mem_cons_of_mem _ (zxLk_mem ks bs h)
/-- from any point of a method where the small machine comes to (r, τ), so does the machine itself -/
def zSim (l : Launch) (n : Nat) : Prop := ∀ (q : Nat) (p : Program) (e : Env) (s : State) (m : MethodId) (args : Array Value) (below : List Frame) (meth : Method) (c : Code) (R : Room) (D : va_G) (cy : Nat → ClassId) (ro : Nat → Nat) (A : Nat → Prop) (xs : Nat → Nat → Int32) (Ls : Nat → Nat) (Q : State → Prop) (n0 z0 : Nat) (r : Option Value) (τ : zS) (ad0 : Nat → Nat) (ks0 : List Nat),
  zck q = true → zCx l q R p s m args meth c D cy ro A xs Ls → τ.2.2.2.2.1 + τ.2.2.2.1 31 - n0 ≤ R.cells → τ.2.2.2.2.2 - z0 ≤ R.slots →
  (∀ (pc : Nat) (lsA : Array Slot) (t : Nat) (i : Instr) (len : Nat) (st : List Value) (ad : Nat → Nat) (ks : List Nat) (H : Heap) (locs : List Loc) (cells slots : Nat), decode (zby q) pc = .ok (i, len) → zci q pc i len (zret t) = true → zsRet t st τ = some (.inr (.inr (r, τ))) → zSt s D cy ad ro A xs Ls τ ks H locs → zext ad0 ks0 ad ks → zsk ks st → n0 + cells ≤ τ.2.2.2.2.1 + τ.2.2.2.1 31 → z0 + slots ≤ τ.2.2.2.2.2 → W p l e R s m args below meth c H locs cells slots Q (F0 m pc lsA (st.map (zv ad ro)))) →
  (∀ (pc : Nat) (lsA : Array Slot) (ad : Nat → Nat) (ks : List Nat) (H : Heap) (locs : List Loc) (cells slots : Nat), r = some (.retAddr pc) → lsA.size = zml q → zSt s D cy ad ro A xs Ls τ ks H locs → zext ad0 ks0 ad ks → n0 + cells ≤ τ.2.2.2.2.1 + τ.2.2.2.1 31 → z0 + slots ≤ τ.2.2.2.2.2 → W p l e R s m args below meth c H locs cells slots Q (F0 m pc lsA [])) →
  ∀ (ops : List zO) (pc : Nat) (ls : zL) (st : List Value) (σ : zS) (ad : Nat → Nat) (ks : List Nat) (H : Heap) (locs : List Loc) (cells slots : Nat) (lsA : Array Slot), zrun zGG n (zGG q).1 ops ls st σ = some (r, τ) → zckL q pc ops = true → zSt s D cy ad ro A xs Ls σ ks H locs → zext ad0 ks0 ad ks → zlh ad ro (zml q) ls lsA → zlk ks ls → zsk ks st → n0 + cells ≤ σ.2.2.2.2.1 + σ.2.2.2.1 31 → z0 + slots ≤ σ.2.2.2.2.2 → W p l e R s m args below meth c H locs cells slots Q (F0 m pc lsA (st.map (zv ad ro)))
/-- a method's contract out of it -/
theorem zOfW {l : Launch} {y : MethodName} {ws ws' : List Cond} {rm : Room} {Pc : Array Value → State → Prop} {Qc : Array Value → State → Outcome → State → Prop} {mc ms : Nat} {free : Addr → Prop} {cc : ByteArray} {maxL : Nat} {ret : Option FieldType}
    (hy : plainFor y = true) (hw : ws = Cond.code y cc maxL ret :: ws')
    (body : ∀ p e s m args below meth c s₁, BodyLoose p l y (headSpec ws rm) cc maxL ret e s m args below meth c s₁ → c.maxLocals = maxL → Pc args s →
      W p l e (headSpec ws rm).room s m args below meth c s.heap [] 0 0 (MQ below Qc args s mc ms free) (entryFrame m args maxL)) : Met l y ws rm Pc Qc mc ms free := by
  refine MetFree.of_bodySF (code := cc) (maxLocals := maxL) (ret := ret) hy ?_ ?_
  · intro args s m h hn
    obtain ⟨meth, c, h1, h2, h3, h4, h5, h6, -, -⟩ := Cond.code_spec hn (atoms_spec (ws := ws) h _ (by rw [hw]; exact List.mem_cons_self))
    exact ⟨meth, c, h1, h2, h3, h4, h5, h6⟩
  · intro p e s m args below meth c s₁ B hml hP _
    have hh0 : s₁.heap = s.heap := by rw [B.state]; rfl
    obtain ⟨t, a1, o, b1, b2, b3⟩ := body p e s m args below meth c s₁ B hml hP s₁ hh0 (Stand.of_body B)
    exact ⟨t, o, a1, b1, b2, ⟨b3.1, b3.2⟩⟩
theorem zlay_len (ad ro : Nat → Nat) : ∀ as : List Value, (lg_sl (as.map (zv ad ro))).length = (zlay as).length
  | [] => rfl
  | v :: r => by
    have ih := zlay_len ad ro r
    have e : lg_sl ((v :: r).map (zv ad ro)) = (if (zv ad ro v).category = 2 then [Slot.val (zv ad ro v), Slot.second] else [Slot.val (zv ad ro v)]) ++ lg_sl (r.map (zv ad ro)) := rfl
    rw [e, List.length_append, ih, zv_cat]
    by_cases hc : v.category = 2
    · rw [if_pos hc]
      have hz : zlay (v :: r) = some v :: none :: zlay r := by cases v <;> simp [Value.category] at hc <;> rfl
      rw [hz]
      simp
      omega
    · rw [if_neg hc]
      have hz : zlay (v :: r) = some v :: zlay r := by cases v <;> simp [Value.category] at hc <;> rfl
      rw [hz]
      simp
      omega
theorem zlay_get (ad ro : Nat → Nat) : ∀ (as : List Value) (k i : Nat) (v : Value), (zlay as)[i]? = some (some v) → (k + i, zv ad ro v) ∈ lv_args k (as.map (zv ad ro))
  | [], _, i, _, h => by simp [zlay] at h
  | w :: r, k, i, v, h => by
    have ih := zlay_get ad ro r
    rw [List.map_cons]
    unfold lv_args
    rw [zv_cat]
    by_cases hc : w.category = 2
    · rw [if_pos hc]
      have hz : zlay (w :: r) = some w :: none :: zlay r := by cases w <;> simp [Value.category] at hc <;> rfl
      rw [hz] at h
      match i, h with
      | 0, h =>
        simp at h
        subst h
        exact List.mem_cons_self
      | 1, h => simp at h
      | i + 2, h =>
        simp at h
        have := ih (k + 2) i v h
        exact List.mem_cons_of_mem _ (by rw [show k + (i + 2) = k + 2 + i by omega]; exact this)
    · rw [if_neg hc]
      have hz : zlay (w :: r) = some w :: zlay r := by cases w <;> simp [Value.category] at hc <;> rfl
      rw [hz] at h
      match i, h with
      | 0, h =>
        simp at h
        subst h
        exact List.mem_cons_self
      | i + 1, h =>
        simp at h
        have := ih (k + 1) i v h
        exact List.mem_cons_of_mem _ (by rw [show k + (i + 1) = k + 1 + i by omega]; exact this)
theorem zent_get {as : List Value} {mL i : Nat} {v : Value} (h : (zent as mL)[i]? = some (some v)) : (zlay as)[i]? = some (some v) := by
  unfold zent at h
  by_cases hi : i < (zlay as).length
  · rwa [List.getElem?_append_left hi] at h
  · rw [List.getElem?_append_right (by omega), List.getElem?_replicate] at h
    split at h <;> simp at h
theorem zlay_mem : ∀ (as : List Value) (i : Nat) (v : Value), (zlay as)[i]? = some (some v) → v ∈ as
  | [], i, _, h => by simp [zlay] at h
  | w :: r, i, v, h => by
    have ih := zlay_mem r
    by_cases hc : w.category = 2
    · have hz : zlay (w :: r) = some w :: none :: zlay r := by cases w <;> simp [Value.category] at hc <;> rfl
      rw [hz] at h
      match i, h with
      | 0, h => simp at h; subst h; exact List.mem_cons_self
      | 1, h => simp at h
      | i + 2, h => simp at h; exact List.mem_cons_of_mem _ (ih i v h)
    · have hz : zlay (w :: r) = some w :: zlay r := by cases w <;> simp [Value.category] at hc <;> rfl
      rw [hz] at h
      match i, h with
      | 0, h => simp at h; subst h; exact List.mem_cons_self
      | i + 1, h => simp at h; exact List.mem_cons_of_mem _ (ih i v h)
theorem znb_pos {q : Nat} (h : zck q = true) {n : Nat} {ls : zL} {st : List Value} {σ : zS} {x : Option Value × zS} (hr : zrun zGG n (zGG q).1 ((zGG q).1 0) ls st σ = some x) (h0 : 0 < znb q) : zckL q (zbp q 0) ((zGG q).1 0) = true := zck_at h h0
