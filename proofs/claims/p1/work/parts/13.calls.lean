/-! Contracts of methods, and calls of them. -/
def zext (ad : Nat → Nat) (ks : List Nat) (ad' : Nat → Nat) (ks' : List Nat) : Prop := (∀ i, i < ks.length → ad' i = ad i) ∧ ∀ (i kd : Nat), ks[i]? = some kd → ks'[i]? = some kd
theorem zext_len {ad ad' : Nat → Nat} {ks ks' : List Nat} (h : zext ad ks ad' ks') : ks.length ≤ ks'.length := by
  rcases Nat.lt_or_ge ks'.length ks.length with hlt | hge
  · exfalso
    have h1 : ks[ks'.length]? = some (ks[ks'.length]'hlt) := List.getElem?_eq_getElem hlt
    have h2 := (List.getElem?_eq_some_iff.mp (h.2 _ _ h1)).1
    omega
  · exact hge
theorem zext_rf {ad : Nat → Nat} {ks : List Nat} : zext ad ks ad ks := ⟨fun _ _ => rfl, fun _ _ h => h⟩
theorem zext_tr {ad ad' ad'' : Nat → Nat} {ks ks' ks'' : List Nat} (h : zext ad ks ad' ks') (h' : zext ad' ks' ad'' ks'') : zext ad ks ad'' ks'' := ⟨fun i hi => (h'.1 i (Nat.lt_of_lt_of_le hi (zext_len h))).trans (h.1 i hi), fun i kd hk => h'.2 i kd (h.2 i kd hk)⟩
theorem zext_new {ad : Nat → Nat} {ks : List Nat} {kd x : Nat} : zext ad ks (zadn ad ks.length x) (ks ++ [kd]) := ⟨zadn_lt rfl, fun i k h => by rw [List.getElem?_append_left (List.getElem?_eq_some_iff.mp h).1]; exact h⟩
theorem zok_ext {ad ad' : Nat → Nat} {ks ks' : List Nat} {r : Nat} (h : zext ad ks ad' ks') (hr : zok ks r) : zok ks' r := hr.elim Or.inl (fun h1 => Or.inr (h.2 _ _ h1))
theorem zvk_ext {ad ad' : Nat → Nat} {ks ks' : List Nat} {v : Value} (h : zext ad ks ad' ks') (hv : zvk ks v) : zvk ks' v := by
  cases v <;> try exact trivial
  exact zok_ext h hv
theorem zsk_ext {ad ad' : Nat → Nat} {ks ks' : List Nat} {st : List Value} (h : zext ad ks ad' ks') (hv : zsk ks st) : zsk ks' st := fun v hm => zvk_ext h (hv v hm)
theorem zlk_ext {ad ad' : Nat → Nat} {ks ks' : List Nat} {ls : zL} (h : zext ad ks ad' ks') (hv : zlk ks ls) : zlk ks' ls := fun i v hm => zvk_ext h (hv i v hm)
def zPre (D : va_G) (cy : Nat → ClassId) (ad ro : Nat → Nat) (xs : Nat → Nat → Int32) (Ls : Nat → Nat) (σ : zS) (ks : List Nat) (sz : Nat) (U : State) : Prop :=
  U.heap.size = sz ∧ va_P D vwCl (zw cy ad ro σ ks) U.heap ∧ va_K D vwCl (ztys cy) U ∧ va_D (fun _ => True) (zw cy ad ro σ ks) ∧ (∀ w ∈ zNW, va_Nw w U) ∧
  (∀ k, k < 2 → va_X (ro k) (Ls k) (xs k) U U.heap ∧ ro k < sz ∧ ¬ va_A (zw cy ad ro σ ks) sz (ro k)) ∧ va_Z RX0 "TAKES" "[I" (.ref (ro 1)) (va_A (zw cy ad ro σ ks) sz) U U.heap
def zPost (D : va_G) (cy : Nat → ClassId) (ad ro : Nat → Nat) (xs : Nat → Nat → Int32) (Ls : Nat → Nat) (σ : zS) (ks : List Nat) (sz : Nat) (r : Option Value) (τ : zS) (_ : Array Value) (st : State) (oc : Outcome) (t : State) : Prop :=
  (∃ (ad' : Nat → Nat) (ks' : List Nat), zext ad ks ad' ks' ∧ oc = .returned (r.map (zv ad' ro)) ∧ va_P D vwCl (zw cy ad' ro τ ks') t.heap ∧ va_D (va_A (zw cy ad ro σ ks) sz) (zw cy ad' ro τ ks') ∧ zinv τ ks' ∧ (∀ k, k < 2 → τ.1 (32 * k + 22) = xs k ∧ τ.2.2.2.1 (32 * k + 22) = Ls k) ∧ ∀ v, r = some v → zvk ks' v) ∧
  va_F (va_A (zw cy ad ro σ ks) sz) st t
abbrev zws (q : Nat) : List Cond := Cond.code (zy q) (zby q) (zml q) (zrt q) :: zTBL
theorem zisN_of {w : Cond} (h : w ∈ zNW) : zisN w = true := (List.mem_filter.mp h).2
set_option maxRecDepth 1000000 in
theorem zNW_obj : (zNW.all (fun w => match w with
  | .arrayOver (.object _) => true
  | .arrayOver _ => false
  | _ => true)) = true := by decide +kernel
theorem zNW_ao {ty : FieldType} (h : Cond.arrayOver ty ∈ zNW) : ∃ C, ty = .object C := by
  have h1 := List.all_eq_true.mp zNW_obj _ h
  cases ty <;> first | exact ⟨_, rfl⟩ | (simp at h1)
theorem zNW_same {u U : State} (h : u.vm = U.vm) (hw : ∀ w ∈ zNW, va_Nw w u) : ∀ w ∈ zNW, va_Nw w U := fun w hm => by
  have h1 := zisN_of hm
  have h2 := hw w hm
  cases w <;> simp [zisN] at h1
  all_goals first
    | exact va_Nw.same rfl h h2
    | skip
  all_goals
    obtain ⟨C, rfl⟩ := zNW_ao hm
    exact va_AO.moved (u := u) (h ▸ Vm.Alike.refl u.vm) h2
theorem zNW_warm {s U : State} (h : s.WarmedH U.vm) (hw : ∀ w ∈ zNW, va_Nw w s) : ∀ w ∈ zNW, va_Nw w U := fun w hm => by
  have h1 := zisN_of hm
  have h2 := hw w hm
  cases w <;> simp [zisN] at h1
  all_goals first
    | exact va_Nw.warmF h h2
    | exact va_Nw.warmM h h2
    | exact va_Nw.warmC h h2
    | exact va_Nw.warmD h h2
    | skip
  all_goals
    obtain ⟨C, rfl⟩ := zNW_ao hm
    exact va_AO.moved h.alike h2
/-- what the table says of a method -/
theorem zM_of {q : Nat} (hq : q < 328) : Cond.code (zy q) (zby q) (zml q) (zrt q) ∈ zTBL ∧ (zy q).cls = zon (zow q) ∧ plainFor (zy q) = true ∧ ((zy q).cls ≠ "java/lang/invoke/MethodHandle" ∧ (zy q).cls ≠ "java/lang/invoke/VarHandle") ∧ (zGG q).2 = zml q ∧ (parseMethodDescriptor (zy q).desc).map (fun d => d.parameters.length) = some (znp q) := by
  have h := List.all_eq_true.mp zM_ok q (List.mem_range.mpr hq)
  unfold zMb at h
  simp only [Bool.and_eq_true, decide_eq_true_eq] at h
  obtain ⟨⟨⟨⟨⟨h1, h2⟩, h3⟩, h4⟩, h5⟩, h6⟩ := h
  refine ⟨?_, h2, h3, h4, h5, h6⟩
  have hne : ¬ q = 328 := by omega
  split at h1
  · rename_i y b n r hw
    have e : zm q = (y, b, n, r) := by
      unfold zm
      rw [if_neg hne, hw]
    have e2 : Cond.code (zy q) (zby q) (zml q) (zrt q) = Cond.code y b n r := by
      unfold zy zby zml zrt
      rw [e]
    rw [e2]
    exact List.mem_filter.mpr ⟨ztc_in _ _ (List.mem_of_getElem? hw), h1⟩
  · cases h1
theorem zgood {q : Nat} (hq : q < 328) : GoodIn zTBL (zws q) := fun w hw => by
  rcases List.mem_cons.mp hw with rfl | h
  · exact ⟨(zM_of hq).1, zTBL_good (zM_of hq).1⟩
  · exact ⟨h, zTBL_good h⟩
section
variable {p : Program} {l : Launch} {e : Env} {R : Room} {s : State} {m : MethodId} {args : Array Value} {below : List Frame} {meth : Method} {c : Code} {H : Heap} {locs : List Loc} {cells slots : Nat} {Q : State → Prop}
variable {q : Nat} {D : va_G} {cy : Nat → ClassId} {ad ro : Nat → Nat} {A : Nat → Prop} {xs : Nat → Nat → Int32} {Ls : Nat → Nat} {σ τ : zS} {ks : List Nat} {pc : Nat} {lsA : Array Slot} {rest : List Value}
theorem zfree (hA : ∀ x, s.heap.size ≤ x → A x) (hS : zSt s D cy ad ro A xs Ls σ ks H locs) : ∀ x, va_A (zw cy ad ro σ ks) H.size x → A x := fun x h => by
  rcases h with ⟨k, E, h⟩ | h
  · exact hS.2.1.2 k _ h
  · exact hA x (Nat.le_trans hS.2.2.1.1 h)
theorem zcallW {mc ms : Nat} {st0 : List Value} {r : Option Value} {aa : Array Value} (hr : va_Run p l e R s m args below meth c H locs cells slots mc ms (F0 m pc lsA st0) rest (zPost D cy ad ro xs Ls σ ks H.size r τ aa) (va_A (zw cy ad ro σ ks) H.size)) (hA : ∀ x, s.heap.size ≤ x → A x) (hS : zSt s D cy ad ro A xs Ls σ ks H locs)
    (kk : ∀ (ad' : Nat → Nat) (ks' : List Nat) (H1 : Heap) (locs1 : List Loc), zext ad ks ad' ks' → zSt s D cy ad' ro A xs Ls τ ks' H1 locs1 → (∀ v, r = some v → zvk ks' v) → W p l e R s m args below meth c H1 locs1 (cells + mc) (slots + ms) Q (F0 m (pc + 3) lsA ((r.map (zv ad' ro)).toList ++ rest))) : W p l e R s m args below meth c H locs cells slots Q (F0 m pc lsA st0) := by
  intro T hT X
  obtain ⟨v, st₀, t, T', L, h0, X', hL, e1, e2, hq, st⟩ := hr T hT X
  obtain ⟨⟨ad', ks', hxt, hv, hP1, hD1, hI1, hRO1, hvk⟩, hz, hk⟩ := hq
  have hf := zfree hA hS
  cases hv
  rw [h0] at hz hk
  obtain ⟨t2, a1, b1⟩ := kk ad' ks' T'.heap (locs ++ L) hxt ⟨by rw [e1]; exact hP1, hD1.weaken (fun _ x _ h => hf x.1 h), ⟨Nat.le_trans hS.2.2.1.1 (by rw [e1]; exact hz), fun x h1 h2 => by
      rw [e1, hk x (Nat.lt_of_lt_of_le h1 hS.2.2.1.1) (fun z => h2 (hf x z))]
      exact hS.2.2.1.2.1 x h1 h2, fun x hx => by
      rcases List.mem_append.mp hx with h | h
      · exact hS.2.2.1.2.2 x h
      · exact hf _ (hL x h)⟩, hI1, hRO1⟩ hvk T' rfl X'
  exact ⟨t2, st t2 a1, b1⟩
theorem zblind {as : List Value} {sz : Nat} : FrameBlind (va_Pc as (zPre D cy ad ro xs Ls σ ks sz)) := fun a U g mk h => by
  obtain ⟨h1, h2, h3, h4, h5, h6, h7, h8⟩ := h
  exact ⟨h1, h2, h3, va_K.moved (u := U) (U := U.calling g mk a) (Vm.Alike.refl U.vm) h4, h5, zNW_same (u := U) (U := U.calling g mk a) rfl h6, fun k hk => ⟨va_X.moved (u := U) (U := U.calling g mk a) (Vm.Alike.refl U.vm) (h7 k hk).1, (h7 k hk).2⟩, va_Z.moved (u := U) (U := U.calling g mk a) (Vm.Alike.refl U.vm) h8⟩
theorem zpre (C : zCx l q R p s m args meth c D cy ro A xs Ls) (hS : zSt s D cy ad ro A xs Ls σ ks H locs) {as : List Value} : ∀ U : State, U.heap = H → s.WarmedH U.vm → va_Pc as (zPre D cy ad ro xs Ls σ ks H.size) as.toArray U := fun U hU hW => by
  have hf := zfree C.2.2.2.2.2.2.2.1 hS
  obtain ⟨hx, hb, hml, hown, hts, hnw, hK, hA, hro, hZ, hfr, hlo, hnm, hex⟩ := C
  obtain ⟨hP, hD, hSS, hI, hRO⟩ := hS
  refine ⟨rfl, by rw [hU], by rw [hU]; exact hP, va_K.moved hW.alike hK, hD.weaken (fun _ _ _ _ => trivial), zNW_warm hW hnw, fun k hk => ?_, ?_⟩
  · obtain ⟨h1, h2, h3⟩ := hro k hk
    refine ⟨?_, Nat.lt_of_lt_of_le h2 hSS.1, fun h => h3 (hf _ h)⟩
    rw [hU]
    exact va_X.moved hW.alike (va_X.kept h1 (hSS.2.1 _ h2 h3))
  · rw [hU]
    exact va_Z.moved hW.alike (va_Z.narrow (va_Z.kept hZ hSS.2.1) hf)
/-- the words of a link -/
def zlkP (q idx q' md : Nat) : Prop := ((Cond.methodLink (zon (zow q)) idx (zy q') ∈ zTBL) ∨ ∃ host, Cond.methodLinkNest (zon (zow q)) idx (zy q') host ∈ zNW) ∧ Cond.initialized (zy q').cls ∈ zTBL ∧ (md = 0 → Cond.static (zy q') ∈ zTBL) ∧ (md = 1 → Cond.instanceMethod (zy q') ∈ zTBL ∧ Cond.selects (zy q').cls (zy q') (zy q') ∈ zTBL) ∧ (md = 2 → Cond.instanceMethod (zy q') ∈ zTBL ∧ (zy q').name = "<init>" ∧ zrt q' = none)
theorem zcallS (C : zCx l q R p s m args meth c D cy ro A xs Ls) (hS : zSt s D cy ad ro A xs Ls σ ks H locs) (hsz : lsA.size = zml q) {q' idx mc ms : Nat} {r : Option Value} {as : List Value} (hq' : q' < 328) (hl : zlkP q idx q' 0) (hr1 : zfr q' + 1 ≤ zfr q) (hr2 : 8 + (zml q' + 11) + zlo q' ≤ zlo q)
    (hM : Met l (zy q') (zws q') { frames := zfr q', cells := mc, slots := ms, locals := zlo q' } (va_Pc (as.map (zv ad ro)) (zPre D cy ad ro xs Ls σ ks H.size)) (zPost D cy ad ro xs Ls σ ks H.size r τ) mc ms (va_A (zw cy ad ro σ ks) H.size)) (hn : as.length = znp q') (hcat : (rest.map fun v => v.category).sum ≤ 8)
    (hd : decode (zby q) pc = .ok (.invokestatic idx, 3)) (hf : cells + mc ≤ R.cells ∧ slots + ms ≤ R.slots)
    (kk : ∀ (ad' : Nat → Nat) (ks' : List Nat) (H1 : Heap) (locs1 : List Loc), zext ad ks ad' ks' → zSt s D cy ad' ro A xs Ls τ ks' H1 locs1 → (∀ v, r = some v → zvk ks' v) → W p l e R s m args below meth c H1 locs1 (cells + mc) (slots + ms) Q (F0 m (pc + 3) lsA ((r.map (zv ad' ro)).toList ++ rest))) : W p l e R s m args below meth c H locs cells slots Q (F0 m pc lsA ((as.map (zv ad ro)).reverse ++ rest)) := by
  have P := fun U hU hW => zpre C hS (as := as.map (zv ad ro)) U hU hW
  obtain ⟨hx, hb, hml, hown, hts, hnw, hK, hA, hro, hZ, hfr, hlo, hnm, hex⟩ := C
  obtain ⟨m1, m2, m3, m4, m5, m6⟩ := zM_of hq'
  obtain ⟨h1, h2, h3, -, -⟩ := hl
  rcases h1 with h1 | ⟨host, h1⟩
  · exact zcallW (va_runS (Ts := zTBL) (own := zon (zow q)) (ws := zws q') (maxL := zml q') (bytes := zby q') (ret := zrt q') (n := znp q') ⟨hx, hb, hml, hown, hts⟩ hM ⟨callB_of (znp q') hts (zgood hq') rfl rfl rfl (hts _ h2) (hts _ h1) ⟨m4.1, m4.2, m6⟩ ⟨by rw [hfr]; exact hr1, by rw [hlo]; exact hr2⟩, hts _ (h3 rfl)⟩ ⟨zblind, P⟩ rfl (by simpa using hn) hsz rfl (lv_room hcat) hd hf) hA hS kk
  · exact zcallW (va_runSN (Ts := zTBL) (own := zon (zow q)) (host := host) (ws := zws q') (maxL := zml q') (bytes := zby q') (ret := zrt q') (n := znp q') ⟨hx, hb, hml, hown, hts⟩ hM ⟨va_cnB (znp q') hts (zgood hq') rfl rfl rfl (hnw _ h1) (hts _ h2) ⟨m4.1, m4.2, m6⟩ ⟨by rw [hfr]; exact hr1, by rw [hlo]; exact hr2⟩, hts _ (h3 rfl), trivial⟩ ⟨zblind, P⟩ rfl (by simpa using hn) hsz rfl (lv_room hcat) hd hf) hA hS kk
theorem zcallV (C : zCx l q R p s m args meth c D cy ro A xs Ls) (hS : zSt s D cy ad ro A xs Ls σ ks H locs) (hsz : lsA.size = zml q) {q' idx mc ms a : Nat} {r : Option Value} {as : List Value} (hq' : q' < 328) (hl : zlkP q idx q' 1) (hr1 : zfr q' + 1 ≤ zfr q) (hr2 : 8 + (zml q' + 11) + zlo q' ≤ zlo q) (ha : zok ks a) (hac : a % 32 = zow q') (h15 : zow q' < 15)
    (hM : Met l (zy q') (zws q') { frames := zfr q', cells := mc, slots := ms, locals := zlo q' } (va_Pc ((Value.ref a :: as).map (zv ad ro)) (zPre D cy ad ro xs Ls σ ks H.size)) (zPost D cy ad ro xs Ls σ ks H.size r τ) mc ms (va_A (zw cy ad ro σ ks) H.size)) (hn : as.length = znp q') (hcat : (rest.map fun v => v.category).sum ≤ 8)
    (hd : decode (zby q) pc = .ok (.invokevirtual idx, 3)) (hf : cells + mc ≤ R.cells ∧ slots + ms ≤ R.slots)
    (kk : ∀ (ad' : Nat → Nat) (ks' : List Nat) (H1 : Heap) (locs1 : List Loc), zext ad ks ad' ks' → zSt s D cy ad' ro A xs Ls τ ks' H1 locs1 → (∀ v, r = some v → zvk ks' v) → W p l e R s m args below meth c H1 locs1 (cells + mc) (slots + ms) Q (F0 m (pc + 3) lsA ((r.map (zv ad' ro)).toList ++ rest))) : W p l e R s m args below meth c H locs cells slots Q (F0 m pc lsA ((as.map (zv ad ro)).reverse ++ .ref (zad ad ro a) :: rest)) := by
  have P := fun U hU hW => zpre C hS (as := (Value.ref a :: as).map (zv ad ro)) U hU hW
  obtain ⟨hx, hb, hml, hown, hts, hnw, hK, hA, hro, hZ, hfr, hlo, hnm, hex⟩ := C
  obtain ⟨m1, m2, m3, m4, m5, m6⟩ := zM_of hq'
  obtain ⟨h1, h2, -, h3, -⟩ := hl
  have hat := zw_at (cy := cy) (ad := ad) (ro := ro) (σ := σ) (zok_in ha (by omega)) (by omega)
  rw [zcell_obj (by omega)] at hat
  have hrc := va_recv hK hS.1 (zcl _ (show a % 32 < 15 by omega)) hat
  dsimp only at hrc
  rw [hac, ← m2] at hrc
  rcases h1 with h1 | ⟨host, h1⟩
  · exact zcallW (va_runV (Ts := zTBL) (own := zon (zow q)) (C := (zy q').cls) (ws := zws q') (maxL := zml q') (bytes := zby q') (ret := zrt q') (n := znp q') ⟨hx, hb, hml, hown, hts⟩ hM ⟨callB_of (znp q') hts (zgood hq') rfl rfl rfl (hts _ h2) (hts _ h1) ⟨m4.1, m4.2, m6⟩ ⟨by rw [hfr]; exact hr1, by rw [hlo]; exact hr2⟩, hts _ (h3 rfl).1, hts _ (h3 rfl).2⟩ ⟨zblind, hrc, P⟩ rfl (by simpa using hn) hsz rfl (lv_room hcat) hd hf) hA hS kk
  · exact zcallW (va_runVN (Ts := zTBL) (own := zon (zow q)) (host := host) (C := (zy q').cls) (ws := zws q') (maxL := zml q') (bytes := zby q') (ret := zrt q') (n := znp q') ⟨hx, hb, hml, hown, hts⟩ hM ⟨va_cnB (znp q') hts (zgood hq') rfl rfl rfl (hnw _ h1) (hts _ h2) ⟨m4.1, m4.2, m6⟩ ⟨by rw [hfr]; exact hr1, by rw [hlo]; exact hr2⟩, hts _ (h3 rfl).1, hts _ (h3 rfl).2⟩ ⟨zblind, hrc, P⟩ rfl (by simpa using hn) hsz rfl (lv_room hcat) hd hf) hA hS kk
theorem zcallI (C : zCx l q R p s m args meth c D cy ro A xs Ls) (hS : zSt s D cy ad ro A xs Ls σ ks H locs) (hsz : lsA.size = zml q) {q' idx mc ms a : Nat} {r : Option Value} {as : List Value} (hq' : q' < 328) (hl : zlkP q idx q' 2) (hr1 : zfr q' + 1 ≤ zfr q) (hr2 : 8 + (zml q' + 11) + zlo q' ≤ zlo q)
    (hM : Met l (zy q') (zws q') { frames := zfr q', cells := mc, slots := ms, locals := zlo q' } (va_Pc ((Value.ref a :: as).map (zv ad ro)) (zPre D cy ad ro xs Ls σ ks H.size)) (zPost D cy ad ro xs Ls σ ks H.size r τ) mc ms (va_A (zw cy ad ro σ ks) H.size)) (hn : as.length = znp q') (hcat : (rest.map fun v => v.category).sum ≤ 8)
    (hd : decode (zby q) pc = .ok (.invokespecial idx, 3)) (hf : cells + mc ≤ R.cells ∧ slots + ms ≤ R.slots)
    (kk : ∀ (ad' : Nat → Nat) (ks' : List Nat) (H1 : Heap) (locs1 : List Loc), zext ad ks ad' ks' → zSt s D cy ad' ro A xs Ls τ ks' H1 locs1 → (∀ v, r = some v → zvk ks' v) → W p l e R s m args below meth c H1 locs1 (cells + mc) (slots + ms) Q (F0 m (pc + 3) lsA ((r.map (zv ad' ro)).toList ++ rest))) : W p l e R s m args below meth c H locs cells slots Q (F0 m pc lsA ((as.map (zv ad ro)).reverse ++ .ref (zad ad ro a) :: rest)) := by
  have P := fun U hU hW => zpre C hS (as := (Value.ref a :: as).map (zv ad ro)) U hU hW
  obtain ⟨hx, hb, hml, hown, hts, hnw, hK, hA, hro, hZ, hfr, hlo, hnm, hex⟩ := C
  obtain ⟨m1, m2, m3, m4, m5, m6⟩ := zM_of hq'
  obtain ⟨h1, h2, -, -, h3⟩ := hl
  obtain ⟨h4, h5, h6⟩ := h3 rfl
  have hg := zgood hq'
  unfold zws at hM hg
  rw [h6] at hM hg
  rcases h1 with h1 | ⟨host, h1⟩
  · exact zcallW (va_runI (Ts := zTBL) (own := zon (zow q)) (maxL := zml q') (bytes := zby q') (n := znp q') ⟨hx, hb, hml, hown, hts⟩ hM ⟨callB_of (znp q') hts hg rfl rfl rfl (hts _ h2) (hts _ h1) ⟨m4.1, m4.2, m6⟩ ⟨by rw [hfr]; exact hr1, by rw [hlo]; exact hr2⟩, h5, hts _ h4⟩ ⟨zblind, P⟩ rfl (by simpa using hn) hsz rfl (lv_room hcat) hd hf) hA hS kk
  · exact zcallW (va_runIN (Ts := zTBL) (own := zon (zow q)) (host := host) (maxL := zml q') (bytes := zby q') (n := znp q') ⟨hx, hb, hml, hown, hts⟩ hM ⟨va_cnB (znp q') hts hg rfl rfl rfl (hnw _ h1) (hts _ h2) ⟨m4.1, m4.2, m6⟩ ⟨by rw [hfr]; exact hr1, by rw [hlo]; exact hr2⟩, h5, hts _ h4⟩ ⟨zblind, P⟩ rfl (by simpa using hn) hsz rfl (lv_room hcat) hd hf) hA hS kk
end
