/-! A method's contract out of the simulation of its body. -/
set_option maxRecDepth 1000000 in
theorem zb0_ok : ((List.range 329).all fun q => decide (zbp q 0 = 0) && decide (0 < znb q)) = true := by decide +kernel
theorem zb0 {q : Nat} (hq : q < 329) : zbp q 0 = 0 ∧ 0 < znb q := by
  have h := List.all_eq_true.mp zb0_ok q (List.mem_range.mpr hq)
  simpa using h
set_option maxHeartbeats 4000000 in
theorem zret_of {q pc len t : Nat} {i : Instr} (h : zci q pc i len (zret t) = true) : len = 1 ∧ ((i = .ireturn ∧ zrt q = some .int ∧ t = 1) ∨ (i = .ireturn ∧ zrt q = some .boolean ∧ t = 2) ∨ (i = .lreturn ∧ zrt q = some .long ∧ t = 3) ∨ (i = .areturn ∧ ((∃ x, zrt q = some (.object x)) ∨ ∃ x, zrt q = some (.array x)) ∧ t = 4) ∨ (i = .return_ ∧ zrt q = none ∧ t = 0)) := by
  cases i
  case ireturn =>
    simp only [zci, Bool.and_eq_true, Bool.or_eq_true, decide_eq_true_eq] at h
    obtain ⟨⟨a, b⟩ | ⟨a, b⟩, h2⟩ := h
    · have e := congrArg (fun o : zO => o.2.1) (zeq_ok b)
      exact ⟨h2, Or.inl ⟨rfl, a, e⟩⟩
    · have e := congrArg (fun o : zO => o.2.1) (zeq_ok b)
      exact ⟨h2, Or.inr (Or.inl ⟨rfl, a, e⟩)⟩
  case lreturn =>
    simp only [zci, Bool.and_eq_true, decide_eq_true_eq] at h
    obtain ⟨⟨b, a⟩, h2⟩ := h
    have e := congrArg (fun o : zO => o.2.1) (zeq_ok b)
    exact ⟨h2, Or.inr (Or.inr (Or.inl ⟨rfl, a, e⟩))⟩
  case areturn =>
    simp only [zci, Bool.and_eq_true, decide_eq_true_eq] at h
    obtain ⟨⟨b, h2⟩, a⟩ := h
    have e := congrArg (fun o : zO => o.2.1) (zeq_ok b)
    refine ⟨h2, Or.inr (Or.inr (Or.inr (Or.inl ⟨rfl, ?_, e⟩)))⟩
    split at a
    · rename_i x hx; exact Or.inl ⟨x, hx⟩
    · rename_i x hx; exact Or.inr ⟨x, hx⟩
    · cases a
  case return_ =>
    simp only [zci, Bool.and_eq_true, decide_eq_true_eq] at h
    obtain ⟨⟨b, a⟩, h2⟩ := h
    have e := congrArg (fun o : zO => o.2.1) (zeq_ok b)
    exact ⟨h2, Or.inr (Or.inr (Or.inr (Or.inr ⟨rfl, a, e⟩)))⟩
  all_goals (exfalso; revert h; simp [zci, zcx, zeq, zret, zldI, zldL, zldA, zstI, zstL, zstA, zcI, zcL, znul, zinc, zbI, zbL, zsL, zun, zcmp, zdup, zdup2, zpop, zpop2, zif, zic, zjn, zjnn, zgo, ztsw, zlsw, zget, zput, zald, zast, zlen, znewa, znew, zcal, ztak, zcst, zacp, zoini, zcln, zthr, zlco])
set_option maxHeartbeats 4000000 in
theorem zmet {l : Launch} {n : Nat} (IH : zSim l n) (hck : ∀ q, q < 329 → zck q = true) {q : Nat} (hq : q < 328) {as : List Value} {σ τ : zS} {r : Option Value} (hrun : zrun zGG n (zGG q).1 ((zGG q).1 0) (zent as (zGG q).2) [] σ = some (r, τ)) (hlen : (zlay as).length ≤ (zGG q).2)
    (D : va_G) (cy : Nat → ClassId) (ad ro : Nat → Nat) (xs : Nat → Nat → Int32) (Ls : Nat → Nat) (ks : List Nat) (sz : Nat) (hinv : zinv σ ks) (hRO : ∀ k, k < 2 → σ.1 (32 * k + 22) = xs k ∧ σ.2.2.2.1 (32 * k + 22) = Ls k) (hsk : zsk ks as) (hnt : ∀ k, r ≠ some (.retAddr k)) :
    Met l (zy q) (zws q) { frames := zfr q, cells := τ.2.2.2.2.1 + τ.2.2.2.1 31 - (σ.2.2.2.2.1 + σ.2.2.2.1 31), slots := τ.2.2.2.2.2 - σ.2.2.2.2.2, locals := zlo q } (va_Pc (as.map (zv ad ro)) (zPre D cy ad ro xs Ls σ ks sz)) (zPost D cy ad ro xs Ls σ ks sz r τ) (τ.2.2.2.2.1 + τ.2.2.2.1 31 - (σ.2.2.2.2.1 + σ.2.2.2.1 31)) (τ.2.2.2.2.2 - σ.2.2.2.2.2) (va_A (zw cy ad ro σ ks) sz) := by
  obtain ⟨m1, m2, m3, m4, m5, m6⟩ := zM_of hq
  rw [m5] at hrun hlen
  refine zOfW (cc := zby q) (maxL := zml q) (ret := zrt q) m3 rfl ?_
  intro p e s m args below meth c s₁ B hml hv
  obtain ⟨rfl, hsz, hP, hK, hD0, hnw, hro, hZ⟩ := hv
  have hx := B.exec
  have hb := B.bytes
  have hr := B.returns
  have hts : ∀ w ∈ zTBL, w.before (as.map (zv ad ro)).toArray s = true := fun w hw => atoms_spec (ws := zws q) B.pre w (List.mem_cons_of_mem _ hw)
  have hown : s.vm.findClass (zon (zow q)) = some m.cls := by rw [← m2]; exact findClass_of_methodNamed B.named
  have hlocks := B.notSynchronized
  have hnm : meth.name = (zy q).name := (name_of_methodNamed B.named B.method).1
  subst hsz
  have hD := hD0.self (sz := s.heap.size)
  have hl := lv_entry (as.map (zv ad ro)) (n := zml q) (by rw [zlay_len]; exact hlen)
  rw [lg_entry_eq]
  generalize (lg_sl (as.map (zv ad ro)) ++ List.replicate (zml q - (lg_sl (as.map (zv ad ro))).length) Slot.unset).toArray = lsA at hl ⊢
  obtain ⟨b1, b2⟩ := zb0 (q := q) (by omega)
  have hc0 := zck_at (hck q (by omega)) b2
  rw [b1] at hc0
  refine IH q p e s m _ below meth c _ D cy ro (va_A (zw cy ad ro σ ks) s.heap.size) xs Ls _ (σ.2.2.2.2.1 + σ.2.2.2.1 31) σ.2.2.2.2.2 r τ ad ks (hck q (by omega)) ⟨hx, hb, hml, hown, hts, hnw, hK, fun x h => Or.inr h, hro, hZ, rfl, rfl, hnm, fun h => absurd h (by omega)⟩ (Nat.le_refl _) (Nat.le_refl _) ?_ (fun pc lsB ad' ks' H locs cells slots hre => absurd hre (hnt pc)) ((zGG q).1 0) 0 (zent as (zml q)) [] σ ad ks s.heap [] 0 0 lsA hrun hc0 ⟨hP, hD, va_S.rf, hinv, hRO⟩ zext_rf ⟨?_, hl.1, hl.2.1, ?_⟩ (fun i v h => hsk v (zlay_mem as i v (zent_get h))) (fun v h => absurd h List.not_mem_nil) (Nat.le_refl _) (Nat.le_refl _)
  · intro pc lsB t i len st ad' ks' H locs cells slots hd hz hret hSt hE hsk' hn hzz
    obtain ⟨hP', hD', hS', hI', hRO'⟩ := hSt
    refine W.widen (k := τ.2.2.2.2.1 + τ.2.2.2.1 31 - (σ.2.2.2.2.1 + σ.2.2.2.1 31)) (n := τ.2.2.2.2.2 - σ.2.2.2.2.2) (by omega) (by omega) ?_
    obtain ⟨rfl, hcase⟩ := zret_of hz
    have fin : ∀ v, r = v → (∀ w, v = some w → zvk ks' w) → ∀ t : State, t.heap = H → s.WarmedH t.vm → zPost D cy ad ro xs Ls σ ks s.heap.size r τ (as.map (zv ad ro)).toArray s (.returned (v.map (zv ad' ro))) t := fun v hv hk t ht hW => by
      subst hv
      exact ⟨⟨ad', ks', hE, rfl, by rw [ht]; exact hP', hD', hI', hRO', hk⟩, hS'.F ht⟩
    rcases zvRet hret with ⟨rfl, rfl, hx1⟩ | ⟨v, rfl, rfl, hx1⟩ | ⟨v, rfl, rfl, hv, hx1⟩ | ⟨v, rfl, rfl, hx1⟩ | ⟨o, rfl, rfl, hx1⟩
    · cases hx1
      rcases hcase with ⟨rfl, hrt, h⟩ | ⟨rfl, hrt, h⟩ | ⟨rfl, hrt, h⟩ | ⟨rfl, hrt, h⟩ | ⟨rfl, hrt, h⟩ <;> first | (cases h; done) | skip
      exact W.vret hx hb (by rw [hr]; exact hrt) (fin none rfl (fun w h => by cases h)) hS'.2.2 hd
    · cases hx1
      rcases hcase with ⟨rfl, hrt, h⟩ | ⟨rfl, hrt, h⟩ | ⟨rfl, hrt, h⟩ | ⟨rfl, hrt, h⟩ | ⟨rfl, hrt, h⟩ <;> first | (cases h; done) | skip
      exact W.iret (v := v) hx hb (by rw [hr]; exact hrt) (fin (some (.int v)) rfl (fun w h => by cases h; exact trivial)) hS'.2.2 hd
    · cases hx1
      rcases hcase with ⟨rfl, hrt, h⟩ | ⟨rfl, hrt, h⟩ | ⟨rfl, hrt, h⟩ | ⟨rfl, hrt, h⟩ | ⟨rfl, hrt, h⟩ <;> first | (cases h; done) | skip
      exact W.zret (v := v) (ty := .boolean) hx hb (by rw [hr]; exact hrt) (by rcases hv with rfl | rfl <;> decide) (fin (some (.int v)) rfl (fun w h => by cases h; exact trivial)) hS'.2.2 hd
    · cases hx1
      rcases hcase with ⟨rfl, hrt, h⟩ | ⟨rfl, hrt, h⟩ | ⟨rfl, hrt, h⟩ | ⟨rfl, hrt, h⟩ | ⟨rfl, hrt, h⟩ <;> first | (cases h; done) | skip
      exact W.lret (v := v) hx hb (by rw [hr]; exact hrt) (fin (some (.long v)) rfl (fun w h => by cases h; exact trivial)) hS'.2.2 hd
    · have hrv : r = some (va_rf o) := by cases hx1; rfl
      rcases hcase with ⟨rfl, hrt, h⟩ | ⟨rfl, hrt, h⟩ | ⟨rfl, hrt, h⟩ | ⟨rfl, hrt, h⟩ | ⟨rfl, hrt, h⟩ <;> first | (cases h; done) | skip
      have hvv : zv ad' ro (va_rf o) = .null ∨ ∃ a, zv ad' ro (va_rf o) = .ref a := by
        rw [zv_rf]
        cases o with
        | none => exact Or.inl rfl
        | some x => exact Or.inr ⟨_, rfl⟩
      have hq2 := fin (some (va_rf o)) hrv (fun w h => by cases h; exact hsk' _ List.mem_cons_self)
      rcases hrt with ⟨y, hrt⟩ | ⟨y, hrt⟩
      · exact W.aret (v := zv ad' ro (va_rf o)) (rt := .object y) hx hb (by rw [hr]; exact hrt) (Or.inl ⟨_, rfl⟩) hvv hq2 hS'.2.2 hd
      · exact W.aret (v := zv ad' ro (va_rf o)) (rt := .array y) hx hb (by rw [hr]; exact hrt) (Or.inr ⟨_, rfl⟩) hvv hq2 hS'.2.2 hd
  · unfold zent
    simp
    omega
  · rintro ⟨j, w⟩ hq
    obtain ⟨v, hv, rfl⟩ := zlv_mem.mp hq
    have h1 := zlay_get ad ro as 0 j v (zent_get hv)
    rw [Nat.zero_add] at h1
    exact hl.2.2 _ h1
