set_option maxRecDepth 1000000 in
theorem zcls_ok : (zMLK.all fun e => decide (e.2.2.2.1 ≠ 1) || decide (zow e.2.2.1 < 15)) = true := by decide +kernel
/-- the law's call of coinOf: what is owed of it -/
def zLco (l : Launch) (n : Nat) : Prop := ∀ (q : Nat) (p : Program) (e : Env) (s : State) (m : MethodId) (args : Array Value) (below : List Frame) (meth : Method) (c : Code) (R : Room) (D : va_G) (cy : Nat → ClassId) (ro : Nat → Nat) (A : Nat → Prop) (xs : Nat → Nat → Int32) (Ls : Nat → Nat) (Q : State → Prop) (n0 z0 : Nat) (r : Option Value) (τ : zS) (ad0 : Nat → Nat) (ks0 : List Nat) (e9 : Nat × Nat × Nat × Nat × Nat) {idx : Nat},
  e9 ∈ zLCs → e9.1 = zow q → e9.2.1 = idx → q = 328 → zCx l q R p s m args meth c D cy ro A xs Ls → τ.2.2.2.2.1 + τ.2.2.2.1 31 - n0 ≤ R.cells → τ.2.2.2.2.2 - z0 ≤ R.slots →
  (∀ (ops : List zO) (pc : Nat) (ls : zL) (st : List Value) (σ : zS) (ad : Nat → Nat) (ks : List Nat) (H : Heap) (locs : List Loc) (cells slots : Nat) (lsA : Array Slot), zrun zGG n (zGG q).1 ops ls st σ = some (r, τ) → zckL q pc ops = true → zSt s D cy ad ro A xs Ls σ ks H locs → zext ad0 ks0 ad ks → zlh ad ro (zml q) ls lsA → zlk ks ls → zsk ks st → n0 + cells ≤ σ.2.2.2.2.1 + σ.2.2.2.1 31 → z0 + slots ≤ σ.2.2.2.2.2 → W p l e R s m args below meth c H locs cells slots Q (F0 m pc lsA (st.map (zv ad ro)))) →
  ∀ (rest : List zO) (pc : Nat) (ls : zL) (st : List Value) (σ : zS) (ad : Nat → Nat) (ks : List Nat) (H : Heap) (locs : List Loc) (cells slots : Nat) (lsA : Array Slot) (o : zO) (x : zR), decode (zby q) pc = .ok (.invokestatic idx, 3) → o = zlco e9.2.2.1 e9.2.2.2.1 → zstep o ls st σ = some x →
  (match x with
      | .inl (0, ls1, st1, σ1) => zrun zGG n (zGG q).1 rest ls1 st1 σ1 = some (r, τ)
      | .inl (b + 1, ls1, st1, σ1) => zrun zGG n (zGG q).1 ((zGG q).1 b) ls1 st1 σ1 = some (r, τ)
      | .inr (.inl (q8, as, ls1, st1, σ1)) => (zlay as).length ≤ (zGG q8).2 ∧ ∃ v σ2 st2 σ3, zrun zGG n (zGG q8).1 ((zGG q8).1 0) (zent as (zGG q8).2) [] σ1 = some (v, σ2) ∧ zaft o v st1 σ2 = some (st2, σ3) ∧ zrun zGG n (zGG q).1 rest ls1 st2 σ3 = some (r, τ)
      | .inr (.inr (v, σ1)) => v = r ∧ σ1 = τ) →
  zckL q (pc + 3) rest = true → zSt s D cy ad ro A xs Ls σ ks H locs → zext ad0 ks0 ad ks → zlh ad ro (zml q) ls lsA → zlk ks ls → zsk ks st → n0 + cells ≤ σ.2.2.2.2.1 + σ.2.2.2.1 31 → z0 + slots ≤ σ.2.2.2.2.2 → W p l e R s m args below meth c H locs cells slots Q (F0 m pc lsA (st.map (zv ad ro)))
theorem zcx1_of {q idx : Nat} {o : zO} (h : zcx q idx 1 o = true) : ∃ q', o = zcal q' (znp q' + 1) 1 (zow q') ∧ zlkP q idx q' 1 ∧ zfr q' + 1 ≤ zfr q ∧ 8 + (zml q' + 11) + zlo q' ≤ zlo q ∧ q' < 328 ∧ zow q' < 15 := by
  simp only [zcx, zroom, Bool.and_eq_true, decide_eq_true_eq, List.any_eq_true] at h
  obtain ⟨e, he, ⟨⟨⟨h1, h2⟩, h3⟩, h4⟩, ⟨h5, h6⟩, h7⟩ := h
  have h8 := List.all_eq_true.mp zcls_ok e he
  simp [h3] at h8
  exact ⟨e.2.2.1, zeq_ok h4, zml_of he h1 h2 h3 (by decide), h5, h6, h7, h8⟩
/-! The simulation. -/
set_option maxHeartbeats 40000000 in
theorem zsim_step {l : Launch} {n : Nat} (hck : ∀ q, q < 329 → zck q = true) (hlco : zLco l n) (IH : zSim l n) : zSim l (n + 1) := by
  intro q p e s m args below meth c R D cy ro A xs Ls Q n0 z0 r τ ad0 ks0 hq C hRc hRs hend hthr ops pc ls st σ ad ks H locs cells slots lsA h hc hS hE hlh hlk hsk hn hz
  have K := IH q p e s m args below meth c R D cy ro A xs Ls Q n0 z0 r τ ad0 ks0 hq C hRc hRs hend hthr
  have hmono := zrun_mono (G := zGG) n (zGG q).1
  have C' := C
  obtain ⟨hX, hb, hml, hown, hts, hnw, hK, hA, hro, hZ, hfr, hlo, hnm, hex⟩ := C'
  cases ops with
  | nil => cases h
  | cons o rest =>
  obtain ⟨x, hx, hr⟩ := zrun_inv h
  clear h
  unfold zckL at hc
  split at hc
  · simp only [Bool.and_eq_true, decide_eq_true_eq] at hc
    obtain ⟨⟨ho, hb0⟩, hb1⟩ := hc
    generalize o.2.1 = b at ho hb0 hb1
    cases zeq_ok ho
    cases hx
    have := K ((zGG q).1 b) (zbp q b) ls st σ ad ks H locs cells slots lsA hr (zck_at hq hb1) hS hE hlh hlk hsk hn hz
    rw [hb0] at this
    exact this
  cases hd : decode (zby q) pc with
  | error er => rw [hd] at hc; cases hc
  | ok il =>
  obtain ⟨i, len⟩ := il
  rw [hd] at hc
  dsimp only at hc
  rw [Bool.and_eq_true] at hc
  obtain ⟨hci, hc⟩ := hc
  rw [Bool.or_eq_true] at hci
  rcases hci with hci | hi
  · cases zeq_ok hci
    cases hx
  cases i
  case iload w =>
    simp only [zci, Bool.and_eq_true, decide_eq_true_eq] at hi
    obtain ⟨ho, rfl⟩ := hi
    cases zeq_ok ho
    obtain ⟨v, hv, rfl⟩ := zvLd0 (show zsLd 0 _ ls st σ = some x from hx)
    refine lv_iload hX hb hd (zlh_at hlh hv) ?_
    exact K rest (pc + 2) ls (.int v :: st) σ ad ks H locs cells slots lsA hr hc hS hE hlh hlk (zsk_cons trivial hsk) hn hz
  case iload_n w =>
    simp only [zci, Bool.and_eq_true, decide_eq_true_eq] at hi
    obtain ⟨ho, rfl⟩ := hi
    cases zeq_ok ho
    obtain ⟨v, hv, rfl⟩ := zvLd0 (show zsLd 0 _ ls st σ = some x from hx)
    refine lv_iload_n hX hb hd rfl (zlh_at hlh hv) ?_
    exact K rest (pc + 1) ls (.int v :: st) σ ad ks H locs cells slots lsA hr hc hS hE hlh hlk (zsk_cons trivial hsk) hn hz
  case lload w =>
    simp only [zci, Bool.and_eq_true, decide_eq_true_eq] at hi
    obtain ⟨ho, rfl⟩ := hi
    cases zeq_ok ho
    obtain ⟨v, hv, rfl⟩ := zvLd1 (show zsLd 1 _ ls st σ = some x from hx)
    refine lv_lload hX hb hd (zlh_at hlh hv) ?_
    exact K rest (pc + 2) ls (.long v :: st) σ ad ks H locs cells slots lsA hr hc hS hE hlh hlk (zsk_cons trivial hsk) hn hz
  case lload_n w =>
    simp only [zci, Bool.and_eq_true, decide_eq_true_eq] at hi
    obtain ⟨ho, rfl⟩ := hi
    cases zeq_ok ho
    obtain ⟨v, hv, rfl⟩ := zvLd1 (show zsLd 1 _ ls st σ = some x from hx)
    refine lv_lload_n hX hb hd rfl (zlh_at hlh hv) ?_
    exact K rest (pc + 1) ls (.long v :: st) σ ad ks H locs cells slots lsA hr hc hS hE hlh hlk (zsk_cons trivial hsk) hn hz
  case aload w =>
    simp only [zci, Bool.and_eq_true, decide_eq_true_eq] at hi
    obtain ⟨ho, rfl⟩ := hi
    cases zeq_ok ho
    rcases zvLd2 (show zsLd 2 _ ls st σ = some x from hx) with ⟨v, hv, rfl⟩ | ⟨hv, rfl⟩
    · refine lv_aload hX hb hd (zlh_at hlh hv) ?_
      exact K rest (pc + 2) ls (.ref v :: st) σ ad ks H locs cells slots lsA hr hc hS hE hlh hlk (zsk_cons (hlk _ _ hv) hsk) hn hz
    · refine lv_aloadN hX hb hd (zlh_at hlh hv) ?_
      exact K rest (pc + 2) ls (.null :: st) σ ad ks H locs cells slots lsA hr hc hS hE hlh hlk (zsk_cons trivial hsk) hn hz
  case aload_n w =>
    simp only [zci, Bool.and_eq_true, decide_eq_true_eq] at hi
    obtain ⟨ho, rfl⟩ := hi
    cases zeq_ok ho
    rcases zvLd2 (show zsLd 2 _ ls st σ = some x from hx) with ⟨v, hv, rfl⟩ | ⟨hv, rfl⟩
    · refine lv_aload_n hX hb hd rfl (zlh_at hlh hv) ?_
      exact K rest (pc + 1) ls (.ref v :: st) σ ad ks H locs cells slots lsA hr hc hS hE hlh hlk (zsk_cons (hlk _ _ hv) hsk) hn hz
    · refine lv_aload_nN hX hb hd rfl (zlh_at hlh hv) ?_
      exact K rest (pc + 1) ls (.null :: st) σ ad ks H locs cells slots lsA hr hc hS hE hlh hlk (zsk_cons trivial hsk) hn hz
  case istore w =>
    simp only [zci, Bool.and_eq_true, decide_eq_true_eq] at hi
    obtain ⟨ho, rfl⟩ := hi
    cases zeq_ok ho
    obtain ⟨v, rs, rfl, hi2, rfl⟩ := zvSt0 (show zsSt 0 _ ls st σ = some x from hx)
    refine lv_istore hX hb hd hlh.2 (by rw [← hlh.1]; exact hi2) rfl (fun lsB hB => ?_)
    exact K rest (pc + 2) (zset1 ls _ (.int v)) rs σ ad ks H locs cells slots lsB hr hc hS hE (zlh_set1 hlh hB) (zlk_set1 hlk trivial) (zsk_tl hsk) hn hz
  case istore_n w =>
    simp only [zci, Bool.and_eq_true, decide_eq_true_eq] at hi
    obtain ⟨ho, rfl⟩ := hi
    cases zeq_ok ho
    obtain ⟨v, rs, rfl, hi2, rfl⟩ := zvSt0 (show zsSt 0 _ ls st σ = some x from hx)
    refine lv_istore_n hX hb hd rfl hlh.2 (by rw [← hlh.1]; exact hi2) rfl (fun lsB hB => ?_)
    exact K rest (pc + 1) (zset1 ls _ (.int v)) rs σ ad ks H locs cells slots lsB hr hc hS hE (zlh_set1 hlh hB) (zlk_set1 hlk trivial) (zsk_tl hsk) hn hz
  case lstore w =>
    simp only [zci, Bool.and_eq_true, decide_eq_true_eq] at hi
    obtain ⟨ho, rfl⟩ := hi
    cases zeq_ok ho
    obtain ⟨v, rs, rfl, hi2, rfl⟩ := zvSt1 (show zsSt 1 _ ls st σ = some x from hx)
    refine lv_lstore hX hb hd hlh.2 (by rw [← hlh.1]; exact hi2) rfl (fun lsB hB => ?_)
    exact K rest (pc + 2) (zset2 ls _ (.long v)) rs σ ad ks H locs cells slots lsB hr hc hS hE (zlh_set2 hlh hB) (zlk_set2 hlk trivial) (zsk_tl hsk) hn hz
  case lstore_n w =>
    simp only [zci, Bool.and_eq_true, decide_eq_true_eq] at hi
    obtain ⟨ho, rfl⟩ := hi
    cases zeq_ok ho
    obtain ⟨v, rs, rfl, hi2, rfl⟩ := zvSt1 (show zsSt 1 _ ls st σ = some x from hx)
    refine lv_lstore_n hX hb hd rfl hlh.2 (by rw [← hlh.1]; exact hi2) rfl (fun lsB hB => ?_)
    exact K rest (pc + 1) (zset2 ls _ (.long v)) rs σ ad ks H locs cells slots lsB hr hc hS hE (zlh_set2 hlh hB) (zlk_set2 hlk trivial) (zsk_tl hsk) hn hz
  case astore w =>
    simp only [zci, Bool.and_eq_true, decide_eq_true_eq] at hi
    obtain ⟨ho, rfl⟩ := hi
    cases zeq_ok ho
    rcases zvSt2 (show zsSt 2 _ ls st σ = some x from hx) with ⟨v, rs, rfl, hi2, rfl⟩ | ⟨rs, rfl, hi2, rfl⟩
    · refine lv_astore hX hb hd hlh.2 (by rw [← hlh.1]; exact hi2) rfl (fun lsB hB => ?_)
      exact K rest (pc + 2) (zset1 ls _ (.ref v)) rs σ ad ks H locs cells slots lsB hr hc hS hE (zlh_set1 hlh hB) (zlk_set1 hlk (zsk_hd hsk)) (zsk_tl hsk) hn hz
    · refine lv_astoreN hX hb hd hlh.2 (by rw [← hlh.1]; exact hi2) rfl (fun lsB hB => ?_)
      exact K rest (pc + 2) (zset1 ls _ .null) rs σ ad ks H locs cells slots lsB hr hc hS hE (zlh_set1 hlh hB) (zlk_set1 hlk trivial) (zsk_tl hsk) hn hz
  case astore_n w =>
    simp only [zci, Bool.and_eq_true, decide_eq_true_eq] at hi
    obtain ⟨ho, rfl⟩ := hi
    cases zeq_ok ho
    rcases zvSt2 (show zsSt 2 _ ls st σ = some x from hx) with ⟨v, rs, rfl, hi2, rfl⟩ | ⟨rs, rfl, hi2, rfl⟩
    · refine lv_astore_n hX hb hd rfl hlh.2 (by rw [← hlh.1]; exact hi2) rfl (fun lsB hB => ?_)
      exact K rest (pc + 1) (zset1 ls _ (.ref v)) rs σ ad ks H locs cells slots lsB hr hc hS hE (zlh_set1 hlh hB) (zlk_set1 hlk (zsk_hd hsk)) (zsk_tl hsk) hn hz
    · refine lv_astore_nN hX hb hd rfl hlh.2 (by rw [← hlh.1]; exact hi2) rfl (fun lsB hB => ?_)
      exact K rest (pc + 1) (zset1 ls _ .null) rs σ ad ks H locs cells slots lsB hr hc hS hE (zlh_set1 hlh hB) (zlk_set1 hlk trivial) (zsk_tl hsk) hn hz
  case iconst w =>
    simp only [zci, Bool.and_eq_true, decide_eq_true_eq] at hi
    obtain ⟨ho, rfl⟩ := hi
    cases zeq_ok ho
    cases hx
    refine lv_iconst (v := Int32.ofInt w) hX hb hd rfl ?_
    exact K rest (pc + 1) ls (.int (Int32.ofInt w) :: st) σ ad ks H locs cells slots lsA hr hc hS hE hlh hlk (zsk_cons trivial hsk) hn hz
  case bipush w =>
    simp only [zci, Bool.and_eq_true, decide_eq_true_eq] at hi
    obtain ⟨ho, rfl⟩ := hi
    cases zeq_ok ho
    cases hx
    refine lv_bipush (v := (Int8.ofInt w).toInt32) hX hb hd rfl ?_
    exact K rest (pc + 2) ls (.int (Int8.ofInt w).toInt32 :: st) σ ad ks H locs cells slots lsA hr hc hS hE hlh hlk (zsk_cons trivial hsk) hn hz
  case sipush w =>
    simp only [zci, Bool.and_eq_true, decide_eq_true_eq] at hi
    obtain ⟨ho, rfl⟩ := hi
    cases zeq_ok ho
    cases hx
    refine lv_sipush (v := (Int16.ofInt w).toInt32) hX hb hd rfl ?_
    exact K rest (pc + 3) ls (.int (Int16.ofInt w).toInt32 :: st) σ ad ks H locs cells slots lsA hr hc hS hE hlh hlk (zsk_cons trivial hsk) hn hz
  case lconst w =>
    simp only [zci, Bool.and_eq_true, decide_eq_true_eq] at hi
    obtain ⟨ho, rfl⟩ := hi
    cases zeq_ok ho
    cases hx
    refine lv_lconst (v := Int64.ofNat w.val) hX hb hd rfl ?_
    exact K rest (pc + 1) ls (.long (Int64.ofNat w.val) :: st) σ ad ks H locs cells slots lsA hr hc hS hE hlh hlk (zsk_cons trivial hsk) hn hz
  case aconst_null =>
    simp only [zci, Bool.and_eq_true, decide_eq_true_eq] at hi
    obtain ⟨ho, rfl⟩ := hi
    cases zeq_ok ho
    cases hx
    refine lv_null hX hb hd ?_
    exact K rest (pc + 1) ls (.null :: st) σ ad ks H locs cells slots lsA hr hc hS hE hlh hlk (zsk_cons trivial hsk) hn hz
  case ldc idx =>
    simp only [zci, List.any_eq_true, Bool.and_eq_true, decide_eq_true_eq] at hi
    obtain ⟨e9, he9, ⟨⟨h1, h2⟩, ho⟩, rfl⟩ := hi
    have hw := zwd_ok (List.all_eq_true.mp zCI_ok e9 he9)
    try dsimp only at hw
    rw [h1, h2] at hw
    cases zeq_ok ho
    cases hx
    refine lv_ldc hX hb hown (hts _ hw) hd ?_
    exact K rest (pc + 2) ls (.int e9.2.2.1 :: st) σ ad ks H locs cells slots lsA hr hc hS hE hlh hlk (zsk_cons trivial hsk) hn hz
  case ldc_w idx =>
    simp only [zci, List.any_eq_true, Bool.and_eq_true, decide_eq_true_eq] at hi
    obtain ⟨e9, he9, ⟨⟨h1, h2⟩, ho⟩, rfl⟩ := hi
    have hw := zwd_ok (List.all_eq_true.mp zCI_ok e9 he9)
    try dsimp only at hw
    rw [h1, h2] at hw
    cases zeq_ok ho
    cases hx
    refine lv_ldcw hX hb hown (hts _ hw) hd ?_
    exact K rest (pc + 3) ls (.int e9.2.2.1 :: st) σ ad ks H locs cells slots lsA hr hc hS hE hlh hlk (zsk_cons trivial hsk) hn hz
  case ldc2_w idx =>
    simp only [zci, List.any_eq_true, Bool.and_eq_true, decide_eq_true_eq] at hi
    obtain ⟨e9, he9, ⟨⟨h1, h2⟩, ho⟩, rfl⟩ := hi
    have hw := zwd_ok (List.all_eq_true.mp zCL_ok e9 he9)
    try dsimp only at hw
    rw [h1, h2] at hw
    cases zeq_ok ho
    cases hx
    refine lv_ldc2 hX hb hown (hts _ hw) hd ?_
    exact K rest (pc + 3) ls (.long e9.2.2.1 :: st) σ ad ks H locs cells slots lsA hr hc hS hE hlh hlk (zsk_cons trivial hsk) hn hz
  case iinc w1 w2 =>
    simp only [zci, Bool.and_eq_true, decide_eq_true_eq] at hi
    obtain ⟨ho, rfl⟩ := hi
    cases zeq_ok ho
    obtain ⟨v, hv, hi2, rfl⟩ := zvInc (show zsInc _ _ ls st σ = some x from hx)
    obtain ⟨j, hj⟩ := List.getElem?_of_mem (zlv_mem (ad := ad) (ro := ro).mpr ⟨_, hv, rfl⟩)
    refine lv_iinc (v := v + Int32.ofInt w2) hX hb hd hlh.2 hj rfl (by rw [← hlh.1]; exact hi2) rfl (fun lsB hB => ?_)
    exact K rest (pc + 3) (zset1 ls _ (.int (v + Int32.ofInt w2))) st σ ad ks H locs cells slots lsB hr hc hS hE (zlh_set1 hlh hB) (zlk_set1 hlk trivial) hsk hn hz
  case iadd =>
    simp only [zci, Bool.and_eq_true, decide_eq_true_eq] at hi
    obtain ⟨ho, rfl⟩ := hi
    cases zeq_ok ho
    obtain ⟨a, b, rs, v, rfl, hv, rfl⟩ := zvBI (k := 0) (show zsBI 0 ls st σ = some x from hx)
    cases hv
    refine lv_iadd hX hb hd ?_
    exact K rest (pc + 1) ls (.int (a + b) :: rs) σ ad ks H locs cells slots lsA hr hc hS hE hlh hlk (zsk_cons trivial (zsk_tl (zsk_tl hsk))) hn hz
  case isub =>
    simp only [zci, Bool.and_eq_true, decide_eq_true_eq] at hi
    obtain ⟨ho, rfl⟩ := hi
    cases zeq_ok ho
    obtain ⟨a, b, rs, v, rfl, hv, rfl⟩ := zvBI (k := 1) (show zsBI 1 ls st σ = some x from hx)
    cases hv
    refine lv_isub hX hb hd ?_
    exact K rest (pc + 1) ls (.int (a - b) :: rs) σ ad ks H locs cells slots lsA hr hc hS hE hlh hlk (zsk_cons trivial (zsk_tl (zsk_tl hsk))) hn hz
  case imul =>
    simp only [zci, Bool.and_eq_true, decide_eq_true_eq] at hi
    obtain ⟨ho, rfl⟩ := hi
    cases zeq_ok ho
    obtain ⟨a, b, rs, v, rfl, hv, rfl⟩ := zvBI (k := 2) (show zsBI 2 ls st σ = some x from hx)
    cases hv
    refine lv_imul hX hb hd ?_
    exact K rest (pc + 1) ls (.int (a * b) :: rs) σ ad ks H locs cells slots lsA hr hc hS hE hlh hlk (zsk_cons trivial (zsk_tl (zsk_tl hsk))) hn hz
  case iand =>
    simp only [zci, Bool.and_eq_true, decide_eq_true_eq] at hi
    obtain ⟨ho, rfl⟩ := hi
    cases zeq_ok ho
    obtain ⟨a, b, rs, v, rfl, hv, rfl⟩ := zvBI (k := 3) (show zsBI 3 ls st σ = some x from hx)
    cases hv
    refine lv_iand hX hb hd ?_
    exact K rest (pc + 1) ls (.int (a &&& b) :: rs) σ ad ks H locs cells slots lsA hr hc hS hE hlh hlk (zsk_cons trivial (zsk_tl (zsk_tl hsk))) hn hz
  case ixor =>
    simp only [zci, Bool.and_eq_true, decide_eq_true_eq] at hi
    obtain ⟨ho, rfl⟩ := hi
    cases zeq_ok ho
    obtain ⟨a, b, rs, v, rfl, hv, rfl⟩ := zvBI (k := 4) (show zsBI 4 ls st σ = some x from hx)
    cases hv
    refine lv_ixor hX hb hd ?_
    exact K rest (pc + 1) ls (.int (a ^^^ b) :: rs) σ ad ks H locs cells slots lsA hr hc hS hE hlh hlk (zsk_cons trivial (zsk_tl (zsk_tl hsk))) hn hz
  case ishl =>
    simp only [zci, Bool.and_eq_true, decide_eq_true_eq] at hi
    obtain ⟨ho, rfl⟩ := hi
    cases zeq_ok ho
    obtain ⟨a, b, rs, v, rfl, hv, rfl⟩ := zvBI (k := 5) (show zsBI 5 ls st σ = some x from hx)
    cases hv
    refine lv_ishl hX hb hd ?_
    exact K rest (pc + 1) ls (.int (a <<< (b &&& 31)) :: rs) σ ad ks H locs cells slots lsA hr hc hS hE hlh hlk (zsk_cons trivial (zsk_tl (zsk_tl hsk))) hn hz
  case ishr =>
    simp only [zci, Bool.and_eq_true, decide_eq_true_eq] at hi
    obtain ⟨ho, rfl⟩ := hi
    cases zeq_ok ho
    obtain ⟨a, b, rs, v, rfl, hv, rfl⟩ := zvBI (k := 6) (show zsBI 6 ls st σ = some x from hx)
    cases hv
    refine lv_ishr hX hb hd ?_
    exact K rest (pc + 1) ls (.int (a >>> (b &&& 31)) :: rs) σ ad ks H locs cells slots lsA hr hc hS hE hlh hlk (zsk_cons trivial (zsk_tl (zsk_tl hsk))) hn hz
  case idiv =>
    simp only [zci, Bool.and_eq_true, decide_eq_true_eq] at hi
    obtain ⟨ho, rfl⟩ := hi
    cases zeq_ok ho
    obtain ⟨a, b, rs, v, rfl, hv, rfl⟩ := zvBI (k := 7) (show zsBI 7 ls st σ = some x from hx)
    simp only [zxBI] at hv
    split at hv
    · cases hv
    · rename_i h0
      cases hv
      refine lv_idiv hX hb hd h0 ?_
      exact K rest (pc + 1) ls (.int (a / b) :: rs) σ ad ks H locs cells slots lsA hr hc hS hE hlh hlk (zsk_cons trivial (zsk_tl (zsk_tl hsk))) hn hz
  case irem =>
    simp only [zci, Bool.and_eq_true, decide_eq_true_eq] at hi
    obtain ⟨ho, rfl⟩ := hi
    cases zeq_ok ho
    obtain ⟨a, b, rs, v, rfl, hv, rfl⟩ := zvBI (k := 8) (show zsBI 8 ls st σ = some x from hx)
    simp only [zxBI] at hv
    split at hv
    · cases hv
    · rename_i h0
      cases hv
      refine lv_irem hX hb hd h0 ?_
      exact K rest (pc + 1) ls (.int (a - a / b * b) :: rs) σ ad ks H locs cells slots lsA hr hc hS hE hlh hlk (zsk_cons trivial (zsk_tl (zsk_tl hsk))) hn hz
  case ladd =>
    simp only [zci, Bool.and_eq_true, decide_eq_true_eq] at hi
    obtain ⟨ho, rfl⟩ := hi
    cases zeq_ok ho
    obtain ⟨a, b, rs, v, rfl, hv, rfl⟩ := zvBL (k := 0) (show zsBL 0 ls st σ = some x from hx)
    cases hv
    refine lv_ladd hX hb hd ?_
    exact K rest (pc + 1) ls (.long (a + b) :: rs) σ ad ks H locs cells slots lsA hr hc hS hE hlh hlk (zsk_cons trivial (zsk_tl (zsk_tl hsk))) hn hz
  case lsub =>
    simp only [zci, Bool.and_eq_true, decide_eq_true_eq] at hi
    obtain ⟨ho, rfl⟩ := hi
    cases zeq_ok ho
    obtain ⟨a, b, rs, v, rfl, hv, rfl⟩ := zvBL (k := 1) (show zsBL 1 ls st σ = some x from hx)
    cases hv
    refine lv_lsub hX hb hd ?_
    exact K rest (pc + 1) ls (.long (a - b) :: rs) σ ad ks H locs cells slots lsA hr hc hS hE hlh hlk (zsk_cons trivial (zsk_tl (zsk_tl hsk))) hn hz
  case lmul =>
    simp only [zci, Bool.and_eq_true, decide_eq_true_eq] at hi
    obtain ⟨ho, rfl⟩ := hi
    cases zeq_ok ho
    obtain ⟨a, b, rs, v, rfl, hv, rfl⟩ := zvBL (k := 2) (show zsBL 2 ls st σ = some x from hx)
    cases hv
    refine lv_lmul hX hb hd ?_
    exact K rest (pc + 1) ls (.long (a * b) :: rs) σ ad ks H locs cells slots lsA hr hc hS hE hlh hlk (zsk_cons trivial (zsk_tl (zsk_tl hsk))) hn hz
  case land =>
    simp only [zci, Bool.and_eq_true, decide_eq_true_eq] at hi
    obtain ⟨ho, rfl⟩ := hi
    cases zeq_ok ho
    obtain ⟨a, b, rs, v, rfl, hv, rfl⟩ := zvBL (k := 3) (show zsBL 3 ls st σ = some x from hx)
    cases hv
    refine lv_land hX hb hd ?_
    exact K rest (pc + 1) ls (.long (a &&& b) :: rs) σ ad ks H locs cells slots lsA hr hc hS hE hlh hlk (zsk_cons trivial (zsk_tl (zsk_tl hsk))) hn hz
  case lor =>
    simp only [zci, Bool.and_eq_true, decide_eq_true_eq] at hi
    obtain ⟨ho, rfl⟩ := hi
    cases zeq_ok ho
    obtain ⟨a, b, rs, v, rfl, hv, rfl⟩ := zvBL (k := 4) (show zsBL 4 ls st σ = some x from hx)
    cases hv
    refine lv_lor hX hb hd ?_
    exact K rest (pc + 1) ls (.long (a ||| b) :: rs) σ ad ks H locs cells slots lsA hr hc hS hE hlh hlk (zsk_cons trivial (zsk_tl (zsk_tl hsk))) hn hz
  case lxor =>
    simp only [zci, Bool.and_eq_true, decide_eq_true_eq] at hi
    obtain ⟨ho, rfl⟩ := hi
    cases zeq_ok ho
    obtain ⟨a, b, rs, v, rfl, hv, rfl⟩ := zvBL (k := 5) (show zsBL 5 ls st σ = some x from hx)
    cases hv
    refine lv_lxor hX hb hd ?_
    exact K rest (pc + 1) ls (.long (a ^^^ b) :: rs) σ ad ks H locs cells slots lsA hr hc hS hE hlh hlk (zsk_cons trivial (zsk_tl (zsk_tl hsk))) hn hz
  case ldiv =>
    simp only [zci, Bool.and_eq_true, decide_eq_true_eq] at hi
    obtain ⟨ho, rfl⟩ := hi
    cases zeq_ok ho
    obtain ⟨a, b, rs, v, rfl, hv, rfl⟩ := zvBL (k := 6) (show zsBL 6 ls st σ = some x from hx)
    simp only [zxBL] at hv
    split at hv
    · cases hv
    · rename_i h0
      cases hv
      refine lv_ldiv hX hb hd h0 ?_
      exact K rest (pc + 1) ls (.long (a / b) :: rs) σ ad ks H locs cells slots lsA hr hc hS hE hlh hlk (zsk_cons trivial (zsk_tl (zsk_tl hsk))) hn hz
  case lrem =>
    simp only [zci, Bool.and_eq_true, decide_eq_true_eq] at hi
    obtain ⟨ho, rfl⟩ := hi
    cases zeq_ok ho
    obtain ⟨a, b, rs, v, rfl, hv, rfl⟩ := zvBL (k := 7) (show zsBL 7 ls st σ = some x from hx)
    simp only [zxBL] at hv
    split at hv
    · cases hv
    · rename_i h0
      cases hv
      refine lv_lrem hX hb hd h0 ?_
      exact K rest (pc + 1) ls (.long (a - a / b * b) :: rs) σ ad ks H locs cells slots lsA hr hc hS hE hlh hlk (zsk_cons trivial (zsk_tl (zsk_tl hsk))) hn hz
  case lshl =>
    simp only [zci, Bool.and_eq_true, decide_eq_true_eq] at hi
    obtain ⟨ho, rfl⟩ := hi
    cases zeq_ok ho
    obtain ⟨a, b, rs, v, rfl, hv, rfl⟩ := zvSL (k := 0) (show zsSL 0 ls st σ = some x from hx)
    cases hv
    refine lv_lshl hX hb hd rfl ?_
    exact K rest (pc + 1) ls (.long (a <<< (b.toInt64 &&& 63)) :: rs) σ ad ks H locs cells slots lsA hr hc hS hE hlh hlk (zsk_cons trivial (zsk_tl (zsk_tl hsk))) hn hz
  case lshr =>
    simp only [zci, Bool.and_eq_true, decide_eq_true_eq] at hi
    obtain ⟨ho, rfl⟩ := hi
    cases zeq_ok ho
    obtain ⟨a, b, rs, v, rfl, hv, rfl⟩ := zvSL (k := 1) (show zsSL 1 ls st σ = some x from hx)
    cases hv
    refine lv_lshr hX hb hd rfl ?_
    exact K rest (pc + 1) ls (.long (a >>> (b.toInt64 &&& 63)) :: rs) σ ad ks H locs cells slots lsA hr hc hS hE hlh hlk (zsk_cons trivial (zsk_tl (zsk_tl hsk))) hn hz
  case lushr =>
    simp only [zci, Bool.and_eq_true, decide_eq_true_eq] at hi
    obtain ⟨ho, rfl⟩ := hi
    cases zeq_ok ho
    obtain ⟨a, b, rs, v, rfl, hv, rfl⟩ := zvSL (k := 2) (show zsSL 2 ls st σ = some x from hx)
    cases hv
    refine lv_lushr hX hb hd rfl ?_
    exact K rest (pc + 1) ls (.long ((a.toUInt64 >>> (b.toInt64.toUInt64 &&& Int64.toUInt64 63)).toInt64) :: rs) σ ad ks H locs cells slots lsA hr hc hS hE hlh hlk (zsk_cons trivial (zsk_tl (zsk_tl hsk))) hn hz
  case ineg =>
    simp only [zci, Bool.and_eq_true, decide_eq_true_eq] at hi
    obtain ⟨ho, rfl⟩ := hi
    cases zeq_ok ho
    obtain ⟨v, rs, w, rfl, hv, rfl⟩ := zvUn (k := 0) (show zsUn 0 ls st σ = some x from hx)
    obtain ⟨a, rfl, rfl⟩ := zvU0 hv
    refine lv_ineg hX hb hd ?_
    exact K rest (pc + 1) ls (.int (-a) :: rs) σ ad ks H locs cells slots lsA hr hc hS hE hlh hlk (zsk_cons trivial (zsk_tl hsk)) hn hz
  case i2l =>
    simp only [zci, Bool.and_eq_true, decide_eq_true_eq] at hi
    obtain ⟨ho, rfl⟩ := hi
    cases zeq_ok ho
    obtain ⟨v, rs, w, rfl, hv, rfl⟩ := zvUn (k := 1) (show zsUn 1 ls st σ = some x from hx)
    obtain ⟨a, rfl, rfl⟩ := zvU1 hv
    refine lv_i2l hX hb hd rfl ?_
    exact K rest (pc + 1) ls (.long (a.toInt64) :: rs) σ ad ks H locs cells slots lsA hr hc hS hE hlh hlk (zsk_cons trivial (zsk_tl hsk)) hn hz
  case l2i =>
    simp only [zci, Bool.and_eq_true, decide_eq_true_eq] at hi
    obtain ⟨ho, rfl⟩ := hi
    cases zeq_ok ho
    obtain ⟨v, rs, w, rfl, hv, rfl⟩ := zvUn (k := 2) (show zsUn 2 ls st σ = some x from hx)
    obtain ⟨a, rfl, rfl⟩ := zvU2 hv
    refine lv_l2i hX hb hd rfl ?_
    exact K rest (pc + 1) ls (.int (a.toInt32) :: rs) σ ad ks H locs cells slots lsA hr hc hS hE hlh hlk (zsk_cons trivial (zsk_tl hsk)) hn hz
  case i2b =>
    simp only [zci, Bool.and_eq_true, decide_eq_true_eq] at hi
    obtain ⟨ho, rfl⟩ := hi
    cases zeq_ok ho
    obtain ⟨v, rs, w, rfl, hv, rfl⟩ := zvUn (k := 3) (show zsUn 3 ls st σ = some x from hx)
    obtain ⟨a, rfl, rfl⟩ := zvU3 hv
    refine lv_i2b hX hb hd rfl ?_
    exact K rest (pc + 1) ls (.int (a.toInt8.toInt32) :: rs) σ ad ks H locs cells slots lsA hr hc hS hE hlh hlk (zsk_cons trivial (zsk_tl hsk)) hn hz
  case lcmp =>
    simp only [zci, Bool.and_eq_true, decide_eq_true_eq] at hi
    obtain ⟨ho, rfl⟩ := hi
    cases zeq_ok ho
    obtain ⟨a, b, rs, rfl, rfl⟩ := zvCmp (show zsCmp ls st σ = some x from hx)
    refine W.lcmp hX hb hd ?_
    exact K rest (pc + 1) ls (.int (lg_cmp a b) :: rs) σ ad ks H locs cells slots lsA hr hc hS hE hlh hlk (zsk_cons trivial (zsk_tl (zsk_tl hsk))) hn hz
  case dup =>
    simp only [zci, Bool.and_eq_true, decide_eq_true_eq] at hi
    obtain ⟨ho, rfl⟩ := hi
    cases zeq_ok ho
    obtain ⟨v, rs, rfl, hv, rfl⟩ := zvDup (show zsDup ls st σ = some x from hx)
    refine lv_dup hX hb hd (by rw [zv_cat]; exact hv) ?_
    exact K rest (pc + 1) ls (v :: v :: rs) σ ad ks H locs cells slots lsA hr hc hS hE hlh hlk (zsk_cons (zsk_hd hsk) hsk) hn hz
  case dup2 =>
    simp only [zci, Bool.and_eq_true, decide_eq_true_eq] at hi
    obtain ⟨ho, rfl⟩ := hi
    cases zeq_ok ho
    rcases zvDup2 (show zsDup2 ls st σ = some x from hx) with ⟨v, rs, rfl, hv, rfl⟩ | ⟨v, w, rs, rfl, hv, hw, rfl⟩
    · refine lv_dup2_2 hX hb hd (by rw [zv_cat]; exact hv) ?_
      exact K rest (pc + 1) ls (v :: v :: rs) σ ad ks H locs cells slots lsA hr hc hS hE hlh hlk (zsk_cons (zsk_hd hsk) hsk) hn hz
    · refine lv_dup2_11 hX hb hd (by rw [zv_cat]; exact hv) (by rw [zv_cat]; exact hw) ?_
      exact K rest (pc + 1) ls (v :: w :: v :: w :: rs) σ ad ks H locs cells slots lsA hr hc hS hE hlh hlk (zsk_cons (zsk_hd hsk) (zsk_cons (zsk_hd (zsk_tl hsk)) hsk)) hn hz
  case pop =>
    simp only [zci, Bool.and_eq_true, decide_eq_true_eq] at hi
    obtain ⟨ho, rfl⟩ := hi
    cases zeq_ok ho
    obtain ⟨v, rs, rfl, hv, rfl⟩ := zvPop (show zsPop ls st σ = some x from hx)
    refine lv_pop hX hb hd (by rw [zv_cat]; exact hv) ?_
    exact K rest (pc + 1) ls rs σ ad ks H locs cells slots lsA hr hc hS hE hlh hlk (zsk_tl hsk) hn hz
  case pop2 =>
    simp only [zci, Bool.and_eq_true, decide_eq_true_eq] at hi
    obtain ⟨ho, rfl⟩ := hi
    cases zeq_ok ho
    obtain ⟨v, rs, rfl, hv, rfl⟩ := zvPop2 (show zsPop2 ls st σ = some x from hx)
    refine lv_pop2_2 hX hb hd (by rw [zv_cat]; exact hv) ?_
    exact K rest (pc + 1) ls rs σ ad ks H locs cells slots lsA hr hc hS hE hlh hlk (zsk_tl hsk) hn hz
  case ifCond cnd off =>
    simp only [zci, Bool.and_eq_true, decide_eq_true_eq] at hi
    obtain ⟨⟨ho, rfl⟩, hj⟩ := hi
    generalize o.2.2.1 = b at ho hj
    cases zeq_ok ho
    obtain ⟨hj1, hjb⟩ := zjmp_of hj
    obtain ⟨v, rs, rfl, hv⟩ := zvIf (show zsIf _ b ls st σ = some x from hx)
    cases cnd
    · rcases hv with ⟨hv, rfl⟩ | ⟨hv, rfl⟩
      · refine lv_if_eq hX hb hd hj1 (fun _ => ?_) (fun h9 => absurd hv h9)
        exact K ((zGG q).1 b) (zbp q b) ls rs σ ad ks H locs cells slots lsA hr (zck_at hq hjb) hS hE hlh hlk (zsk_tl hsk) hn hz
      · refine lv_if_eq hX hb hd hj1 (fun h9 => absurd h9 hv) (fun _ => ?_)
        exact K rest (pc + 3) ls rs σ ad ks H locs cells slots lsA hr hc hS hE hlh hlk (zsk_tl hsk) hn hz
    · rcases hv with ⟨hv, rfl⟩ | ⟨hv, rfl⟩
      · refine lv_if_ne hX hb hd hj1 (fun _ => ?_) (fun h9 => absurd h9 hv)
        exact K ((zGG q).1 b) (zbp q b) ls rs σ ad ks H locs cells slots lsA hr (zck_at hq hjb) hS hE hlh hlk (zsk_tl hsk) hn hz
      · refine lv_if_ne hX hb hd hj1 (fun h9 => absurd h9 hv) (fun _ => ?_)
        exact K rest (pc + 3) ls rs σ ad ks H locs cells slots lsA hr hc hS hE hlh hlk (zsk_tl hsk) hn hz
    · rcases hv with ⟨hv, rfl⟩ | ⟨hv, rfl⟩
      · refine lv_if_lt hX hb hd hj1 (fun _ => ?_) (fun h9 => absurd hv h9)
        exact K ((zGG q).1 b) (zbp q b) ls rs σ ad ks H locs cells slots lsA hr (zck_at hq hjb) hS hE hlh hlk (zsk_tl hsk) hn hz
      · refine lv_if_lt hX hb hd hj1 (fun h9 => absurd h9 hv) (fun _ => ?_)
        exact K rest (pc + 3) ls rs σ ad ks H locs cells slots lsA hr hc hS hE hlh hlk (zsk_tl hsk) hn hz
    · rcases hv with ⟨hv, rfl⟩ | ⟨hv, rfl⟩
      · refine lv_if_ge hX hb hd hj1 (fun _ => ?_) (fun h9 => absurd hv h9)
        exact K ((zGG q).1 b) (zbp q b) ls rs σ ad ks H locs cells slots lsA hr (zck_at hq hjb) hS hE hlh hlk (zsk_tl hsk) hn hz
      · refine lv_if_ge hX hb hd hj1 (fun h9 => absurd h9 hv) (fun _ => ?_)
        exact K rest (pc + 3) ls rs σ ad ks H locs cells slots lsA hr hc hS hE hlh hlk (zsk_tl hsk) hn hz
    · rcases hv with ⟨hv, rfl⟩ | ⟨hv, rfl⟩
      · refine lv_if_gt hX hb hd hj1 (fun _ => ?_) (fun h9 => absurd hv h9)
        exact K ((zGG q).1 b) (zbp q b) ls rs σ ad ks H locs cells slots lsA hr (zck_at hq hjb) hS hE hlh hlk (zsk_tl hsk) hn hz
      · refine lv_if_gt hX hb hd hj1 (fun h9 => absurd h9 hv) (fun _ => ?_)
        exact K rest (pc + 3) ls rs σ ad ks H locs cells slots lsA hr hc hS hE hlh hlk (zsk_tl hsk) hn hz
    · rcases hv with ⟨hv, rfl⟩ | ⟨hv, rfl⟩
      · refine lv_if_le hX hb hd hj1 (fun _ => ?_) (fun h9 => absurd hv h9)
        exact K ((zGG q).1 b) (zbp q b) ls rs σ ad ks H locs cells slots lsA hr (zck_at hq hjb) hS hE hlh hlk (zsk_tl hsk) hn hz
      · refine lv_if_le hX hb hd hj1 (fun h9 => absurd h9 hv) (fun _ => ?_)
        exact K rest (pc + 3) ls rs σ ad ks H locs cells slots lsA hr hc hS hE hlh hlk (zsk_tl hsk) hn hz
  case if_icmp cnd off =>
    simp only [zci, Bool.and_eq_true, decide_eq_true_eq] at hi
    obtain ⟨⟨ho, rfl⟩, hj⟩ := hi
    generalize o.2.2.1 = b at ho hj
    cases zeq_ok ho
    obtain ⟨hj1, hjb⟩ := zjmp_of hj
    obtain ⟨u, v, rs, rfl, hv⟩ := zvIc (show zsIc _ b ls st σ = some x from hx)
    cases cnd
    · rcases hv with ⟨hv, rfl⟩ | ⟨hv, rfl⟩
      · refine lv_icmp_eq hX hb hd hj1 (fun _ => ?_) (fun h9 => absurd hv h9)
        exact K ((zGG q).1 b) (zbp q b) ls rs σ ad ks H locs cells slots lsA hr (zck_at hq hjb) hS hE hlh hlk (zsk_tl (zsk_tl hsk)) hn hz
      · refine lv_icmp_eq hX hb hd hj1 (fun h9 => absurd h9 hv) (fun _ => ?_)
        exact K rest (pc + 3) ls rs σ ad ks H locs cells slots lsA hr hc hS hE hlh hlk (zsk_tl (zsk_tl hsk)) hn hz
    · rcases hv with ⟨hv, rfl⟩ | ⟨hv, rfl⟩
      · refine lv_icmp_ne hX hb hd hj1 (fun _ => ?_) (fun h9 => absurd h9 hv)
        exact K ((zGG q).1 b) (zbp q b) ls rs σ ad ks H locs cells slots lsA hr (zck_at hq hjb) hS hE hlh hlk (zsk_tl (zsk_tl hsk)) hn hz
      · refine lv_icmp_ne hX hb hd hj1 (fun h9 => absurd h9 hv) (fun _ => ?_)
        exact K rest (pc + 3) ls rs σ ad ks H locs cells slots lsA hr hc hS hE hlh hlk (zsk_tl (zsk_tl hsk)) hn hz
    · rcases hv with ⟨hv, rfl⟩ | ⟨hv, rfl⟩
      · refine lv_icmp_lt hX hb hd hj1 (fun _ => ?_) (fun h9 => absurd hv h9)
        exact K ((zGG q).1 b) (zbp q b) ls rs σ ad ks H locs cells slots lsA hr (zck_at hq hjb) hS hE hlh hlk (zsk_tl (zsk_tl hsk)) hn hz
      · refine lv_icmp_lt hX hb hd hj1 (fun h9 => absurd h9 hv) (fun _ => ?_)
        exact K rest (pc + 3) ls rs σ ad ks H locs cells slots lsA hr hc hS hE hlh hlk (zsk_tl (zsk_tl hsk)) hn hz
    · rcases hv with ⟨hv, rfl⟩ | ⟨hv, rfl⟩
      · refine lv_icmp_ge hX hb hd hj1 (fun _ => ?_) (fun h9 => absurd hv h9)
        exact K ((zGG q).1 b) (zbp q b) ls rs σ ad ks H locs cells slots lsA hr (zck_at hq hjb) hS hE hlh hlk (zsk_tl (zsk_tl hsk)) hn hz
      · refine lv_icmp_ge hX hb hd hj1 (fun h9 => absurd h9 hv) (fun _ => ?_)
        exact K rest (pc + 3) ls rs σ ad ks H locs cells slots lsA hr hc hS hE hlh hlk (zsk_tl (zsk_tl hsk)) hn hz
    · rcases hv with ⟨hv, rfl⟩ | ⟨hv, rfl⟩
      · refine lv_icmp_gt hX hb hd hj1 (fun _ => ?_) (fun h9 => absurd hv h9)
        exact K ((zGG q).1 b) (zbp q b) ls rs σ ad ks H locs cells slots lsA hr (zck_at hq hjb) hS hE hlh hlk (zsk_tl (zsk_tl hsk)) hn hz
      · refine lv_icmp_gt hX hb hd hj1 (fun h9 => absurd h9 hv) (fun _ => ?_)
        exact K rest (pc + 3) ls rs σ ad ks H locs cells slots lsA hr hc hS hE hlh hlk (zsk_tl (zsk_tl hsk)) hn hz
    · rcases hv with ⟨hv, rfl⟩ | ⟨hv, rfl⟩
      · refine lv_icmp_le hX hb hd hj1 (fun _ => ?_) (fun h9 => absurd hv h9)
        exact K ((zGG q).1 b) (zbp q b) ls rs σ ad ks H locs cells slots lsA hr (zck_at hq hjb) hS hE hlh hlk (zsk_tl (zsk_tl hsk)) hn hz
      · refine lv_icmp_le hX hb hd hj1 (fun h9 => absurd h9 hv) (fun _ => ?_)
        exact K rest (pc + 3) ls rs σ ad ks H locs cells slots lsA hr hc hS hE hlh hlk (zsk_tl (zsk_tl hsk)) hn hz
  case goto off =>
    simp only [zci, Bool.and_eq_true, decide_eq_true_eq] at hi
    obtain ⟨⟨ho, rfl⟩, hj⟩ := hi
    generalize o.2.1 = b at ho hj
    cases zeq_ok ho
    obtain ⟨hj1, hjb⟩ := zjmp_of hj
    cases hx
    refine lv_goto hX hb hd hj1 ?_
    exact K ((zGG q).1 b) (zbp q b) ls st σ ad ks H locs cells slots lsA hr (zck_at hq hjb) hS hE hlh hlk hsk hn hz
  case ifnull off =>
    simp only [zci, Bool.and_eq_true, decide_eq_true_eq] at hi
    obtain ⟨⟨ho, rfl⟩, hj⟩ := hi
    generalize o.2.1 = b at ho hj
    cases zeq_ok ho
    obtain ⟨hj1, hjb⟩ := zjmp_of hj
    rcases zvJn (show zsJn (b + 1) 0 ls st σ = some x from hx) with ⟨rs, rfl, rfl⟩ | ⟨a, rs, rfl, rfl⟩
    · refine lv_ifnullN hX hb hd hj1 ?_
      exact K ((zGG q).1 b) (zbp q b) ls rs σ ad ks H locs cells slots lsA hr (zck_at hq hjb) hS hE hlh hlk (zsk_tl hsk) hn hz
    · refine lv_ifnull hX hb hd ?_
      exact K rest (pc + 3) ls rs σ ad ks H locs cells slots lsA hr hc hS hE hlh hlk (zsk_tl hsk) hn hz
  case ifnonnull off =>
    simp only [zci, Bool.and_eq_true, decide_eq_true_eq] at hi
    obtain ⟨⟨ho, rfl⟩, hj⟩ := hi
    generalize o.2.1 = b at ho hj
    cases zeq_ok ho
    obtain ⟨hj1, hjb⟩ := zjmp_of hj
    rcases zvJn (show zsJn 0 (b + 1) ls st σ = some x from hx) with ⟨rs, rfl, rfl⟩ | ⟨a, rs, rfl, rfl⟩
    · refine lv_ifnonnullN hX hb hd ?_
      exact K rest (pc + 3) ls rs σ ad ks H locs cells slots lsA hr hc hS hE hlh hlk (zsk_tl hsk) hn hz
    · refine lv_ifnonnull hX hb hd hj1 ?_
      exact K ((zGG q).1 b) (zbp q b) ls rs σ ad ks H locs cells slots lsA hr (zck_at hq hjb) hS hE hlh hlk (zsk_tl hsk) hn hz
  case tableswitch d lo hi2 offs =>
    simp only [zci, Bool.and_eq_true, decide_eq_true_eq] at hi
    obtain ⟨⟨⟨⟨⟨ho, hlo2⟩, hhi⟩, hj⟩, hmap⟩, hall⟩ := hi
    generalize o.2.1 = b at ho hj
    generalize o.2.2.2.2.2.2.1 = bs at ho hhi hmap hall
    cases zeq_ok ho
    obtain ⟨hj1, hjb⟩ := zjmp_of hj
    obtain ⟨v, rs, rfl, ⟨hv, rfl⟩ | ⟨hv, b', hb', rfl⟩⟩ := zvTsw (show zsTsw b _ bs ls st σ = some x from hx)
    · rw [hlo2] at hv
      refine lv_tableOut hX hb hd (by omega) hj1 ?_
      exact K ((zGG q).1 b) (zbp q b) ls rs σ ad ks H locs cells slots lsA hr (zck_at hq hjb) hS hE hlh hlk (zsk_tl hsk) hn hz
    · rw [hlo2] at hv hb'
      have h2 : (offs.toList.map (fun f => (pc : Int) + f))[(v.toInt - lo).toNat]? = some (zbp q b' : Int) := by
        rw [hmap, List.getElem?_map, hb']
        rfl
      rw [List.getElem?_map] at h2
      cases h3 : offs.toList[(v.toInt - lo).toNat]? with
      | none => rw [h3] at h2; cases h2
      | some off =>
        rw [h3] at h2
        have h4 : (pc : Int) + off = (zbp q b' : Int) := Option.some.inj h2
        have hjb : b' < znb q := of_decide_eq_true (List.all_eq_true.mp hall b' (List.mem_of_getElem? hb'))
        refine lv_tableIn hX hb hd (by omega) (by omega) (by rw [← Array.getElem?_toList]; exact h3) h4 ?_
        exact K ((zGG q).1 b') (zbp q b') ls rs σ ad ks H locs cells slots lsA hr (zck_at hq hjb) hS hE hlh hlk (zsk_tl hsk) hn hz
  case lookupswitch d ps =>
    simp only [zci, Bool.and_eq_true, decide_eq_true_eq] at hi
    obtain ⟨⟨⟨⟨⟨ho, hj⟩, hmap⟩, hlen⟩, hinc⟩, hall⟩ := hi
    generalize o.2.1 = b at ho hj
    generalize o.2.2.2.2.2.2.1 = bs at ho hmap hlen hall
    generalize o.2.2.2.2.2.2.2 = kz at ho hmap hlen
    cases zeq_ok ho
    obtain ⟨hj1, hjb⟩ := zjmp_of hj
    obtain ⟨v, rs, rfl, hv⟩ := zvLsw (show zsLsw b kz bs ls st σ = some x from hx)
    have hoff := zlk_off (x := v.toInt) hj1 ps.toList kz bs hlen hmap
    rcases hv with ⟨b', hv, rfl⟩ | ⟨hv, rfl⟩
    · rw [hv] at hoff
      have hjb : b' < znb q := of_decide_eq_true (List.all_eq_true.mp hall b' (zxLk_mem _ _ hv))
      refine lv_lookup hX hb hd hinc rfl hoff ?_
      exact K ((zGG q).1 b') (zbp q b') ls rs σ ad ks H locs cells slots lsA hr (zck_at hq hjb) hS hE hlh hlk (zsk_tl hsk) hn hz
    · rw [hv] at hoff
      refine lv_lookup hX hb hd hinc rfl hoff ?_
      exact K ((zGG q).1 b) (zbp q b) ls rs σ ad ks H locs cells slots lsA hr (zck_at hq hjb) hS hE hlh hlk (zsk_tl hsk) hn hz
  case getfield idx =>
    obtain ⟨rfl, c0, k0, rfl, hc0, hk0, hT, hlk2⟩ := zget_of hi
    obtain ⟨a, rs, rfl, rfl, hv⟩ := zvGet (show zsGet c0 k0 _ ls st σ = some x from hx)
    have ha : zok ks a := zsk_hd hsk
    refine zW_get C hS ha hc0 hk0 hT hlk2 hd ?_
    unfold zpl
    rcases hv with ⟨ht, rfl⟩ | ⟨ht, rfl⟩ | ⟨ht1, ht2, rfl⟩
    · rw [if_pos ht]
      exact K rest (pc + 3) ls (.long (σ.2.1 a k0) :: rs) σ ad ks H locs cells slots lsA hr hc hS hE hlh hlk (zsk_cons trivial (zsk_tl hsk)) hn hz
    · rw [if_neg (by omega), if_pos ht, ← zv_rf]
      exact K rest (pc + 3) ls (va_rf (σ.2.2.1 a k0) :: rs) σ ad ks H locs cells slots lsA hr hc hS hE hlh hlk (zsk_cons (zvk_rf (fun y hy => hS.2.2.2.1.2.2.1 a (zok_in ha (by omega)) k0 y hy)) (zsk_tl hsk)) hn hz
    · rw [if_neg ht1, if_neg ht2]
      exact K rest (pc + 3) ls (.int (σ.1 a k0) :: rs) σ ad ks H locs cells slots lsA hr hc hS hE hlh hlk (zsk_cons trivial (zsk_tl hsk)) hn hz
  case putfield idx =>
    obtain ⟨rfl, c0, k0, rfl, hc0, hk0, hT, hlk2⟩ := zput_of hi
    obtain ⟨v, a, rs, rfl, rfl, hv⟩ := zvPut (show zsPut c0 k0 _ ls st σ = some x from hx)
    have ha : zok ks a := zsk_hd (zsk_tl hsk)
    have hft := zft_ok hc0 hk0
    rcases hv with ⟨y, rfl, ht, rfl⟩ | ⟨y, rfl, ht, rfl⟩ | ⟨y, rfl, ht, rfl⟩
    · obtain ⟨f1, f2⟩ := zfit_of (v := .int y) hft (Or.inl ⟨y, rfl, ht⟩)
      refine zW_put (τ := (zu σ.1 a k0 y, σ.2)) C hS ha hc0 hk0 hT hlk2 f1 f2 hd ?_ ?_ zoI (zinv_I hS.2.2.2.1 (fun h9 => by omega)) (fun H1 locs1 hS1 => ?_)
      · unfold zpl
        rw [if_neg (by omega), if_neg (by omega)]
        simp [zu, zv]
      · intro j hj
        unfold zpl
        simp [zu, hj]
      · exact K rest (pc + 3) ls rs (zu σ.1 a k0 y, σ.2) ad ks H1 locs1 cells slots lsA hr hc hS1 hE hlh hlk (zsk_tl (zsk_tl hsk)) hn hz
    · obtain ⟨f1, f2⟩ := zfit_of (v := .long y) hft (Or.inr (Or.inl ⟨y, rfl, ht⟩))
      refine zW_put (τ := (σ.1, zu σ.2.1 a k0 y, σ.2.2)) C hS ha hc0 hk0 hT hlk2 f1 f2 hd ?_ ?_ zoJ (zinv_J hS.2.2.2.1) (fun H1 locs1 hS1 => ?_)
      · unfold zpl
        rw [if_pos ht]
        simp [zu, zv]
      · intro j hj
        unfold zpl
        simp [zu, hj]
      · exact K rest (pc + 3) ls rs (σ.1, zu σ.2.1 a k0 y, σ.2.2) ad ks H1 locs1 cells slots lsA hr hc hS1 hE hlh hlk (zsk_tl (zsk_tl hsk)) hn hz
    · have hyk : ∀ z, y = some z → zok ks z := fun z e9 => by
        subst e9
        exact zsk_hd hsk
      obtain ⟨f1, f2⟩ := zfit_of (v := zv ad ro (va_rf y)) hft (Or.inr (Or.inr ⟨by
        rw [zv_rf]
        cases y with
        | none => exact Or.inl rfl
        | some z => exact Or.inr ⟨_, rfl⟩, ht⟩))
      refine zW_put (τ := (σ.1, σ.2.1, zu σ.2.2.1 a k0 y, σ.2.2.2)) C hS ha hc0 hk0 hT hlk2 f1 f2 hd ?_ ?_ zoP (zinv_P hS.2.2.2.1 hyk) (fun H1 locs1 hS1 => ?_)
      · unfold zpl
        rw [if_neg (by omega), if_pos ht, zv_rf]
        simp [zu, zv]
      · intro j hj
        unfold zpl
        simp [zu, hj]
      · exact K rest (pc + 3) ls rs (σ.1, σ.2.1, zu σ.2.2.1 a k0 y, σ.2.2.2) ad ks H1 locs1 cells slots lsA hr hc hS1 hE hlh hlk (zsk_tl (zsk_tl hsk)) hn hz
  case getstatic idx =>
    simp only [zci, List.any_eq_true, Bool.and_eq_true, decide_eq_true_eq] at hi
    obtain ⟨e9, he9, ⟨⟨h1, h2⟩, ho⟩, rfl⟩ := hi
    have hw := zwd_ok (List.all_eq_true.mp zTK_ok e9 he9)
    try dsimp only at hw
    rw [h1, h2] at hw
    cases zeq_ok ho
    cases hx
    refine va_gets hX hb hZ hS.2.2.1 hown (hts _ hw) (fun _ h9 => h9) hd ?_
    exact K rest (pc + 3) ls (.ref 54 :: st) σ ad ks H locs cells slots lsA hr hc hS hE hlh hlk (zsk_cons (Or.inl ⟨rfl, by decide⟩) hsk) hn hz
  case iaload =>
    simp only [zci, Bool.and_eq_true, decide_eq_true_eq] at hi
    obtain ⟨ho, rfl⟩ := hi
    cases zeq_ok ho
    obtain ⟨i, a, rs, rfl, hi2, hv⟩ := zvAld (show zsAld 0 ls st σ = some x from hx)
    have ha : zok ks a := zsk_hd (zsk_tl hsk)
    rcases hv with ⟨h9, hk, rfl⟩ | ⟨h9, hk, rfl⟩ | ⟨h9, hk, rfl⟩ | ⟨h9, hk, rfl⟩ <;> first | (exact absurd h9 (by decide)) | skip
    refine zW_ald0 C hS ha hk hi2 hd ?_
    exact K rest (pc + 1) ls (.int (σ.1 a i.toNatClampNeg) :: rs) σ ad ks H locs cells slots lsA hr hc hS hE hlh hlk (zsk_cons trivial (zsk_tl (zsk_tl hsk))) hn hz
  case laload =>
    simp only [zci, Bool.and_eq_true, decide_eq_true_eq] at hi
    obtain ⟨ho, rfl⟩ := hi
    cases zeq_ok ho
    obtain ⟨i, a, rs, rfl, hi2, hv⟩ := zvAld (show zsAld 1 ls st σ = some x from hx)
    have ha : zok ks a := zsk_hd (zsk_tl hsk)
    rcases hv with ⟨h9, hk, rfl⟩ | ⟨h9, hk, rfl⟩ | ⟨h9, hk, rfl⟩ | ⟨h9, hk, rfl⟩ <;> first | (exact absurd h9 (by decide)) | skip
    refine zW_ald1 C hS ha hk hi2 hd ?_
    exact K rest (pc + 1) ls (.long (σ.2.1 a i.toNatClampNeg) :: rs) σ ad ks H locs cells slots lsA hr hc hS hE hlh hlk (zsk_cons trivial (zsk_tl (zsk_tl hsk))) hn hz
  case aaload =>
    simp only [zci, Bool.and_eq_true, decide_eq_true_eq] at hi
    obtain ⟨ho, rfl⟩ := hi
    cases zeq_ok ho
    obtain ⟨i, a, rs, rfl, hi2, hv⟩ := zvAld (show zsAld 2 ls st σ = some x from hx)
    have ha : zok ks a := zsk_hd (zsk_tl hsk)
    rcases hv with ⟨h9, hk, rfl⟩ | ⟨h9, hk, rfl⟩ | ⟨h9, hk, rfl⟩ | ⟨h9, hk, rfl⟩ <;> first | (exact absurd h9 (by decide)) | skip
    refine zW_ald2 C hS ha hk hi2 hd ?_
    exact K rest (pc + 1) ls (va_rf (σ.2.2.1 a i.toNatClampNeg) :: rs) σ ad ks H locs cells slots lsA hr hc hS hE hlh hlk (zsk_cons (zvk_rf (fun y hy => hS.2.2.2.1.2.2.1 a (zok_in ha (by rcases hk with h | h | h <;> (rw [h]; decide))) _ y hy)) (zsk_tl (zsk_tl hsk))) hn hz
  case baload =>
    simp only [zci, Bool.and_eq_true, decide_eq_true_eq] at hi
    obtain ⟨ho, rfl⟩ := hi
    cases zeq_ok ho
    obtain ⟨i, a, rs, rfl, hi2, hv⟩ := zvAld (show zsAld 3 ls st σ = some x from hx)
    have ha : zok ks a := zsk_hd (zsk_tl hsk)
    rcases hv with ⟨h9, hk, rfl⟩ | ⟨h9, hk, rfl⟩ | ⟨h9, hk, rfl⟩ | ⟨h9, hk, rfl⟩ <;> first | (exact absurd h9 (by decide)) | skip
    refine zW_ald3 C hS ha hk hi2 hd ?_
    exact K rest (pc + 1) ls (.int (σ.1 a i.toNatClampNeg) :: rs) σ ad ks H locs cells slots lsA hr hc hS hE hlh hlk (zsk_cons trivial (zsk_tl (zsk_tl hsk))) hn hz
  case iastore =>
    simp only [zci, Bool.and_eq_true, decide_eq_true_eq] at hi
    obtain ⟨ho, rfl⟩ := hi
    cases zeq_ok ho
    obtain ⟨y, i, a, rs, rfl, hi2, hk, rfl⟩ := zvAst0 (show zsAst 0 ls st σ = some x from hx)
    refine zW_ast0 C hS (zsk_hd (zsk_tl (zsk_tl hsk))) hk hi2 hd (fun H1 locs1 hS1 => ?_)
    exact K rest (pc + 1) ls rs (zu σ.1 a i.toNatClampNeg y, σ.2) ad ks H1 locs1 cells slots lsA hr hc hS1 hE hlh hlk (zsk_tl (zsk_tl (zsk_tl hsk))) hn hz
  case lastore =>
    simp only [zci, Bool.and_eq_true, decide_eq_true_eq] at hi
    obtain ⟨ho, rfl⟩ := hi
    cases zeq_ok ho
    obtain ⟨y, i, a, rs, rfl, hi2, hk, rfl⟩ := zvAst1 (show zsAst 1 ls st σ = some x from hx)
    refine zW_ast1 C hS (zsk_hd (zsk_tl (zsk_tl hsk))) hk hi2 hd (fun H1 locs1 hS1 => ?_)
    exact K rest (pc + 1) ls rs (σ.1, zu σ.2.1 a i.toNatClampNeg y, σ.2.2) ad ks H1 locs1 cells slots lsA hr hc hS1 hE hlh hlk (zsk_tl (zsk_tl (zsk_tl hsk))) hn hz
  case aastore =>
    simp only [zci, Bool.and_eq_true, decide_eq_true_eq] at hi
    obtain ⟨ho, rfl⟩ := hi
    cases zeq_ok ho
    rcases zvAst2 (show zsAst 2 ls st σ = some x from hx) with ⟨y, i, a, rs, rfl, hi2, hk, rfl⟩ | ⟨i, a, rs, rfl, hi2, hk, rfl⟩
    · refine zW_ast2 C hS (zsk_hd (zsk_tl (zsk_tl hsk))) (zsk_hd hsk) hk hi2 hd (fun H1 locs1 hS1 => ?_)
      exact K rest (pc + 1) ls rs (σ.1, σ.2.1, zu σ.2.2.1 a i.toNatClampNeg (some y), σ.2.2.2) ad ks H1 locs1 cells slots lsA hr hc hS1 hE hlh hlk (zsk_tl (zsk_tl (zsk_tl hsk))) hn hz
    · refine zW_ast2N C hS (zsk_hd (zsk_tl (zsk_tl hsk))) hk hi2 hd (fun H1 locs1 hS1 => ?_)
      exact K rest (pc + 1) ls rs (σ.1, σ.2.1, zu σ.2.2.1 a i.toNatClampNeg none, σ.2.2.2) ad ks H1 locs1 cells slots lsA hr hc hS1 hE hlh hlk (zsk_tl (zsk_tl (zsk_tl hsk))) hn hz
  case bastore =>
    simp only [zci, Bool.and_eq_true, decide_eq_true_eq] at hi
    obtain ⟨ho, rfl⟩ := hi
    cases zeq_ok ho
    obtain ⟨y, i, a, rs, rfl, hi2, ⟨hk, rfl⟩ | ⟨hk, hy, rfl⟩⟩ := zvAst3 (show zsAst 3 ls st σ = some x from hx)
    · refine zW_ast3 C hS (zsk_hd (zsk_tl (zsk_tl hsk))) hk hi2 hd (fun H1 locs1 hS1 => ?_)
      exact K rest (pc + 1) ls rs (zu σ.1 a i.toNatClampNeg y.toInt8.toInt32, σ.2) ad ks H1 locs1 cells slots lsA hr hc hS1 hE hlh hlk (zsk_tl (zsk_tl (zsk_tl hsk))) hn hz
    · refine zW_ast4 C hS (zsk_hd (zsk_tl (zsk_tl hsk))) hk hy hi2 hd (fun H1 locs1 hS1 => ?_)
      exact K rest (pc + 1) ls rs (zu σ.1 a i.toNatClampNeg y, σ.2) ad ks H1 locs1 cells slots lsA hr hc hS1 hE hlh hlk (zsk_tl (zsk_tl (zsk_tl hsk))) hn hz
  case arraylength =>
    simp only [zci, Bool.and_eq_true, decide_eq_true_eq] at hi
    obtain ⟨ho, rfl⟩ := hi
    cases zeq_ok ho
    obtain ⟨a, rs, rfl, h15, h22, rfl⟩ := zvLen (show zsLen ls st σ = some x from hx)
    refine zW_len C hS (zsk_hd hsk) h15 h22 hd ?_
    exact K rest (pc + 1) ls (.int (nI (σ.2.2.2.1 a)) :: rs) σ ad ks H locs cells slots lsA hr hc hS hE hlh hlk (zsk_cons trivial (zsk_tl hsk)) hn hz
  case new idx =>
    simp only [zci, List.any_eq_true, Bool.or_eq_true, Bool.and_eq_true, decide_eq_true_eq] at hi
    rcases hi with ⟨ho, rfl⟩ | hi
    · cases zeq_ok ho
      cases st with
      | cons v rs => cases hx
      | nil =>
        cases hx
        obtain ⟨hr1, rfl⟩ := hr
        exact hthr pc lsA ad ks H locs cells slots hr1.symm hlh.2.1 hS hE hn hz
    obtain ⟨e9, he9, ⟨⟨h1, h2⟩, ho⟩, rfl⟩ := hi
    have hw := List.all_eq_true.mp zKL_ok e9 he9
    obtain ⟨o9, i9, c0, i1, i2, i3⟩ := e9
    simp only [zKLb, Bool.and_eq_true, decide_eq_true_eq] at hw h1 h2 ho
    obtain ⟨⟨⟨w1, w2⟩, w3⟩, hc0⟩ := hw
    subst h2
    rw [h1] at w1
    cases zeq_ok ho
    have hx9 : (if c0 < 15 then some (Sum.inl (0, ls, Value.ref (32 * σ.2.2.2.2.1 + c0) :: st, zmake σ c0 0 (zfc c0))) else none : Option zR) = some x := hx
    rw [if_pos hc0] at hx9
    cases hx9
    have hm := hmono _ _ _ _ _ _ hr
    rw [zmake_eq] at hm
    obtain ⟨hm1, hm2, hm3⟩ := hm
    dsimp only at hm1 hm2 hm3
    rw [zlen1_ne (by omega)] at hm3
    have hsk9 := hsk
    refine zW_new C hS hc0 (zwd_ok w1) (zwd_ok w2) (zwd_ok w3) (by omega) (by omega) hd (fun q9 H1 hS1 => ?_)
    have hln : σ.2.2.2.2.1 = ks.length := hS.2.2.2.1.1.symm
    have e9 : (Value.ref q9 :: List.map (zv ad ro) st) = List.map (zv (zadn ad ks.length q9) ro) (.ref (32 * σ.2.2.2.2.1 + c0) :: st) := by
      rw [List.map_cons, zvs_of (zadn_lt rfl) hsk9]
      congr 1
      rw [hln]
      exact congrArg Value.ref (zad_new (by omega)).symm
    rw [e9]
    exact K rest (pc + 3) ls (.ref (32 * σ.2.2.2.2.1 + c0) :: st) (zmake σ c0 0 (zfc c0)) (zadn ad ks.length q9) (ks ++ [c0]) H1 locs (cells + 1) (slots + (zfc c0)) lsA hr hc hS1 (zext_tr hE zext_new) (zlh_of (zadn_lt rfl) hlk hlh) (zlk_app hlk) (zsk_cons (zok_new hln.symm (by omega)) (zsk_app hsk9)) (by rw [zmake_eq]; dsimp only; rw [zlen1_ne (by omega)]; omega) (by rw [zmake_eq]; show z0 + (slots + (zfc c0)) ≤ σ.2.2.2.2.2 + (zfc c0); omega)
  case newarray aty =>
    simp only [zci, Bool.and_eq_true, decide_eq_true_eq] at hi
    obtain ⟨⟨ho, hak⟩, rfl⟩ := hi
    cases zeq_ok ho
    obtain ⟨w, rs, rfl, hw0, hw1, hkd9, rfl⟩ := zvNewa (show zsNewa _ ls st σ = some x from hx)
    have hm := hmono _ _ _ _ _ _ hr
    rw [zmake_eq] at hm
    obtain ⟨hm1, hm2, hm3⟩ := hm
    dsimp only at hm1 hm2 hm3
    rw [zlen1_ne (by omega)] at hm3
    have hsk9 := zsk_tl hsk
    have hak2 : zak aty < 22 := by cases aty <;> simp [zak] at hak ⊢
    refine zW_newa C hS hak hw0 hw1 (by omega) (by omega) hd (fun q9 H1 hS1 => ?_)
    have hln : σ.2.2.2.2.1 = ks.length := hS.2.2.2.1.1.symm
    have e9 : (Value.ref q9 :: List.map (zv ad ro) rs) = List.map (zv (zadn ad ks.length q9) ro) (.ref (32 * σ.2.2.2.2.1 + (zak aty)) :: rs) := by
      rw [List.map_cons, zvs_of (zadn_lt rfl) hsk9]
      congr 1
      rw [hln]
      exact congrArg Value.ref (zad_new (by omega)).symm
    rw [e9]
    exact K rest (pc + 2) ls (.ref (32 * σ.2.2.2.2.1 + (zak aty)) :: rs) (zmake σ (zak aty) w.toNatClampNeg w.toNatClampNeg) (zadn ad ks.length q9) (ks ++ [(zak aty)]) H1 locs (cells + 1) (slots + w.toNatClampNeg) lsA hr hc hS1 (zext_tr hE zext_new) (zlh_of (zadn_lt rfl) hlk hlh) (zlk_app hlk) (zsk_cons (zok_new hln.symm (by omega)) (zsk_app hsk9)) (by rw [zmake_eq]; dsimp only; rw [zlen1_ne (by omega)]; omega) (by rw [zmake_eq]; show z0 + (slots + w.toNatClampNeg) ≤ σ.2.2.2.2.2 + w.toNatClampNeg; omega)
  case anewarray idx =>
    simp only [zci, List.any_eq_true, Bool.and_eq_true, decide_eq_true_eq] at hi
    obtain ⟨e9, he9, ⟨⟨h1, h2⟩, ho⟩, rfl⟩ := hi
    have hw := List.all_eq_true.mp zKQ_ok e9 he9
    obtain ⟨o9, i9, kd, i1, i2⟩ := e9
    simp only [zKQb, Bool.and_eq_true, decide_eq_true_eq] at hw h1 h2 ho
    obtain ⟨⟨w1, w2⟩, hk3⟩ := hw
    subst h2
    rw [h1] at w1
    cases zeq_ok ho
    obtain ⟨w, rs, rfl, hw0, hw1, hkd9, rfl⟩ := zvNewa (show zsNewa _ ls st σ = some x from hx)
    have hm := hmono _ _ _ _ _ _ hr
    rw [zmake_eq] at hm
    obtain ⟨hm1, hm2, hm3⟩ := hm
    dsimp only at hm1 hm2 hm3
    rw [zlen1_ne (by omega)] at hm3
    have hsk9 := zsk_tl hsk
    refine zW_newq C hS hk3 (zwd_ok w1) (zwn_ok w2) hw0 hw1 (by omega) (by omega) hd (fun q9 H1 hS1 => ?_)
    have hln : σ.2.2.2.2.1 = ks.length := hS.2.2.2.1.1.symm
    have e9 : (Value.ref q9 :: List.map (zv ad ro) rs) = List.map (zv (zadn ad ks.length q9) ro) (.ref (32 * σ.2.2.2.2.1 + kd) :: rs) := by
      rw [List.map_cons, zvs_of (zadn_lt rfl) hsk9]
      congr 1
      rw [hln]
      exact congrArg Value.ref (zad_new (by omega)).symm
    rw [e9]
    exact K rest (pc + 3) ls (.ref (32 * σ.2.2.2.2.1 + kd) :: rs) (zmake σ kd w.toNatClampNeg w.toNatClampNeg) (zadn ad ks.length q9) (ks ++ [kd]) H1 locs (cells + 1) (slots + w.toNatClampNeg) lsA hr hc hS1 (zext_tr hE zext_new) (zlh_of (zadn_lt rfl) hlk hlh) (zlk_app hlk) (zsk_cons (zok_new hln.symm (by omega)) (zsk_app hsk9)) (by rw [zmake_eq]; dsimp only; rw [zlen1_ne (by omega)]; omega) (by rw [zmake_eq]; show z0 + (slots + w.toNatClampNeg) ≤ σ.2.2.2.2.2 + w.toNatClampNeg; omega)
  case checkcast idx =>
    simp only [zci, List.any_eq_true, Bool.and_eq_true, decide_eq_true_eq] at hi
    obtain ⟨e9, he9, ⟨⟨h1, h2⟩, ho⟩, rfl⟩ := hi
    have hw := List.all_eq_true.mp zKA_ok e9 he9
    obtain ⟨o9, i9, kd, i1⟩ := e9
    simp only [zKAb, Bool.and_eq_true, decide_eq_true_eq] at hw h1 h2 ho
    obtain ⟨w1, hk3⟩ := hw
    subst h2
    rw [h1] at w1
    cases zeq_ok ho
    obtain ⟨a, rs, rfl, hak, -, rfl⟩ := zvCst (show zsCst kd ls st σ = some x from hx)
    have ha : zok ks a := zsk_hd hsk
    have h22 : ¬ a % 32 = 22 := by rw [hak]; rcases hk3 with h | h | h <;> (rw [h]; decide)
    have hat := zw_at (cy := cy) (ad := ad) (ro := ro) (σ := σ) (zok_in ha h22) h22
    have fin : W p l e R s m args below meth c H locs cells slots Q (F0 m (pc + 3) lsA (.ref (zad ad ro a) :: rs.map (zv ad ro))) := by
      exact K rest (pc + 3) ls (.ref a :: rs) σ ad ks H locs cells slots lsA hr hc hS hE hlh hlk hsk hn hz
    rcases hk3 with rfl | rfl | rfl
    · rw [zcell_I (Or.inl hak), hak] at hat
      exact va_castA (D := D) hX hb hown (hts _ (zwd_ok w1)) hS.1 (a / 32) hat (hK.2 0 (cy 0, .byte) rfl).2 hd fin
    · rw [zcell_I (Or.inr (Or.inl hak)), hak] at hat
      exact va_castA (D := D) hX hb hown (hts _ (zwd_ok w1)) hS.1 (a / 32) hat (hK.2 1 (cy 1, .int) rfl).2 hd fin
    · rw [zcell_J hak] at hat
      exact va_castA (D := D) hX hb hown (hts _ (zwd_ok w1)) hS.1 (a / 32) hat (hK.2 2 (cy 2, .long) rfl).2 hd fin
  case ireturn =>
    have hi9 := hi
    simp only [zci, Bool.and_eq_true, Bool.or_eq_true, decide_eq_true_eq] at hi
    rcases hi with ⟨⟨-, ho⟩ | ⟨-, ho⟩, rfl⟩
    · cases zeq_ok ho
      have hx2 : zsRet 1 st σ = some x := hx
      have he : x = .inr (.inr (r, τ)) ∧ σ = τ := by
        rcases zvRet hx2 with ⟨-, -, e1⟩ | ⟨v, -, -, e1⟩ | ⟨v, -, -, -, e1⟩ | ⟨v, -, -, e1⟩ | ⟨v, -, -, e1⟩ <;> (subst e1; obtain ⟨rfl, rfl⟩ := hr; exact ⟨rfl, rfl⟩)
      obtain ⟨rfl, rfl⟩ := he
      exact hend pc lsA 1 _ _ st ad ks H locs cells slots hd hi9 hx2 hS hE hsk hn hz
    · cases zeq_ok ho
      have hx2 : zsRet 2 st σ = some x := hx
      have he : x = .inr (.inr (r, τ)) ∧ σ = τ := by
        rcases zvRet hx2 with ⟨-, -, e1⟩ | ⟨v, -, -, e1⟩ | ⟨v, -, -, -, e1⟩ | ⟨v, -, -, e1⟩ | ⟨v, -, -, e1⟩ <;> (subst e1; obtain ⟨rfl, rfl⟩ := hr; exact ⟨rfl, rfl⟩)
      obtain ⟨rfl, rfl⟩ := he
      exact hend pc lsA 2 _ _ st ad ks H locs cells slots hd hi9 hx2 hS hE hsk hn hz
  case lreturn =>
    have hi9 := hi
    simp only [zci, Bool.and_eq_true, Bool.or_eq_true, decide_eq_true_eq] at hi
    obtain ⟨⟨ho, -⟩, rfl⟩ := hi
    cases zeq_ok ho
    have hx2 : zsRet 3 st σ = some x := hx
    have he : x = .inr (.inr (r, τ)) ∧ σ = τ := by
      rcases zvRet hx2 with ⟨-, -, e1⟩ | ⟨v, -, -, e1⟩ | ⟨v, -, -, -, e1⟩ | ⟨v, -, -, e1⟩ | ⟨v, -, -, e1⟩ <;> (subst e1; obtain ⟨rfl, rfl⟩ := hr; exact ⟨rfl, rfl⟩)
    obtain ⟨rfl, rfl⟩ := he
    exact hend pc lsA 3 _ _ st ad ks H locs cells slots hd hi9 hx2 hS hE hsk hn hz
  case areturn =>
    have hi9 := hi
    simp only [zci, Bool.and_eq_true, Bool.or_eq_true, decide_eq_true_eq] at hi
    obtain ⟨⟨ho, rfl⟩, -⟩ := hi
    cases zeq_ok ho
    have hx2 : zsRet 4 st σ = some x := hx
    have he : x = .inr (.inr (r, τ)) ∧ σ = τ := by
      rcases zvRet hx2 with ⟨-, -, e1⟩ | ⟨v, -, -, e1⟩ | ⟨v, -, -, -, e1⟩ | ⟨v, -, -, e1⟩ | ⟨v, -, -, e1⟩ <;> (subst e1; obtain ⟨rfl, rfl⟩ := hr; exact ⟨rfl, rfl⟩)
    obtain ⟨rfl, rfl⟩ := he
    exact hend pc lsA 4 _ _ st ad ks H locs cells slots hd hi9 hx2 hS hE hsk hn hz
  case return_ =>
    have hi9 := hi
    simp only [zci, Bool.and_eq_true, Bool.or_eq_true, decide_eq_true_eq] at hi
    obtain ⟨⟨ho, -⟩, rfl⟩ := hi
    cases zeq_ok ho
    have hx2 : zsRet 0 st σ = some x := hx
    have he : x = .inr (.inr (r, τ)) ∧ σ = τ := by
      rcases zvRet hx2 with ⟨-, -, e1⟩ | ⟨v, -, -, e1⟩ | ⟨v, -, -, -, e1⟩ | ⟨v, -, -, e1⟩ | ⟨v, -, -, e1⟩ <;> (subst e1; obtain ⟨rfl, rfl⟩ := hr; exact ⟨rfl, rfl⟩)
    obtain ⟨rfl, rfl⟩ := he
    exact hend pc lsA 0 _ _ st ad ks H locs cells slots hd hi9 hx2 hS hE hsk hn hz
  case invokestatic idx =>
    simp only [zci, Bool.and_eq_true, Bool.or_eq_true, decide_eq_true_eq] at hi
    obtain ⟨rfl, hi⟩ := hi
    rcases hi with (hi | hi) | hi
    · obtain ⟨q9, rfl, hlk9, hr1, hr2', hq9⟩ := zcx_of (by decide) hi
      obtain ⟨hn9, hcat, rfl, hrec⟩ := zvCal (show zsCal q9 (znp q9) 0 (zow q9) ls st σ = some x from hx)
      obtain ⟨hlen9, v9, σ2, st9, σ9, hrun9, haft, hr2⟩ := hr
      obtain ⟨rfl, rfl, hnt9⟩ := zaft_cal haft
      obtain ⟨hm1, hm2, hm3⟩ := zrun_mono _ _ _ _ _ _ _ _ hrun9
      obtain ⟨hm4, hm5, hm6⟩ := hmono _ _ _ _ _ _ hr2
      generalize hrs : st.drop (znp q9) = rs at hcat hr2
      generalize has : (st.take (znp q9)).reverse = as9 at hlen9 hrun9 hrec
      have hst : st = as9.reverse ++ rs := by rw [← has, ← hrs, List.reverse_reverse, List.take_append_drop]
      have hlas : as9.length = znp q9 := by
        rw [← has, List.length_reverse, List.length_take]
        exact Nat.min_eq_left hn9
      have hskr : zsk ks rs := fun w hw => hsk w (by rw [hst]; exact List.mem_append_right _ hw)
      have hska : zsk ks as9 := fun w hw => hsk w (by rw [hst]; exact List.mem_append_left _ (List.mem_reverse.mpr hw))
      have hM := zmet IH hck hq9 hrun9 hlen9 D cy ad ro xs Ls ks H.size hS.2.2.2.1 hS.2.2.2.2 hska hnt9
      rw [hst, List.map_append, List.map_reverse]
      refine zcallS C hS hlh.2.1 hq9 hlk9 hr1 hr2' hM hlas (by rw [zcat_map]; exact hcat) hd ⟨by omega, by omega⟩ (fun ad9 ks9 H1 locs1 hE9 hS1 hv9 => ?_)
      have e9 : (v9.map (zv ad9 ro)).toList ++ List.map (zv ad ro) rs = List.map (zv ad9 ro) (v9.toList ++ rs) := by
        rw [List.map_append, zvs_of hE9.1 hskr]
        cases v9 <;> rfl
      rw [e9]
      exact K rest (pc + 3) ls (v9.toList ++ rs) σ9 ad9 ks9 H1 locs1 (cells + (σ9.2.2.2.2.1 + σ9.2.2.2.1 31 - (σ.2.2.2.2.1 + σ.2.2.2.1 31))) (slots + (σ9.2.2.2.2.2 - σ.2.2.2.2.2)) lsA hr2 hc hS1 (zext_tr hE hE9) (zlh_of hE9.1 hlk hlh) (zlk_ext hE9 hlk) (fun w hw => by
        rcases List.mem_append.mp hw with hw | hw
        · cases v9 with
          | none => cases hw
          | some v => simp at hw; subst hw; exact hv9 _ rfl
        · exact zvk_ext hE9 (hskr w hw)) (by omega) (by omega)
    · simp only [List.any_eq_true, Bool.and_eq_true, decide_eq_true_eq] at hi
      obtain ⟨e9, he9, ⟨⟨h1, h2⟩, ho⟩, h15⟩ := hi
      exact hlco q p e s m args below meth c R D cy ro A xs Ls Q n0 z0 r τ ad0 ks0 e9 he9 h1 h2 h15 C hRc hRs K rest pc ls st σ ad ks H locs cells slots lsA o x hd (zeq_ok ho) hx hr hc hS hE hlh hlk hsk hn hz
    · simp only [List.any_eq_true, Bool.and_eq_true, decide_eq_true_eq] at hi
      obtain ⟨e9, he9, ⟨⟨⟨h1, h2⟩, ho⟩, hf9⟩, hl9⟩ := hi
      have hw := zwd_ok (List.all_eq_true.mp zAC_ok e9 he9)
      try dsimp only at hw
      rw [h1, h2] at hw
      cases zeq_ok ho
      obtain ⟨w, dp, b, sp, a, rs, rfl, g1, g2, g3, g4, g5, hcat, hab, hv⟩ := zvAcp (show zsAcp ls st σ = some x from hx)
      have hb9 : zok ks b := zsk_hd (zsk_tl (zsk_tl hsk))
      have ha9 : zok ks a := zsk_hd (zsk_tl (zsk_tl (zsk_tl (zsk_tl hsk))))
      refine zW_acp C hS hlh.2.1 ha9 hb9 hab (by rcases hv with ⟨h9 | h9, -⟩ | ⟨h9, -⟩; exact Or.inl h9; exact Or.inr (Or.inl h9); exact Or.inr (Or.inr h9)) hw g1 g2 g3 g4 g5 (by rw [hfr]; exact hf9) (by rw [hlo, zcat_map]; show zcat rs + (7 + 11) ≤ zlo q; omega) hd (fun H1 locs1 hSa hSb => ?_)
      rcases hv with ⟨h9, rfl⟩ | ⟨h9, rfl⟩
      · exact K rest (pc + 3) ls rs (zcp σ.1 a sp.toNatClampNeg b dp.toNatClampNeg w.toNatClampNeg, σ.2) ad ks H1 locs1 cells slots lsA hr hc (hSa h9) hE hlh hlk (zsk_tl (zsk_tl (zsk_tl (zsk_tl (zsk_tl hsk))))) hn hz
      · exact K rest (pc + 3) ls rs (σ.1, zcp σ.2.1 a sp.toNatClampNeg b dp.toNatClampNeg w.toNatClampNeg, σ.2.2) ad ks H1 locs1 cells slots lsA hr hc (hSb h9) hE hlh hlk (zsk_tl (zsk_tl (zsk_tl (zsk_tl (zsk_tl hsk))))) hn hz
  case invokevirtual idx =>
    simp only [zci, Bool.and_eq_true, Bool.or_eq_true, decide_eq_true_eq] at hi
    obtain ⟨rfl, hi⟩ := hi
    rcases hi with hi | hi
    · obtain ⟨q9, rfl, hlk9, hr1, hr2', hq9, h15⟩ := zcx1_of hi
      obtain ⟨hn9, hcat, rfl, hrec⟩ := zvCal (show zsCal q9 (znp q9 + 1) 1 (zow q9) ls st σ = some x from hx)
      obtain ⟨hlen9, v9, σ2, st9, σ9, hrun9, haft, hr2⟩ := hr
      obtain ⟨rfl, rfl, hnt9⟩ := zaft_cal haft
      obtain ⟨hm1, hm2, hm3⟩ := zrun_mono _ _ _ _ _ _ _ _ hrun9
      obtain ⟨hm4, hm5, hm6⟩ := hmono _ _ _ _ _ _ hr2
      generalize hrs : st.drop (znp q9 + 1) = rs at hcat hr2
      generalize has : (st.take (znp q9 + 1)).reverse = as9 at hlen9 hrun9 hrec
      have hst : st = as9.reverse ++ rs := by rw [← has, ← hrs, List.reverse_reverse, List.take_append_drop]
      have hlas : as9.length = znp q9 + 1 := by
        rw [← has, List.length_reverse, List.length_take]
        exact Nat.min_eq_left hn9
      have hskr : zsk ks rs := fun w hw => hsk w (by rw [hst]; exact List.mem_append_right _ hw)
      have hska : zsk ks as9 := fun w hw => hsk w (by rw [hst]; exact List.mem_append_left _ (List.mem_reverse.mpr hw))
      have hM := zmet IH hck hq9 hrun9 hlen9 D cy ad ro xs Ls ks H.size hS.2.2.2.1 hS.2.2.2.2 hska hnt9
      rcases hrec with hrec | ⟨a, as', hrec, hac⟩
      · exact absurd hrec (by decide)
      subst hrec
      have ha : zok ks a := hska _ List.mem_cons_self
      have e8 : List.map (zv ad ro) st = (as'.map (zv ad ro)).reverse ++ .ref (zad ad ro a) :: rs.map (zv ad ro) := by
        rw [hst]
        simp [zv]
      rw [e8]
      refine zcallV C hS hlh.2.1 hq9 hlk9 hr1 hr2' ha hac h15 hM (by simpa using hlas) (by rw [zcat_map]; exact hcat) hd ⟨by omega, by omega⟩ (fun ad9 ks9 H1 locs1 hE9 hS1 hv9 => ?_)
      have e9 : (v9.map (zv ad9 ro)).toList ++ List.map (zv ad ro) rs = List.map (zv ad9 ro) (v9.toList ++ rs) := by
        rw [List.map_append, zvs_of hE9.1 hskr]
        cases v9 <;> rfl
      rw [e9]
      exact K rest (pc + 3) ls (v9.toList ++ rs) σ9 ad9 ks9 H1 locs1 (cells + (σ9.2.2.2.2.1 + σ9.2.2.2.1 31 - (σ.2.2.2.2.1 + σ.2.2.2.1 31))) (slots + (σ9.2.2.2.2.2 - σ.2.2.2.2.2)) lsA hr2 hc hS1 (zext_tr hE hE9) (zlh_of hE9.1 hlk hlh) (zlk_ext hE9 hlk) (fun w hw => by
        rcases List.mem_append.mp hw with hw | hw
        · cases v9 with
          | none => cases hw
          | some v => simp at hw; subst hw; exact hv9 _ rfl
        · exact zvk_ext hE9 (hskr w hw)) (by omega) (by omega)
    · simp only [List.any_eq_true, Bool.and_eq_true, decide_eq_true_eq] at hi
      obtain ⟨e9, he9, ⟨⟨⟨h1, h2⟩, ho⟩, hf9⟩, hl9⟩ := hi
      have hw := List.all_eq_true.mp zCN_ok e9 he9
      obtain ⟨o9, i9, kd, i1⟩ := e9
      simp only [zCNb, Bool.and_eq_true, decide_eq_true_eq] at hw h1 h2 ho
      obtain ⟨w1, hk3⟩ := hw
      subst h2
      rw [h1] at w1
      cases zeq_ok ho
      obtain ⟨a, rs, rfl, hcat, hak, -, rfl⟩ := zvCln (show zsCln kd ls st σ = some x from hx)
      have hm := hmono _ _ _ _ _ _ hr
      obtain ⟨hm1, hm2, hm3⟩ := hm
      dsimp only at hm1 hm2 hm3
      rw [zlen1_ne (by omega)] at hm3
      have hskr : zsk ks rs := zsk_tl hsk
      refine zW_cln C hS hlh.2.1 (zsk_hd hsk) hak hk3 (zwd_ok w1) (by rw [hfr]; exact hf9) (by rw [hlo, zcat_map]; omega) (by omega) (by omega) hd (fun q9 H1 hS1 => ?_)
      have hln : σ.2.2.2.2.1 = ks.length := hS.2.2.2.1.1.symm
      have e9 : (Value.ref q9 :: List.map (zv ad ro) rs) = List.map (zv (zadn ad ks.length q9) ro) (.ref (32 * σ.2.2.2.2.1 + kd) :: rs) := by
        rw [List.map_cons, zvs_of (zadn_lt rfl) hskr]
        congr 1
        rw [hln]
        exact congrArg Value.ref (zad_new (by omega)).symm
      rw [e9]
      exact K rest (pc + 3) ls (.ref (32 * σ.2.2.2.2.1 + kd) :: rs) _ (zadn ad ks.length q9) (ks ++ [kd]) H1 locs (cells + 1) (slots + σ.2.2.2.1 a) lsA hr hc hS1 (zext_tr hE zext_new) (zlh_of (zadn_lt rfl) hlk hlh) (zlk_app hlk) (zsk_cons (zok_new hln.symm (by omega)) (zsk_app hskr)) (by dsimp only; rw [zlen1_ne (by omega)]; omega) (by show z0 + (slots + σ.2.2.2.1 a) ≤ σ.2.2.2.2.2 + σ.2.2.2.1 a; omega)
  case invokespecial idx =>
    simp only [zci, Bool.and_eq_true, Bool.or_eq_true, decide_eq_true_eq] at hi
    obtain ⟨rfl, hi⟩ := hi
    rcases hi with hi | hi
    · obtain ⟨q9, rfl, hlk9, hr1, hr2', hq9⟩ := zcx_of (by decide) hi
      obtain ⟨hn9, hcat, rfl, hrec⟩ := zvCal (show zsCal q9 (znp q9 + 1) 2 (zow q9) ls st σ = some x from hx)
      obtain ⟨hlen9, v9, σ2, st9, σ9, hrun9, haft, hr2⟩ := hr
      obtain ⟨rfl, rfl, hnt9⟩ := zaft_cal haft
      obtain ⟨hm1, hm2, hm3⟩ := zrun_mono _ _ _ _ _ _ _ _ hrun9
      obtain ⟨hm4, hm5, hm6⟩ := hmono _ _ _ _ _ _ hr2
      generalize hrs : st.drop (znp q9 + 1) = rs at hcat hr2
      generalize has : (st.take (znp q9 + 1)).reverse = as9 at hlen9 hrun9 hrec
      have hst : st = as9.reverse ++ rs := by rw [← has, ← hrs, List.reverse_reverse, List.take_append_drop]
      have hlas : as9.length = znp q9 + 1 := by
        rw [← has, List.length_reverse, List.length_take]
        exact Nat.min_eq_left hn9
      have hskr : zsk ks rs := fun w hw => hsk w (by rw [hst]; exact List.mem_append_right _ hw)
      have hska : zsk ks as9 := fun w hw => hsk w (by rw [hst]; exact List.mem_append_left _ (List.mem_reverse.mpr hw))
      have hM := zmet IH hck hq9 hrun9 hlen9 D cy ad ro xs Ls ks H.size hS.2.2.2.1 hS.2.2.2.2 hska hnt9
      rcases hrec with hrec | ⟨a, as', hrec, hac⟩
      · exact absurd hrec (by decide)
      subst hrec
      have ha : zok ks a := hska _ List.mem_cons_self
      have e8 : List.map (zv ad ro) st = (as'.map (zv ad ro)).reverse ++ .ref (zad ad ro a) :: rs.map (zv ad ro) := by
        rw [hst]
        simp [zv]
      rw [e8]
      refine zcallI C hS hlh.2.1 hq9 hlk9 hr1 hr2' hM (by simpa using hlas) (by rw [zcat_map]; exact hcat) hd ⟨by omega, by omega⟩ (fun ad9 ks9 H1 locs1 hE9 hS1 hv9 => ?_)
      have e9 : (v9.map (zv ad9 ro)).toList ++ List.map (zv ad ro) rs = List.map (zv ad9 ro) (v9.toList ++ rs) := by
        rw [List.map_append, zvs_of hE9.1 hskr]
        cases v9 <;> rfl
      rw [e9]
      exact K rest (pc + 3) ls (v9.toList ++ rs) σ9 ad9 ks9 H1 locs1 (cells + (σ9.2.2.2.2.1 + σ9.2.2.2.1 31 - (σ.2.2.2.2.1 + σ.2.2.2.1 31))) (slots + (σ9.2.2.2.2.2 - σ.2.2.2.2.2)) lsA hr2 hc hS1 (zext_tr hE hE9) (zlh_of hE9.1 hlk hlh) (zlk_ext hE9 hlk) (fun w hw => by
        rcases List.mem_append.mp hw with hw | hw
        · cases v9 with
          | none => cases hw
          | some v => simp at hw; subst hw; exact hv9 _ rfl
        · exact zvk_ext hE9 (hskr w hw)) (by omega) (by omega)
    · simp only [List.any_eq_true, Bool.and_eq_true, decide_eq_true_eq] at hi
      obtain ⟨e9, he9, ⟨⟨⟨h1, h2⟩, ho⟩, hf9⟩, hl9⟩ := hi
      have hw := zwd_ok (List.all_eq_true.mp zOI_ok e9 he9)
      try dsimp only at hw
      rw [h1, h2] at hw
      cases zeq_ok ho
      obtain ⟨a, rs, rfl, hcat, rfl⟩ := zvOini (show zsOini ls st σ = some x from hx)
      refine W.objInit hX hb hown (hts _ hw) (hts _ zw_oi1) (hts _ zw_oi2) rfl (by rw [hml]; exact hlh.2.1) rfl hd (by rw [hfr]; exact hf9) (by have h9 := lv_room (m := m) (pc := pc) (ls := lsA) (rest := List.map (zv ad ro) (Value.ref a :: rs)) (st := List.map (zv ad ro) rs) (by rw [zcat_map]; exact hcat); rw [hlo]; omega) ?_
      refine W.eq (g2 := F0 m (pc + 3) lsA (List.map (zv ad ro) rs)) rfl ?_
      exact K rest (pc + 3) ls rs σ ad ks H locs cells slots lsA hr hc hS hE hlh hlk (zsk_tl hsk) hn hz
  all_goals (exfalso; revert hi; simp [zci])
theorem zsim {l : Launch} (hck : ∀ q, q < 329 → zck q = true) (hlco : ∀ n, zSim l n → zLco l n) : ∀ n, zSim l n
  | 0 => by
    intro q p e s m args below meth c R D cy ro A xs Ls Q n0 z0 r τ ad0 ks0 hq C hRc hRs hend hthr ops pc ls st σ ad ks H locs cells slots lsA h
    cases h
  | n + 1 => zsim_step hck (hlco n (zsim hck hlco n)) (zsim hck hlco n)
