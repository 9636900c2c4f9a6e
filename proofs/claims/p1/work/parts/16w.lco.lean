/-! The law's own coinOf: it calls the class's, and catches. -/
def zXn : String := "java/lang/IndexOutOfBoundsException"
def zPreX (D : va_G) (cy : Nat → ClassId) (ad ro : Nat → Nat) (xs : Nat → Nat → Int32) (Ls : Nat → Nat) (σ : zS) (ks : List Nat) (sz : Nat) (U : State) : Prop :=
  zPre D cy ad ro xs Ls σ ks sz U ∧ vx_Zq Bundle.tN "UNASSIGNED_STACK" Bundle.steD (va_A (zw cy ad ro σ ks) sz) U U.heap ∧ vx_Zq Bundle.tN "SUPPRESSED_SENTINEL" Bundle.listD (va_A (zw cy ad ro σ ks) sz) U U.heap
/-- where it has returned -/
def zPostL (D : va_G) (cy : Nat → ClassId) (ad ro : Nat → Nat) (xs : Nat → Nat → Int32) (Ls : Nat → Nat) (σ : zS) (ks : List Nat) (sz : Nat) (r : Option Value) (τ : zS) (a : Array Value) (st : State) (oc : Outcome) (t : State) : Prop := (∃ v, r = some (.long v)) ∧ zPost D cy ad ro xs Ls σ ks sz r τ a st oc t
/-- the world where it has thrown -/
def zXC (D : va_G) (cy : Nat → ClassId) (ad ro : Nat → Nat) (xs : Nat → Nat → Int32) (Ls : Nat → Nat) (σ : zS) (ks : List Nat) (sz : Nat) (r : Option Value) (τ : zS) (E : String) (st t : State) : Prop :=
  (E = zXn ∧ r = some (.retAddr 41) ∧ ∃ (ad' : Nat → Nat) (ks' : List Nat), zext ad ks ad' ks' ∧ va_P D vwCl (zw cy ad' ro τ ks') t.heap ∧ va_D (va_A (zw cy ad ro σ ks) sz) (zw cy ad' ro τ ks') ∧ zinv τ ks' ∧ ∀ k, k < 2 → τ.1 (32 * k + 22) = xs k ∧ τ.2.2.2.1 (32 * k + 22) = Ls k) ∧ va_F (va_A (zw cy ad ro σ ks) sz) st t
set_option maxRecDepth 1000000 in
theorem zx_w1 : (([Cond.classLink RX11 186 zXn, Cond.initialized zXn] ++ vx_at0 RX11 188 zXn ["java/lang/RuntimeException", "java/lang/Exception"]).all (fun w => vx_ot w && (if goodWord w then decide (w ∈ lw_tbl) else decide (w ∈ zNW)))) = true := by decide +kernel
theorem zx_w2 {s : State} {args : Array Value} (hts : ∀ w ∈ zTBL, w.before args s = true) (hnw : ∀ w ∈ zNW, va_Nw w s) : ∀ w ∈ [Cond.classLink RX11 186 zXn, Cond.initialized zXn] ++ vx_at0 RX11 188 zXn ["java/lang/RuntimeException", "java/lang/Exception"], w.before args s = true := fun w hw => by
  have h := List.all_eq_true.mp zx_w1 w hw
  rw [Bool.and_eq_true] at h
  obtain ⟨-, h⟩ := h
  split at h
  · rename_i hg
    exact hts w (List.mem_filter.mpr ⟨of_decide_eq_true h, hg⟩)
  · have hm : w ∈ zNW := of_decide_eq_true h
    have h1 := zisN_of hm
    have h2 := hnw w hm
    cases w <;> simp [zisN] at h1
    all_goals first
      | exact va_Nw.use rfl h2
      | skip
    all_goals
      obtain ⟨C, rfl⟩ := zNW_ao hm
      exact va_AO.use h2
theorem zx_w3 : ∀ w ∈ Cond.classLink RX11 186 zXn :: Cond.initialized zXn :: vx_at0 RX11 188 zXn ["java/lang/RuntimeException", "java/lang/Exception"], vx_ot w = true := fun w hw => by
  have h := List.all_eq_true.mp zx_w1 w hw
  rw [Bool.and_eq_true] at h
  exact h.1
set_option maxRecDepth 1000000 in
theorem zx_rows : zow 165 = 11 ∧ 6 ≤ zfr 165 ∧ 100 ≤ zlo 165 ∧ zrt 165 = some .long ∧ zml 165 = 5 ∧ plainName (zy 165).cls = true ∧ zfr 165 + 2 ≤ 14 ∧ 8 + (zml 165 + 11) + zlo 165 + 8 + 17 ≤ 588 ∧ znp 165 = 3 := by decide +kernel
set_option maxRecDepth 1000000 in
theorem zx_d : decode (zby 165) 41 = .ok (.new 186, 3) ∧ decode (zby 165) (41 + 3) = .ok (.dup, 1) ∧ decode (zby 165) (41 + 4) = .ok (.invokespecial 188, 3) ∧ decode (zby 165) (41 + 7) = .ok (.athrow, 1) := ⟨by decide +kernel, by decide +kernel, by decide +kernel, by decide +kernel⟩
set_option maxHeartbeats 4000000 in
theorem zmetX {l : Launch} {n : Nat} (hst0 : l.stackTraces = false) (IH : zSim l n) (hck : ∀ q, q < 329 → zck q = true) {as : List Value} {σ τ : zS} {r : Option Value} (hrun : zrun zGG n (zGG 165).1 ((zGG 165).1 0) (zent as (zGG 165).2) [] σ = some (r, τ)) (hlen : (zlay as).length ≤ (zGG 165).2)
    (D : va_G) (cy : Nat → ClassId) (ad ro : Nat → Nat) (xs : Nat → Nat → Int32) (Ls : Nat → Nat) (ks : List Nat) (sz : Nat) (hinv : zinv σ ks) (hRO : ∀ k, k < 2 → σ.1 (32 * k + 22) = xs k ∧ σ.2.2.2.1 (32 * k + 22) = Ls k) (hsk : zsk ks as) {mc ms : Nat}
    (hr0 : (∃ v, r = some (.long v) ∧ τ.2.2.2.2.1 + τ.2.2.2.1 31 - (σ.2.2.2.2.1 + σ.2.2.2.1 31) ≤ mc ∧ τ.2.2.2.2.2 - σ.2.2.2.2.2 ≤ ms) ∨ (r = some (.retAddr 41) ∧ τ.2.2.2.2.1 + τ.2.2.2.1 31 - (σ.2.2.2.2.1 + σ.2.2.2.1 31) + 1 ≤ mc ∧ τ.2.2.2.2.2 - σ.2.2.2.2.2 + 6 ≤ ms)) :
    vx_Met l (zy 165) (zws 165) { frames := zfr 165, cells := mc, slots := ms, locals := zlo 165 } (va_Pc (as.map (zv ad ro)) (zPreX D cy ad ro xs Ls σ ks sz)) (zPostL D cy ad ro xs Ls σ ks sz r τ) (zXC D cy ad ro xs Ls σ ks sz r τ) mc ms (va_A (zw cy ad ro σ ks) sz) := by
  obtain ⟨m1, m2, m3, m4, m5, m6⟩ := zM_of (q := 165) (by decide)
  obtain ⟨x1, x2, x3, x4, x5, x6, -, -, -⟩ := zx_rows
  rw [m5] at hrun hlen
  refine vx_ofW (cc := zby 165) (maxL := zml 165) (ret := zrt 165) x6 rfl ?_
  intro p e s m args below meth c s₁ B hml htab hv
  obtain ⟨rfl, ⟨hsz, hP, hK, hD0, hnw, hro, hZ⟩, hU, hN⟩ := hv
  have hx := B.exec
  have hb := B.bytes
  have hr := B.returns
  have hts : ∀ w ∈ zTBL, w.before (as.map (zv ad ro)).toArray s = true := fun w hw => atoms_spec (ws := zws 165) B.pre w (List.mem_cons_of_mem _ hw)
  have hown : s.vm.findClass (zon (zow 165)) = some m.cls := by rw [← m2]; exact findClass_of_methodNamed B.named
  have hlocks := B.notSynchronized
  have hnm : meth.name = (zy 165).name := (name_of_methodNamed B.named B.method).1
  subst hsz
  have hD := hD0.self (sz := s.heap.size)
  have hl := lv_entry (as.map (zv ad ro)) (n := zml 165) (by rw [zlay_len]; exact hlen)
  rw [lg_entry_eq]
  generalize (lg_sl (as.map (zv ad ro)) ++ List.replicate (zml 165 - (lg_sl (as.map (zv ad ro))).length) Slot.unset).toArray = lsA at hl ⊢
  obtain ⟨b1, b2⟩ := zb0 (q := 165) (by decide)
  have hc0 := zck_at (hck 165 (by decide)) b2
  rw [b1] at hc0
  have hmc : τ.2.2.2.2.1 + τ.2.2.2.1 31 - (σ.2.2.2.2.1 + σ.2.2.2.1 31) ≤ mc ∧ τ.2.2.2.2.2 - σ.2.2.2.2.2 ≤ ms := by
    rcases hr0 with ⟨v, -, h1, h2⟩ | ⟨-, h1, h2⟩
    · exact ⟨h1, h2⟩
    · omega
  refine IH 165 p e s m _ below meth c _ D cy ro (va_A (zw cy ad ro σ ks) s.heap.size) xs Ls _ (σ.2.2.2.2.1 + σ.2.2.2.1 31) σ.2.2.2.2.2 r τ ad ks (hck 165 (by decide)) ⟨hx, hb, hml, hown, hts, hnw, hK, fun x h => Or.inr h, hro, hZ, rfl, rfl, hnm, fun h => absurd h (by decide)⟩ hmc.1 hmc.2 ?_ ?_ ((zGG 165).1 0) 0 (zent as (zml 165)) [] σ ad ks s.heap [] 0 0 lsA hrun hc0 ⟨hP, hD, va_S.rf, hinv, hRO⟩ zext_rf ⟨?_, hl.1, hl.2.1, ?_⟩ (fun i v h => hsk v (zlay_mem as i v (zent_get h))) (fun v h => absurd h List.not_mem_nil) (Nat.le_refl _) (Nat.le_refl _)
  · intro pc lsB t i len st ad' ks' H locs cells slots hd hz hret hSt hE hsk' hn hzz
    obtain ⟨hP', hD', hS', hI', hRO'⟩ := hSt
    obtain ⟨rfl, hcase⟩ := zret_of hz
    have ht3 : i = .lreturn ∧ t = 3 := by
      rw [x4] at hcase
      rcases hcase with ⟨-, h, -⟩ | ⟨-, h, -⟩ | ⟨h, -, h2⟩ | ⟨-, h, -⟩ | ⟨-, h, -⟩
      · cases h
      · cases h
      · exact ⟨h, h2⟩
      · rcases h with ⟨_, h⟩ | ⟨_, h⟩ <;> cases h
      · cases h
    obtain ⟨rfl, rfl⟩ := ht3
    rcases zvRet hret with ⟨h, -, -⟩ | ⟨v, h, -, -⟩ | ⟨v, h, -, -, -⟩ | ⟨v, -, rfl, hx1⟩ | ⟨o, h, -, -⟩
    · cases h
    · cases h
    · cases h
    · cases hx1
      refine vx_ret (mc := mc) (ms := ms) ?_
      refine W.widen (k := mc) (n := ms) (by omega) (by omega) ?_
      exact W.lret (v := v) hx hb (by rw [hr]; exact x4) (fun t ht hW => ⟨⟨v, rfl⟩, ⟨ad', ks', hE, rfl, by rw [ht]; exact hP', hD', hI', hRO', fun w h => by cases h; exact trivial⟩, hS'.F ht⟩) hS'.2.2 hd
    · cases h
  · intro pc lsB ad' ks' H locs cells slots hre hsz2 hSt hE hn hzz
    obtain ⟨hP', hD', hS', hI', hRO'⟩ := hSt
    rcases hr0 with ⟨v, h1, -, -⟩ | ⟨h1, h2, h3⟩
    · rw [h1] at hre; cases hre
    · have hpc : pc = 41 := by rw [h1] at hre; cases hre; rfl
      subst hpc
      have hw := zx_w2 hts hnw
      refine vx_throw0 (A := va_A (zw cy ad ro σ ks) s.heap.size) (own := RX11) (cls := zXn) (names := ["java/lang/RuntimeException", "java/lang/Exception"]) (ik := 186) (ic := 188) hx hb hst0 (by rw [x1] at hown; exact hown) (by decide +kernel) (by decide +kernel) (hw _ List.mem_cons_self) (hw _ (List.mem_cons_of_mem _ List.mem_cons_self)) (fun w h => hw w (List.mem_append_right _ h)) zx_w3 hU hN hS' (by rw [hml]; exact hsz2) zx_d.1 zx_d.2.1 zx_d.2.2.1 zx_d.2.2.2 (fun x h => absurd h (htab x)) (show 2 + 3 < zfr 165 by omega) (show 0 + (13 * (2 + 1) + 42) ≤ zlo 165 by omega) (show cells + 1 ≤ mc by omega) (show slots + 6 ≤ ms by omega) hlocks (fun t ht hz1 hz2 => ?_) hS'.2.2 (by omega) (by omega)
      refine ⟨⟨rfl, h1, ad', ks', hE, ?_, hD', hI', hRO'⟩, Nat.le_trans hS'.1 hz1, fun q h1 h2 => (hz2 q (Nat.lt_of_lt_of_le h1 hS'.1)).trans (hS'.2.1 q h1 h2)⟩
      exact hP'.kept (fun k x hx => hz2 x.1 ((hP' k x hx).lt))
  · unfold zent
    simp
    omega
  · rintro ⟨j, w⟩ hq
    obtain ⟨v, hv, rfl⟩ := zlv_mem.mp hq
    have h1 := zlay_get ad ro as 0 j v (zent_get hv)
    rw [Nat.zero_add] at h1
    exact hl.2.2 _ h1
abbrev zyL : MethodName := ⟨"CoinScriptsLaw", "coinOf", "(LCoinScripts;III[J)I"⟩
abbrev zhL : List (Nat × Nat × Nat × Nat) := [(0, 11, 14, 13)]
abbrev zwL : List Cond := Cond.codeWith zyL method_3_code 6 (some .int) zhL :: zTBL
set_option maxRecDepth 1000000 in
theorem zlaw_fr : zfr 328 = 14 ∧ zlo 328 = 588 ∧ zow 328 = 15 := by decide +kernel
set_option maxRecDepth 1000000 in
theorem zx_w4 : ([Cond.codeWith zyL method_3_code 6 (some .int) zhL, Cond.static zyL, Cond.initialized "CoinScriptsLaw", Cond.methodLink "CoinScriptsLaw" 7 (zy 165), Cond.instanceMethod (zy 165), Cond.selects (zy 165).cls (zy 165) (zy 165), Cond.initialized (zy 165).cls, Cond.classLink "CoinScriptsLaw" 13 zXn, Cond.initialized zyL.cls].all (fun w => decide (w ∈ lw_tbl) && goodWord w)) = true := by decide +kernel
set_option maxRecDepth 1000000 in
theorem zx_w5 : Cond.castable zXn zXn ∈ zNW := by decide +kernel
