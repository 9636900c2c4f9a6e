theorem zOfWH {l : Launch} {y : MethodName} {ws ws' : List Cond} {rm : Room} {Pc : Array Value → State → Prop} {Qc : Array Value → State → Outcome → State → Prop} {mc ms : Nat} {free : Addr → Prop} {cc : ByteArray} {maxL : Nat} {ret : Option FieldType} {hh : List (Nat × Nat × Nat × Nat)}
    (hy : plainName y.cls = true) (hw : ws = Cond.codeWith y cc maxL ret hh :: ws')
    (body : ∀ p e s m args below meth c s₁, BodyLoose p l y (headSpec ws rm) cc maxL ret e s m args below meth c s₁ → c.maxLocals = maxL → Pc args s →
      W p l e (headSpec ws rm).room s m args below meth c s.heap [] 0 0 (MQ below Qc args s mc ms free) (entryFrame m args maxL)) : Met l y ws rm Pc Qc mc ms free := by
  refine MetFree.of_bodyS (code := cc) (maxLocals := maxL) (ret := ret) hy ?_ ?_
  · intro args s m h hn
    obtain ⟨m9, meth, c, hn9, h1, h2, h3, h4, -, h5, h6, -⟩ := Cond.codeWith_spec (atoms_spec (ws := ws) h _ (by rw [hw]; exact List.mem_cons_self))
    cases hn.symm.trans hn9
    exact ⟨meth, c, h1, h2, h3, h4, h5, h6⟩
  · intro p e s m args below meth c s₁ B hml hP _
    have hh0 : s₁.heap = s.heap := by rw [B.state]; rfl
    obtain ⟨t, a1, o, b1, b2, b3⟩ := body p e s m args below meth c s₁ B hml hP s₁ hh0 (Stand.of_body B)
    exact ⟨t, o, a1, b1, b2, ⟨b3.1, b3.2⟩⟩
theorem zblindX {D : va_G} {cy : Nat → ClassId} {ad ro : Nat → Nat} {xs : Nat → Nat → Int32} {Ls : Nat → Nat} {σ : zS} {ks : List Nat} {as : List Value} {sz : Nat} : FrameBlind (va_Pc as (zPreX D cy ad ro xs Ls σ ks sz)) := fun a U g mk h => by
  obtain ⟨h1, h2, h3, h4⟩ := h
  exact ⟨h1, (zblind (as := as) a U g mk ⟨h1, h2⟩).2, vx_Zq.moved (u := U) (U := U.calling g mk a) (Vm.Alike.refl U.vm) h3, vx_Zq.moved (u := U) (U := U.calling g mk a) (Vm.Alike.refl U.vm) h4⟩
theorem zw31 {cy : Nat → ClassId} {ad ro : Nat → Nat} {σ : zS} {ks : List Nat} {k z : Nat} (hks : ∀ kd ∈ ks, kd < 22) : zw cy ad ro (σ.1, σ.2.1, σ.2.2.1, zlen1 σ.2.2.2.1 31 k, σ.2.2.2.2.1, z) ks = zw cy ad ro σ ks := by
  apply List.ext_getElem?
  intro i
  cases hc : ks[i]? with
  | none => rw [zw_none hc, zw_none hc]
  | some kd =>
    have hkd := hks _ (List.mem_of_getElem? hc)
    rw [zw_get hc, zw_get hc]
    rw [zcell_congr (cy := cy) (ad := ad) (ro := ro) (kd := kd) (r := 32 * i + kd) (τ := (σ.1, σ.2.1, σ.2.2.1, zlen1 σ.2.2.2.1 31 k, σ.2.2.2.2.1, z)) (σ := σ) rfl rfl rfl (zlen1_ne (by omega))]
theorem zcallX {p : Program} {l : Launch} {e : Env} {R : Room} {s : State} {m : MethodId} {args : Array Value} {below : List Frame} {meth : Method} {c : Code} {H : Heap} {locs : List Loc} {cells slots : Nat} {Q : State → Prop} {D : va_G} {cy : Nat → ClassId} {ad ro : Nat → Nat} {A : Nat → Prop} {xs : Nat → Nat → Int32} {Ls : Nat → Nat} {σ τ : zS} {ks : List Nat} {pc : Nat} {lsA : Array Slot} {rest : List Value}
    {mc ms : Nat} {st0 : List Value} {r : Option Value} {aa : Array Value} (hr : vx_Run p l e R s m args below meth c H locs cells slots mc ms (F0 m pc lsA st0) rest (zPostL D cy ad ro xs Ls σ ks H.size r τ aa) (zXC D cy ad ro xs Ls σ ks H.size r τ) (va_A (zw cy ad ro σ ks) H.size)) (hA : ∀ x, s.heap.size ≤ x → A x) (hS : zSt s D cy ad ro A xs Ls σ ks H locs)
    (kx : ∀ (q9 : Nat) (ce : Cell) (ad' : Nat → Nat) (ks' : List Nat) (H1 : Heap) (locs1 : List Loc), r = some (.retAddr 41) → zext ad ks ad' ks' → zSt s D cy ad' ro A xs Ls τ ks' H1 locs1 → H1[q9]? = some ce → ce.vm = .none → s.vm.findClass zXn = some ce.cls → vx_W p l e R s m args below meth c H1 locs1 (cells + mc) (slots + ms) Q (F0 m pc lsA rest) q9)
    (kk : ∀ (ad' : Nat → Nat) (ks' : List Nat) (H1 : Heap) (locs1 : List Loc), zext ad ks ad' ks' → zSt s D cy ad' ro A xs Ls τ ks' H1 locs1 → (∃ v, r = some (.long v)) → W p l e R s m args below meth c H1 locs1 (cells + mc) (slots + ms) Q (F0 m (pc + 3) lsA ((r.map (zv ad' ro)).toList ++ rest))) : W p l e R s m args below meth c H locs cells slots Q (F0 m pc lsA st0) := by
  intro T hT X
  have hf := zfree hA hS
  rcases hr T hT X with ⟨v, st₀, t, T', L, h0, X', hL, e1, e2, hq, st⟩ | ⟨q9, st₀, t, T', L, E, ce, h0, X', hL, e1, e2, hq, hcell, hvm, hcl, st⟩
  · obtain ⟨hlv, ⟨ad', ks', hxt, hv, hP1, hD1, hI1, hRO1, hvk⟩, hz, hk⟩ := hq
    cases hv
    rw [h0] at hz hk
    obtain ⟨t2, a1, b1⟩ := kk ad' ks' T'.heap (locs ++ L) hxt ⟨by rw [e1]; exact hP1, hD1.weaken (fun _ x _ h => hf x.1 h), ⟨Nat.le_trans hS.2.2.1.1 (by rw [e1]; exact hz), fun x h1 h2 => by
        rw [e1, hk x (Nat.lt_of_lt_of_le h1 hS.2.2.1.1) (fun z => h2 (hf x z))]
        exact hS.2.2.1.2.1 x h1 h2, fun x hx => by
        rcases List.mem_append.mp hx with h | h
        · exact hS.2.2.1.2.2 x h
        · exact hf _ (hL x h)⟩, hI1, hRO1⟩ hlv T' rfl X'
    exact ⟨t2, st t2 a1, b1⟩
  · obtain ⟨⟨rfl, hre, ad', ks', hxt, hP1, hD1, hI1, hRO1⟩, hz, hk⟩ := hq
    rw [h0] at hz hk
    obtain ⟨t2, a1, b1⟩ := kx q9 ce ad' ks' T'.heap (locs ++ L) hre hxt ⟨by rw [e1]; exact hP1, hD1.weaken (fun _ x _ h => hf x.1 h), ⟨Nat.le_trans hS.2.2.1.1 (by rw [e1]; exact hz), fun x h1 h2 => by
        rw [e1, hk x (Nat.lt_of_lt_of_le h1 hS.2.2.1.1) (fun z => h2 (hf x z))]
        exact hS.2.2.1.2.1 x h1 h2, fun x hx => by
        rcases List.mem_append.mp hx with h | h
        · exact hS.2.2.1.2.2 x h
        · exact hf _ (hL x h)⟩, hI1, hRO1⟩ (by rw [e1]; exact hcell) hvm hcl T' rfl X'
    exact ⟨t2, st.trans a1, b1⟩
set_option maxHeartbeats 4000000 in
theorem zmetL {l : Launch} {n : Nat} (hst0 : l.stackTraces = false) (IH : zSim l n) (hck : ∀ q, q < 329 → zck q = true) {a b : Nat} {w y z k : Int32} {σ τ σ3 : zS} {r : Option Value} {rs : List Value} (hrun : zrun zGG n (zGG 165).1 ((zGG 165).1 0) (zent [.ref a, .int w, .int y, .int z] (zGG 165).2) [] σ = some (r, τ)) (hlen : (zlay [.ref a, .int w, .int y, .int z]).length ≤ (zGG 165).2)
    (haft : zaft (zlco 165 41) r (.ref b :: rs) τ = some (.int k :: rs, σ3)) (ha11 : a % 32 = 11)
    (D : va_G) (cy : Nat → ClassId) (ad ro : Nat → Nat) (xs : Nat → Nat → Int32) (Ls : Nat → Nat) (ks : List Nat) (sz : Nat) (hinv : zinv σ ks) (hRO : ∀ k, k < 2 → σ.1 (32 * k + 22) = xs k ∧ σ.2.2.2.1 (32 * k + 22) = Ls k) (ha : zok ks a) (hb9 : zok ks b) :
    Met l zyL zwL { frames := zfr 165 + 1, cells := σ3.2.2.2.2.1 + σ3.2.2.2.1 31 - (σ.2.2.2.2.1 + σ.2.2.2.1 31), slots := σ3.2.2.2.2.2 - σ.2.2.2.2.2, locals := 8 + (zml 165 + 11) + zlo 165 } (va_Pc ([Value.ref a, .int w, .int y, .int z, .ref b].map (zv ad ro)) (zPreX D cy ad ro xs Ls σ ks sz)) (zPost D cy ad ro xs Ls σ ks sz (some (.int k)) σ3) (σ3.2.2.2.2.1 + σ3.2.2.2.1 31 - (σ.2.2.2.2.1 + σ.2.2.2.1 31)) (σ3.2.2.2.2.2 - σ.2.2.2.2.2) (va_A (zw cy ad ro σ ks) sz) := by
  obtain ⟨m1, m2, m3, m4, m5, m6⟩ := zM_of (q := 165) (by decide)
  obtain ⟨x1, x2, x3, x4, x5, x6, x7, x8, x9⟩ := zx_rows
  have hw4 := zTBL_in zx_w4
  obtain ⟨b', s', hbs, hcase⟩ := zaft_lco haft
  cases hbs
  obtain ⟨hm1, hm2, hm3⟩ := zrun_mono _ _ _ _ _ _ _ _ hrun
  have hM := zmetX (mc := σ3.2.2.2.2.1 + σ3.2.2.2.1 31 - (σ.2.2.2.2.1 + σ.2.2.2.1 31)) (ms := σ3.2.2.2.2.2 - σ.2.2.2.2.2) hst0 IH hck hrun hlen D cy ad ro xs Ls ks sz hinv hRO (fun v hv => by
    simp at hv
    rcases hv with rfl | rfl | rfl | rfl
    · exact ha
    · trivial
    · trivial
    · trivial) (by
    rcases hcase with ⟨v, rfl, -, -, -, rfl⟩ | ⟨rfl, -, rfl⟩
    · exact Or.inl ⟨v, rfl, Nat.le_refl _, Nat.le_refl _⟩
    · refine Or.inr ⟨rfl, ?_, ?_⟩
      · dsimp only
        rw [zlen1_at]
        omega
      · dsimp only
        omega)
  refine zOfWH (cc := method_3_code) (maxL := 6) (ret := some .int) (hh := zhL) (by decide +kernel) rfl ?_
  intro p e s m args below meth c s₁ B hml hv
  obtain ⟨rfl, hpx⟩ := hv
  have hpx0 := hpx
  obtain ⟨⟨hsz, hP, hK, hD0, hnw, hro, hZ⟩, hUU, hN⟩ := hpx0
  have hx := B.exec
  have hb := B.bytes
  have hr := B.returns
  have hts0 := atoms_spec (ws := zwL) B.pre
  have hts : ∀ w' ∈ zTBL, w'.before _ s = true := fun w' hw => hts0 w' (List.mem_cons_of_mem _ hw)
  have hown : s.vm.findClass "CoinScriptsLaw" = some m.cls := findClass_of_methodNamed B.named
  have hlocks := B.notSynchronized
  have htab := vx_table (x := zyL) B (hts0 _ List.mem_cons_self)
  subst hsz
  have hD := hD0.self (sz := s.heap.size)
  have hA : ∀ x, s.heap.size ≤ x → va_A (zw cy ad ro σ ks) s.heap.size x := fun x h => Or.inr h
  have hSt : zSt s D cy ad ro (va_A (zw cy ad ro σ ks) s.heap.size) xs Ls σ ks s.heap [] := ⟨hP, hD, va_S.rf, hinv, hRO⟩
  have hl := lv_entry ([Value.ref a, .int w, .int y, .int z, .ref b].map (zv ad ro)) (n := 6) (Nat.le_of_ble_eq_true rfl)
  rw [lg_entry_eq]
  generalize (lg_sl ([Value.ref a, .int w, .int y, .int z, .ref b].map (zv ad ro)) ++ List.replicate (6 - (lg_sl ([Value.ref a, .int w, .int y, .int z, .ref b].map (zv ad ro))).length) Slot.unset).toArray = lsA at hl ⊢
  have hl : lv_has lsA 6 [(0, .ref (zad ad ro a)), (1, .int w), (2, .int y), (3, .int z), (4, .ref (zad ad ro b))] := hl
  refine lv_aload hx hb (show decode method_3_code 0 = .ok (.aload 4, 2) by decide +kernel) (lv_at hl 4 rfl) ?_
  refine lv_iconst (v := 0) hx hb (show decode method_3_code 2 = .ok (.iconst 0, 1) by decide +kernel) (by decide) ?_
  refine lv_aload_n hx hb (show decode method_3_code 3 = .ok (.aload_n 0, 1) by decide +kernel) rfl (lv_at hl 0 rfl) ?_
  refine lv_iload_n hx hb (show decode method_3_code 4 = .ok (.iload_n 1, 1) by decide +kernel) rfl (lv_at hl 1 rfl) ?_
  refine lv_iload_n hx hb (show decode method_3_code 5 = .ok (.iload_n 2, 1) by decide +kernel) rfl (lv_at hl 2 rfl) ?_
  refine lv_iload_n hx hb (show decode method_3_code 6 = .ok (.iload_n 3, 1) by decide +kernel) rfl (lv_at hl 3 rfl) ?_
  have hat := zw_at (cy := cy) (ad := ad) (ro := ro) (σ := σ) (zok_in ha (by omega)) (by omega)
  rw [zcell_obj (by omega)] at hat
  have hrc := va_recv hK hP (zcl _ (show a % 32 < 15 by omega)) hat
  dsimp only at hrc
  rw [ha11, ← x1, ← m2] at hrc
  have pre : ∀ U : State, U.heap = s.heap → s.WarmedH U.vm → va_Pc ([Value.ref a, .int w, .int y, .int z].map (zv ad ro)) (zPreX D cy ad ro xs Ls σ ks s.heap.size) ([Value.ref a, .int w, .int y, .int z].map (zv ad ro)).toArray U := fun U hU hW => by
    refine ⟨rfl, ⟨by rw [hU], by rw [hU]; exact hP, va_K.moved hW.alike hK, hD0, zNW_warm hW hnw, fun k hk => ⟨by rw [hU]; exact va_X.moved hW.alike (hro k hk).1, (hro k hk).2⟩, by rw [hU]; exact va_Z.moved hW.alike hZ⟩, by rw [hU]; exact vx_Zq.moved hW.alike hUU, by rw [hU]; exact vx_Zq.moved hW.alike hN⟩
  refine zcallX (rest := [.int 0, .ref (zad ad ro b)]) (vx_runV (Ts := zTBL) (own := "CoinScriptsLaw") (C := (zy 165).cls) (As := [.int w, .int y, .int z]) (b := zad ad ro a) (ws := zws 165) (maxL := zml 165) (bytes := zby 165) (ret := zrt 165) (n := znp 165) ⟨hx, hb, hml, hown, hts⟩ hM ⟨callB_of (znp 165) hts (zgood (by decide)) rfl rfl rfl (hts _ (hw4 _ (List.mem_of_getElem? (i := 6) rfl))) (hts _ (hw4 _ (List.mem_of_getElem? (i := 3) rfl))) ⟨m4.1, m4.2, m6⟩ ⟨Nat.le_refl _, Nat.le_refl _⟩, hts _ (hw4 _ (List.mem_of_getElem? (i := 4) rfl)), hts _ (hw4 _ (List.mem_of_getElem? (i := 5) rfl))⟩ ⟨zblindX, hrc, pre⟩ rfl (by rw [x9]; rfl) hl.1 rfl (lv_room (Nat.le_of_ble_eq_true rfl)) (show decode method_3_code 7 = .ok (.invokevirtual 7, 3) by decide +kernel) ⟨by rw [Nat.zero_add]; exact Nat.le_refl _, by rw [Nat.zero_add]; exact Nat.le_refl _⟩) hA hSt ?_ ?_
  · intro q9 ce ad' ks' H1 locs1 hre hE hS1 hcell hvm hcl
    rcases hcase with ⟨v, h9, -⟩ | ⟨-, h9, rfl⟩
    · rw [h9] at hre; cases hre
    cases h9
    refine vx_catch (own := "CoinScriptsLaw") (name := zXn) (E := zXn) (ce := ce) hown [] _ [] htab (fun x h => absurd h List.not_mem_nil) rfl (by decide) (hts _ (hw4 _ (List.mem_of_getElem? (i := 7) rfl))) (va_Nw.use rfl (hnw _ zx_w5)) hcell hvm hcl ?_
    refine lv_astore (lv' := [(5, .ref q9), (0, .ref (zad ad ro a)), (1, .int w), (2, .int y), (3, .int z), (4, .ref (zad ad ro b))]) hx hb (show decode method_3_code 14 = .ok (.astore 5, 2) by decide +kernel) hl (by decide) rfl (fun ls hl => ?_)
    refine lv_iconst (v := 1) hx hb (show decode method_3_code 16 = .ok (.iconst 1, 1) by decide +kernel) (by decide) ?_
    refine W.widen (k := _) (n := _) (Nat.le_of_eq (Nat.zero_add _)) (Nat.le_of_eq (Nat.zero_add _)) ?_
    exact W.iret (v := 1) hx hb hr (fun t ht hW => ⟨⟨ad', ks', hE, rfl, by rw [ht, zw31 hS1.2.2.2.1.2.1]; exact hS1.1, by rw [zw31 hS1.2.2.2.1.2.1]; exact hS1.2.1, ⟨hS1.2.2.2.1.1, hS1.2.2.2.1.2.1, hS1.2.2.2.1.2.2.1, hS1.2.2.2.1.2.2.2⟩, fun k hk => ⟨(hS1.2.2.2.2 k hk).1, (zlen1_ne (by omega)).trans (hS1.2.2.2.2 k hk).2⟩, fun v h => by cases h; exact trivial⟩, hS1.2.2.1.F ht⟩) hS1.2.2.1.2.2 (show decode method_3_code 17 = .ok (.ireturn, 1) by decide +kernel)
  · intro ad' ks' H1 locs1 hE hS1 hvk
    have hcase9 : ∃ v, r = some (.long v) ∧ b % 32 = 17 ∧ 0 < τ.2.2.2.1 b ∧ k = 0 ∧ σ3 = (τ.1, zu τ.2.1 b 0 v, τ.2.2) := by
      rcases hcase with ⟨v, h1, h2, h3, h4, h5⟩ | ⟨h1, -, -⟩
      · cases h4
        exact ⟨v, h1, h2, h3, rfl, h5⟩
      · obtain ⟨v, hv⟩ := hvk
        rw [h1] at hv
        cases hv
    obtain ⟨v, rfl, hb17, hNb, rfl, rfl⟩ := hcase9
    have hbk : zok ks' b := zok_ext hE hb9
    have ezb : zad ad ro b = zad ad' ro b := (zad_of hE.1 hb9).symm
    rw [ezb]
    have hat2 := zw_at (cy := cy) (ad := ad') (ro := ro) (σ := τ) (zok_in hbk (by omega)) (by omega)
    have hset : (zw cy ad' ro τ ks').set (b / 32) (zad ad' ro b, .inl (cy 2, τ.2.2.2.1 b, .inr (.inl (vp_updL (τ.2.1 b) 0 v)))) = zw cy ad' ro (τ.1, zu τ.2.1 b 0 v, τ.2.2) ks' := zw_set hS1.2.2.2.1.2.1 (zok_in hbk (by omega)) (by rw [zcell_J hb17, ← zu_J]) zoJ
    rw [zcell_J hb17] at hat2
    refine va_last (D := D) (i := 0) hx hb hK hS1.1 hS1.2.1 hS1.2.2.1 (b / 32) 2 hat2 rfl (by rw [vp_in_iff]; exact ⟨by decide, by show (0 : Int) < _; omega⟩) (show decode method_3_code 10 = .ok (.lastore, 1) by decide +kernel) (fun H2 locs2 hP2 hD2 hS2 => ?_)
    have hP2 : va_P D vwCl ((zw cy ad' ro τ ks').set (b / 32) (zad ad' ro b, .inl (cy 2, τ.2.2.2.1 b, .inr (.inl (vp_updL (τ.2.1 b) 0 v))))) H2 := hP2
    have hD2 : va_D _ ((zw cy ad' ro τ ks').set (b / 32) (zad ad' ro b, .inl (cy 2, τ.2.2.2.1 b, .inr (.inl (vp_updL (τ.2.1 b) 0 v))))) := hD2
    rw [hset] at hP2 hD2
    refine lv_goto (tgt := 18) hx hb (show decode method_3_code 11 = .ok (.goto 7, 3) by decide +kernel) (by decide) ?_
    refine lv_iconst (v := 0) hx hb (show decode method_3_code 18 = .ok (.iconst 0, 1) by decide +kernel) (by decide) ?_
    refine W.widen (k := _) (n := _) (Nat.le_of_eq (Nat.zero_add _)) (Nat.le_of_eq (Nat.zero_add _)) ?_
    exact W.iret (v := 0) hx hb hr (fun t ht hW => ⟨⟨ad', ks', hE, rfl, by rw [ht]; exact hP2, hD2, zinv_J hS1.2.2.2.1, hS1.2.2.2.2, fun v h => by cases h; exact trivial⟩, hS2.F ht⟩) hS2.2.2 (show decode method_3_code 19 = .ok (.ireturn, 1) by decide +kernel)
theorem zPreX_of {p : Program} {l : Launch} {R : Room} {s : State} {m : MethodId} {args : Array Value} {meth : Method} {c : Code} {H : Heap} {locs : List Loc} {q : Nat} {D : va_G} {cy : Nat → ClassId} {ad ro : Nat → Nat} {A : Nat → Prop} {xs : Nat → Nat → Int32} {Ls : Nat → Nat} {σ : zS} {ks : List Nat} (C : zCx l q R p s m args meth c D cy ro A xs Ls) (hq : q = 328) (hS : zSt s D cy ad ro A xs Ls σ ks H locs) {as : List Value} : ∀ U : State, U.heap = H → s.WarmedH U.vm → va_Pc as (zPreX D cy ad ro xs Ls σ ks H.size) as.toArray U := fun U hU hW => by
  have h := zpre C hS (as := as) U hU hW
  have hf := zfree C.2.2.2.2.2.2.2.1 hS
  obtain ⟨-, hx1, hx2⟩ := C.2.2.2.2.2.2.2.2.2.2.2.2.2 hq
  refine ⟨h.1, h.2, ?_, ?_⟩
  · rw [hU]
    exact vx_Zq.moved hW.alike (vx_Zq.narrow (vx_Zq.kept hx1 hS.2.2.1.2.1) hf)
  · rw [hU]
    exact vx_Zq.moved hW.alike (vx_Zq.narrow (vx_Zq.kept hx2 hS.2.2.1.2.1) hf)
set_option maxRecDepth 1000000 in
theorem zLC_ok : (zLCs.all fun e => zwd e.2.2.2.2 (.methodLink (zon e.1) e.2.1 zyL) && decide (e.2.2.1 = 165) && decide (e.2.2.2.1 = 41)) = true := by decide +kernel
set_option maxHeartbeats 4000000 in
theorem zlco_of {l : Launch} {n : Nat} (hck : ∀ q, q < 329 → zck q = true) (IH : zSim l n) : zLco l n := by
  intro q p e s m args below meth c R D cy ro A xs Ls Q n0 z0 r τ ad0 ks0 e9 idx he9 h1 h2 hq C hRc hRs K rest pc ls st σ ad ks H locs cells slots lsA o x hd ho hx hr hc hS hE hlh hlk hsk hn hz
  have C' := C
  obtain ⟨hX, hb, hml, hown, hts, hnw, hK, hA, hro, hZ, hfr, hlo, hnm, hex⟩ := C'
  obtain ⟨hst0, -, -⟩ := hex hq
  have hw := List.all_eq_true.mp zLC_ok e9 he9
  simp only [Bool.and_eq_true, decide_eq_true_eq] at hw
  obtain ⟨⟨hw1, hw2⟩, hw3⟩ := hw
  rw [h1, h2] at hw1
  rw [hw2, hw3] at ho
  subst ho
  obtain ⟨b, z, y, w, a, rs, rfl, ha11, hb17, hNb, hcat, rfl⟩ := zvLco (show zsLco 165 ls st σ = some x from hx)
  obtain ⟨hlen9, v9, σ2, st9, σ9, hrun9, haft, hr2⟩ := hr
  obtain ⟨x1, x2, x3, x4, x5, x6, x7, x8, x9⟩ := zx_rows
  obtain ⟨f1, f2, f3⟩ := zlaw_fr
  have hb9 : zok ks b := zsk_hd hsk
  have ha9 : zok ks a := zsk_hd (zsk_tl (zsk_tl (zsk_tl (zsk_tl hsk))))
  have hskr : zsk ks rs := zsk_tl (zsk_tl (zsk_tl (zsk_tl (zsk_tl hsk))))
  have hk9 : ∃ k : Int32, st9 = .int k :: rs := by
    obtain ⟨b', s', hbs, hcase⟩ := zaft_lco haft
    cases hbs
    rcases hcase with ⟨v, -, -, -, h, -⟩ | ⟨-, h, -⟩
    · exact ⟨0, h⟩
    · exact ⟨1, h⟩
  obtain ⟨k, rfl⟩ := hk9
  obtain ⟨hm1, hm2, hm3⟩ := zrun_mono _ _ _ _ _ _ _ _ hrun9
  obtain ⟨hm4, hm5, hm6⟩ := zaft_mono haft
  obtain ⟨hm7, hm8, hm9⟩ := zrun_mono _ _ _ _ _ _ _ _ hr2
  have hM := zmetL hst0 IH hck hrun9 hlen9 haft ha11 D cy ad ro xs Ls ks H.size hS.2.2.2.1 hS.2.2.2.2 ha9 hb9
  have hw4 := zTBL_in zx_w4
  have e8 : List.map (zv ad ro) (Value.ref b :: .int z :: .int y :: .int w :: .ref a :: rs) = ([Value.ref a, .int w, .int y, .int z, .ref b].map (zv ad ro)).reverse ++ rs.map (zv ad ro) := rfl
  rw [e8]
  refine zcallW (vx_runSW (Ts := zTBL) (own := zon (zow q)) (ws := zwL) (maxL := 6) (bytes := method_3_code) (ret := some .int) (hh := zhL) (n := 5) ⟨hX, hb, hml, hown, hts⟩ hM ⟨⟨rfl, rfl, by show zfr 165 + 1 + 1 ≤ R.frames; rw [hfr, hq, f1]; omega, by show 8 + (6 + 11) + (8 + (zml 165 + 11) + zlo 165) ≤ R.locals; rw [hlo, hq, f2]; omega, fun w' hw' a' U hW => ?_, List.mem_cons_self⟩, hts _ (hw4 _ (List.mem_of_getElem? (i := 0) rfl)), hts _ (hw4 _ (List.mem_of_getElem? (i := 8) rfl)), ⟨by decide, by decide⟩, fun sig hsig => ?_, hts _ (zwd_ok hw1), hts _ (hw4 _ (List.mem_of_getElem? (i := 1) rfl))⟩ ⟨zblindX, zPreX_of C hq hS⟩ rfl rfl hlh.2.1 rfl (lv_room (by rw [zcat_map]; exact hcat)) hd ⟨by omega, by omega⟩) hA hS (fun ad9 ks9 H1 locs1 hE9 hS1 hv9 => ?_)
  · rcases List.mem_cons.mp hw' with rfl | h
    · exact word_at hW (zTBL_good (hw4 _ (List.mem_of_getElem? (i := 0) rfl))) (hts _ (hw4 _ (List.mem_of_getElem? (i := 0) rfl)))
    · exact word_at hW (zTBL_good h) (hts _ h)
  · have h9 : (parseMethodDescriptor zyL.desc).map (fun d => d.parameters.length) = some 5 := by decide +kernel
    rw [hsig] at h9
    exact (Option.some.inj h9).symm
  · have e9 : ((some (Value.int k)).map (zv ad9 ro)).toList ++ List.map (zv ad ro) rs = List.map (zv ad9 ro) (.int k :: rs) := by
      rw [List.map_cons, zvs_of hE9.1 hskr]
      rfl
    rw [e9]
    exact K rest (pc + 3) ls (.int k :: rs) σ9 ad9 ks9 H1 locs1 _ _ lsA hr2 hc hS1 (zext_tr hE hE9) (zlh_of hE9.1 hlk hlh) (zlk_ext hE9 hlk) (zsk_cons trivial (zsk_ext hE9 hskr)) (by omega) (by omega)
set_option maxRecDepth 1000000 in
theorem zsim_all {l : Launch} (hck : ∀ q, q < 329 → zck q = true) (n : Nat) : zSim l n := zsim hck (fun n h => zlco_of hck h) n
