/-! Makings and copies. -/
theorem zmake_eq {σ : zS} {kd len z : Nat} : zmake σ kd len z = (zrow σ.1 (32 * σ.2.2.2.2.1 + kd) 0, zrow σ.2.1 (32 * σ.2.2.2.2.1 + kd) 0, zrow σ.2.2.1 (32 * σ.2.2.2.2.1 + kd) none, zlen1 σ.2.2.2.1 (32 * σ.2.2.2.2.1 + kd) len, σ.2.2.2.2.1 + 1, σ.2.2.2.2.2 + z) := rfl
theorem zvCln {ls : zL} {st : List Value} {σ : zS} {x : zR} {kd : Nat} (h : zsCln kd ls st σ = some x) : ∃ a r, st = .ref a :: r ∧ zcat r ≤ 8 ∧ a % 32 = kd ∧ (kd = 15 ∨ kd = 16 ∨ kd = 17) ∧ x = .inl (0, ls, .ref (32 * σ.2.2.2.2.1 + kd) :: r, (zlike σ.1 a (32 * σ.2.2.2.2.1 + kd), zlike σ.2.1 a (32 * σ.2.2.2.2.1 + kd), zrow σ.2.2.1 (32 * σ.2.2.2.2.1 + kd) none, zlen1 σ.2.2.2.1 (32 * σ.2.2.2.2.1 + kd) (σ.2.2.2.1 a), σ.2.2.2.2.1 + 1, σ.2.2.2.2.2 + σ.2.2.2.1 a)) := by
  unfold zsCln at h
  split at h
  · split at h
    · rename_i hc
      obtain ⟨h1, h2, h3⟩ := hc
      rw [h2] at h
      cases h
      exact ⟨_, _, rfl, h1, h2, h3, rfl⟩
    · cases h
  · cases h
/-- a new cell keeps what always holds -/
theorem zinv_new {σ : zS} {ks : List Nat} {kd z : Nat} {I : zI} {J : zJ} {N : Nat → Nat} (h : zinv σ ks) (hkd : kd < 22) (hI : ∀ r, r ≠ 32 * σ.2.2.2.2.1 + kd → I r = σ.1 r) (hB : kd = 15 → ∀ j, fits .byte (.int (I (32 * σ.2.2.2.2.1 + kd) j)) = true) :
    zinv (I, J, zrow σ.2.2.1 (32 * σ.2.2.2.2.1 + kd) none, N, σ.2.2.2.2.1 + 1, z) (ks ++ [kd]) := by
  obtain ⟨h1, h2, h3, h4⟩ := h
  refine ⟨?_, ?_, ?_, ?_⟩
  · show (ks ++ [kd]).length = σ.2.2.2.2.1 + 1
    simp [h1]
  · intro k hk
    rcases List.mem_append.mp hk with hk | hk
    · exact h2 k hk
    · simp at hk; omega
  · intro r hr j x hx
    have hx : zrow σ.2.2.1 (32 * σ.2.2.2.2.1 + kd) none r j = some x := hx
    unfold zrow at hx
    split at hx
    · cases hx
    · rename_i hne
      have hr2 : ks[r / 32]? = some (r % 32) := by
        by_cases hlt : r / 32 < ks.length
        · rwa [List.getElem?_append_left hlt] at hr
        · exfalso
          rw [List.getElem?_append_right (by omega)] at hr
          have h0 : r / 32 - ks.length = 0 := by
            have := (List.getElem?_eq_some_iff.mp hr).1
            simp at this
            exact this
          rw [h0] at hr
          simp at hr
          omega
      exact zok_app (h3 r hr2 j x hx)
  · intro r hr j
    show fits .byte (.int (I r j)) = true
    by_cases e : r = 32 * σ.2.2.2.2.1 + kd
    · subst e
      exact hB (by omega) j
    · rw [hI r e]
      exact h4 r hr j
theorem zad_new {ad ro : Nat → Nat} {n kd x : Nat} (hkd : kd < 22) : zad (zadn ad n x) ro (32 * n + kd) = x := by
  unfold zad zadn
  rw [zmd n kd (by omega), zdv n kd (by omega), if_neg (by omega), if_pos rfl]
section
variable {p : Program} {l : Launch} {e : Env} {R : Room} {s : State} {m : MethodId} {args : Array Value} {below : List Frame} {meth : Method} {c : Code} {H : Heap} {locs : List Loc} {cells slots : Nat} {Q : State → Prop}
variable {q : Nat} {D : va_G} {cy : Nat → ClassId} {ad ro : Nat → Nat} {A : Nat → Prop} {xs : Nat → Nat → Int32} {Ls : Nat → Nat} {σ τ : zS} {ks : List Nat} {pc : Nat} {lsA : Array Slot} {rest : List Value}
theorem zo_new {kd z len : Nat} : ∀ x, x ≠ 32 * σ.2.2.2.2.1 + kd → (zmake σ kd len z).1 x = σ.1 x ∧ (zmake σ kd len z).2.1 x = σ.2.1 x ∧ (zmake σ kd len z).2.2.1 x = σ.2.2.1 x ∧ (zmake σ kd len z).2.2.2.1 x = σ.2.2.2.1 x := fun x h => by
  rw [zmake_eq]
  exact ⟨zrow_ne h, zrow_ne h, zrow_ne h, zlen1_ne h⟩
theorem zSt_new {kd q' : Nat} {E : va_E} {H1 : Heap} (hS : zSt s D cy ad ro A xs Ls σ ks H locs) (hkd : kd < 22) (hE : zcell cy (zadn ad ks.length q') ro τ kd (32 * ks.length + kd) = E)
    (ho : ∀ x, x ≠ 32 * σ.2.2.2.2.1 + kd → τ.1 x = σ.1 x ∧ τ.2.1 x = σ.2.1 x ∧ τ.2.2.1 x = σ.2.2.1 x ∧ τ.2.2.2.1 x = σ.2.2.2.1 x) (hI' : zinv τ (ks ++ [kd]))
    (hP1 : va_P D vwCl (zw cy ad ro σ ks ++ [(q', E)]) H1) (hD1 : va_D A (zw cy ad ro σ ks ++ [(q', E)])) (hS1 : va_S A s.heap H1 locs) : zSt s D cy (zadn ad ks.length q') ro A xs Ls τ (ks ++ [kd]) H1 locs := by
  obtain ⟨hP, hD, hSS, hI, hRO⟩ := hS
  have hn : σ.2.2.2.2.1 = ks.length := hI.1.symm
  have e := zw_app (cy := cy) (ad := ad) (ro := ro) (q := q') hI hkd hE (by rw [← hn]; exact ho)
  exact ⟨e ▸ hP1, e ▸ hD1, hS1, hI', zRO_of hRO (by omega) ho⟩
theorem zW_new (C : zCx l q R p s m args meth c D cy ro A xs Ls) (hS : zSt s D cy ad ro A xs Ls σ ks H locs) {c0 idx : Nat} (hc : c0 < 15) (h1 : Cond.classLink (zon (zow q)) idx (zon c0) ∈ zTBL) (h2 : Cond.instantiable (zon c0) (zfc c0) ∈ zTBL) (h3 : Cond.initialized (zon c0) ∈ zTBL)
    (hcells : cells + 1 ≤ R.cells) (hslots : slots + zfc c0 ≤ R.slots) (hd : decode (zby q) pc = .ok (.new idx, 3))
    (kk : ∀ (q' : Nat) (H1 : Heap), zSt s D cy (zadn ad ks.length q') ro A xs Ls (zmake σ c0 0 (zfc c0)) (ks ++ [c0]) H1 locs → W p l e R s m args below meth c H1 locs (cells + 1) (slots + zfc c0) Q (F0 m (pc + 3) lsA (.ref q' :: rest))) : W p l e R s m args below meth c H locs cells slots Q (F0 m pc lsA rest) := by
  have C' := C
  obtain ⟨hx, hb, hml, hown, hts, hnw, hK, hA, hro, hZ, hfr, hlo, hnm, hex⟩ := C'
  have hS' := hS
  obtain ⟨hP, hD, hSS, hI, hRO⟩ := hS'
  have hn : σ.2.2.2.2.1 = ks.length := hI.1.symm
  refine va_new (D := D) (fs := (List.range (zfc c0)).map (fun j => defaultValue (zft c0 j))) hx hb hts (zin_all _ _ (zcl _ hc)) (zft c0) (zty_ok _ hc) hown (hts _ h1) (hts _ h2) (hts _ h3) hK hP hD hSS hA (zcl _ hc) (fun j hj => ?_) hcells hslots hd (fun q' H1 hP1 hD1 hS1 => ?_)
  · unfold vp_V
    rw [List.getD_eq_getElem?_getD, zfs_get hj]
    rfl
  · refine kk q' H1 (zSt_new hS (by omega) ?_ zo_new (by rw [zmake_eq]; exact zinv_new hI (by omega) (fun r h => zrow_ne h) (fun h => by omega)) hP1 hD1 hS1)
    unfold zcell
    rw [if_pos hc]
    congr 2
    refine List.map_congr_left fun j hj => ?_
    have hj := List.mem_range.mp hj
    have ht := zft_ok hc hj
    rw [← hn, zmake_eq]
    unfold zpl
    dsimp only
    rw [zrow_at, zrow_at, zrow_at]
    cases hty : zft c0 j <;> rw [hty] at ht <;> first | rfl | (simp [zfok] at ht)
theorem zW_newa (C : zCx l q R p s m args meth c D cy ro A xs Ls) (hS : zSt s D cy ad ro A xs Ls σ ks H locs) {aty : ArrayType} {n : Int32} (hk : zak aty < 31) (hn0 : ¬ n < 0) (hn1 : n.toNatClampNeg ≤ 67108864)
    (hcells : cells + 1 ≤ R.cells) (hslots : slots + n.toNatClampNeg ≤ R.slots) (hd : decode (zby q) pc = .ok (.newarray aty, 2))
    (kk : ∀ (q' : Nat) (H1 : Heap), zSt s D cy (zadn ad ks.length q') ro A xs Ls (zmake σ (zak aty) n.toNatClampNeg n.toNatClampNeg) (ks ++ [zak aty]) H1 locs → W p l e R s m args below meth c H1 locs (cells + 1) (slots + n.toNatClampNeg) Q (F0 m (pc + 2) lsA (.ref q' :: rest))) : W p l e R s m args below meth c H locs cells slots Q (F0 m pc lsA (.int n :: rest)) := by
  have C' := C
  obtain ⟨hx, hb, hml, hown, hts, hnw, hK, hA, hro, hZ, hfr, hlo, hnm, hex⟩ := C'
  have hS' := hS
  obtain ⟨hP, hD, hSS, hI, hRO⟩ := hS'
  have hn : σ.2.2.2.2.1 = ks.length := hI.1.symm
  cases aty <;> simp only [zak] at hk kk ⊢ <;> first | (exact absurd hk (by omega)) | skip
  · refine va_newa (D := D) (ty := .boolean) (a0 := (n.toNatClampNeg, .inl (fun _ => 0))) hx hb (hts _ (zw_arr _ (List.mem_of_getElem? (i := 3) rfl))) rfl hK hP hD hSS hA (fun cA => rfl) hn0 rfl (by simp [componentBytes]; omega) hcells hslots hd (fun q' cA H1 hK1 hP1 hD1 hS1 => ?_)
    cases zRA_eq (hK1.2 7 (cA, .boolean) rfl).2 (hK.2 3 (cy 3, .boolean) rfl).2
    refine kk q' H1 (zSt_new hS (by omega) ?_ zo_new (by rw [zmake_eq]; exact zinv_new hI (by omega) (fun r h => zrow_ne h) (fun h => by omega)) hP1 hD1 hS1)
    rw [← hn, zmake_eq]
    simp [zcell, zrow_at, zlen1_at]
  · refine va_newa (D := D) (ty := .byte) (a0 := (n.toNatClampNeg, .inl (fun _ => 0))) hx hb (hts _ (zw_arr _ (List.mem_of_getElem? (i := 0) rfl))) rfl hK hP hD hSS hA (fun cA => rfl) hn0 rfl (by simp [componentBytes]; omega) hcells hslots hd (fun q' cA H1 hK1 hP1 hD1 hS1 => ?_)
    cases zRA_eq (hK1.2 7 (cA, .byte) rfl).2 (hK.2 0 (cy 0, .byte) rfl).2
    refine kk q' H1 (zSt_new hS (by omega) ?_ zo_new (by rw [zmake_eq]; exact zinv_new hI (by omega) (fun r h => zrow_ne h) (fun _ j => by rw [zrow_at]; rfl)) hP1 hD1 hS1)
    rw [← hn, zmake_eq]
    simp [zcell, zrow_at, zlen1_at]
  · refine va_newa (D := D) (ty := .int) (a0 := (n.toNatClampNeg, .inl (fun _ => 0))) hx hb (hts _ (zw_arr _ (List.mem_of_getElem? (i := 1) rfl))) rfl hK hP hD hSS hA (fun cA => rfl) hn0 rfl (by simp [componentBytes]; omega) hcells hslots hd (fun q' cA H1 hK1 hP1 hD1 hS1 => ?_)
    cases zRA_eq (hK1.2 7 (cA, .int) rfl).2 (hK.2 1 (cy 1, .int) rfl).2
    refine kk q' H1 (zSt_new hS (by omega) ?_ zo_new (by rw [zmake_eq]; exact zinv_new hI (by omega) (fun r h => zrow_ne h) (fun h => by omega)) hP1 hD1 hS1)
    rw [← hn, zmake_eq]
    simp [zcell, zrow_at, zlen1_at]
  · refine va_newa (D := D) (ty := .long) (a0 := (n.toNatClampNeg, .inr (.inl (fun _ => 0)))) hx hb (hts _ (zw_arr _ (List.mem_of_getElem? (i := 2) rfl))) rfl hK hP hD hSS hA (fun cA => rfl) hn0 rfl (by simp [componentBytes]; omega) hcells hslots hd (fun q' cA H1 hK1 hP1 hD1 hS1 => ?_)
    cases zRA_eq (hK1.2 7 (cA, .long) rfl).2 (hK.2 2 (cy 2, .long) rfl).2
    refine kk q' H1 (zSt_new hS (by omega) ?_ zo_new (by rw [zmake_eq]; exact zinv_new hI (by omega) (fun r h => zrow_ne h) (fun h => by omega)) hP1 hD1 hS1)
    rw [← hn, zmake_eq]
    simp [zcell, zrow_at, zlen1_at]
theorem zW_newq (C : zCx l q R p s m args meth c D cy ro A xs Ls) (hS : zSt s D cy ad ro A xs Ls σ ks H locs) {kd idx : Nat} {n : Int32} (hk3 : kd = 19 ∨ kd = 20 ∨ kd = 21) (h1 : Cond.classLink (zon (zow q)) idx (zon (zcomp kd)) ∈ zTBL) (h2 : Cond.arrayOver (.object (zon (zcomp kd))) ∈ zNW) (hn0 : ¬ n < 0) (hn1 : n.toNatClampNeg ≤ 67108864)
    (hcells : cells + 1 ≤ R.cells) (hslots : slots + n.toNatClampNeg ≤ R.slots) (hd : decode (zby q) pc = .ok (.anewarray idx, 3))
    (kk : ∀ (q' : Nat) (H1 : Heap), zSt s D cy (zadn ad ks.length q') ro A xs Ls (zmake σ kd n.toNatClampNeg n.toNatClampNeg) (ks ++ [kd]) H1 locs → W p l e R s m args below meth c H1 locs (cells + 1) (slots + n.toNatClampNeg) Q (F0 m (pc + 3) lsA (.ref q' :: rest))) : W p l e R s m args below meth c H locs cells slots Q (F0 m pc lsA (.int n :: rest)) := by
  have C' := C
  obtain ⟨hx, hb, hml, hown, hts, hnw, hK, hA, hro, hZ, hfr, hlo, hnm, hex⟩ := C'
  have hS' := hS
  obtain ⟨hP, hD, hSS, hI, hRO⟩ := hS'
  have hn : σ.2.2.2.2.1 = ks.length := hI.1.symm
  refine va_newq (D := D) hx hb hown (hts _ h1) (hnw _ h2) hK hP hD hSS hA hn0 rfl (by omega) hcells hslots hd (fun q' cA H1 hK1 hP1 hD1 hS1 => ?_)
  have hcA : cA = cy (kd - 15) := by
    have a := (hK1.2 7 (cA, .object (zon (zcomp kd))) rfl).2
    rcases hk3 with rfl | rfl | rfl
    · exact zRA_eq a (hK.2 4 (cy 4, .object RX1) rfl).2
    · exact zRA_eq a (hK.2 5 (cy 5, .object RX6) rfl).2
    · exact zRA_eq a (hK.2 6 (cy 6, .object RX7) rfl).2
  subst hcA
  refine kk q' H1 (zSt_new hS (by omega) ?_ zo_new (by rw [zmake_eq]; exact zinv_new hI (by omega) (fun r h => zrow_ne h) (fun h => by omega)) hP1 hD1 hS1)
  rw [← hn, zmake_eq]
  rcases hk3 with rfl | rfl | rfl <;> simp [zcell, zrow_at, zlen1_at]
theorem zW_cln (C : zCx l q R p s m args meth c D cy ro A xs Ls) (hS : zSt s D cy ad ro A xs Ls σ ks H locs) {a kd idx : Nat} (hsz : lsA.size = zml q) (ha : zok ks a) (hak : a % 32 = kd) (hk3 : kd = 15 ∨ kd = 16 ∨ kd = 17) (h1 : Cond.methodLink (zon (zow q)) idx ⟨zan kd, "clone", "()Ljava/lang/Object;"⟩ ∈ zTBL)
    (hf : 1 ≤ R.frames) (hl : (rest.map fun v => v.category).sum + 14 ≤ R.locals) (hcells : cells + 1 ≤ R.cells) (hslots : slots + σ.2.2.2.1 a ≤ R.slots) (hd : decode (zby q) pc = .ok (.invokevirtual idx, 3))
    (kk : ∀ (q' : Nat) (H1 : Heap), zSt s D cy (zadn ad ks.length q') ro A xs Ls (zlike σ.1 a (32 * σ.2.2.2.2.1 + kd), zlike σ.2.1 a (32 * σ.2.2.2.2.1 + kd), zrow σ.2.2.1 (32 * σ.2.2.2.2.1 + kd) none, zlen1 σ.2.2.2.1 (32 * σ.2.2.2.2.1 + kd) (σ.2.2.2.1 a), σ.2.2.2.2.1 + 1, σ.2.2.2.2.2 + σ.2.2.2.1 a) (ks ++ [kd]) H1 locs → W p l e R s m args below meth c H1 locs (cells + 1) (slots + σ.2.2.2.1 a) Q (F0 m (pc + 3) lsA (.ref q' :: rest))) : W p l e R s m args below meth c H locs cells slots Q (F0 m pc lsA (.ref (zad ad ro a) :: rest)) := by
  have C' := C
  obtain ⟨hx, hb, hml, hown, hts, hnw, hK, hA, hro, hZ, hfr, hlo, hnm, hex⟩ := C'
  have hS' := hS
  obtain ⟨hP, hD, hSS, hI, hRO⟩ := hS'
  have hn : σ.2.2.2.2.1 = ks.length := hI.1.symm
  have hat := zw_at (cy := cy) (ad := ad) (ro := ro) (σ := σ) (zok_in ha (by omega)) (by omega)
  have w1 := zw_cl1 kd hk3
  have w3 : va_Nw (.castable (zan kd) "java/lang/Cloneable") s := hnw _ (by
    have h := zw_cl3
    simp only [List.all_cons, List.all_nil, Bool.and_true, Bool.and_eq_true, decide_eq_true_eq] at h
    rcases hk3 with rfl | rfl | rfl
    · exact h.1
    · exact h.2.1
    · exact h.2.2)
  have ho : ∀ x, x ≠ 32 * σ.2.2.2.2.1 + kd → zlike σ.1 a (32 * σ.2.2.2.2.1 + kd) x = σ.1 x ∧ zlike σ.2.1 a (32 * σ.2.2.2.2.1 + kd) x = σ.2.1 x ∧ zrow σ.2.2.1 (32 * σ.2.2.2.2.1 + kd) none x = σ.2.2.1 x ∧ zlen1 σ.2.2.2.1 (32 * σ.2.2.2.2.1 + kd) (σ.2.2.2.1 a) x = σ.2.2.2.1 x := fun x h => ⟨zlike_ne h, zlike_ne h, zrow_ne h, zlen1_ne h⟩
  have hI' : zinv (zlike σ.1 a (32 * σ.2.2.2.2.1 + kd), zlike σ.2.1 a (32 * σ.2.2.2.2.1 + kd), zrow σ.2.2.1 (32 * σ.2.2.2.2.1 + kd) none, zlen1 σ.2.2.2.1 (32 * σ.2.2.2.2.1 + kd) (σ.2.2.2.1 a), σ.2.2.2.2.1 + 1, σ.2.2.2.2.2 + σ.2.2.2.1 a) (ks ++ [kd]) := zinv_new hI (by omega) (fun r h => zlike_ne h) (fun h j => by rw [zlike_at]; exact hI.2.2.2 a (by omega) j)
  have w2a := hts _ (zw_cl2 _ (List.mem_of_getElem? (i := 0) rfl))
  have w2b := hts _ (zw_cl2 _ (List.mem_of_getElem? (i := 1) rfl))
  rcases hk3 with rfl | rfl | rfl
  · rw [zcell_I (Or.inl hak), hak] at hat
    refine va_clone (D := D) (ty := .byte) hx hb (by rw [hml, hsz]) hown (hts _ h1) (hts _ w1.1) w2a w2b (hts _ w1.2) w3 hK hP hD hSS hA (a / 32) 0 hat rfl (hK.2 0 (cy 0, .byte) rfl).2 (fun i v hv => ?_) hf hl hcells hslots hd (fun q' H1 hK1 hP1 hD1 hS1 => ?_)
    · have hv' : (arrV (cy 0) (σ.2.2.2.1 a) (fun j => Value.int (σ.1 a j))).slots[i]? = some v := hv
      simp only [arrV, Array.getElem?_ofFn] at hv'
      split at hv'
      · cases hv'
        exact hI.2.2.2 a hak i
      · cases hv'
    · refine kk q' H1 (zSt_new hS (by omega) ?_ ho hI' hP1 hD1 hS1)
      rw [← hn]
      simp [zcell, zlike_at, zlen1_at]
  · rw [zcell_I (Or.inr (Or.inl hak)), hak] at hat
    refine va_clone (D := D) (ty := .int) hx hb (by rw [hml, hsz]) hown (hts _ h1) (hts _ w1.1) w2a w2b (hts _ w1.2) w3 hK hP hD hSS hA (a / 32) 1 hat rfl (hK.2 1 (cy 1, .int) rfl).2 (fun i v hv => ?_) hf hl hcells hslots hd (fun q' H1 hK1 hP1 hD1 hS1 => ?_)
    · have hv' : (arrV (cy 1) (σ.2.2.2.1 a) (fun j => Value.int (σ.1 a j))).slots[i]? = some v := hv
      simp only [arrV, Array.getElem?_ofFn] at hv'
      split at hv'
      · cases hv'
        rfl
      · cases hv'
    · refine kk q' H1 (zSt_new hS (by omega) ?_ ho hI' hP1 hD1 hS1)
      rw [← hn]
      simp [zcell, zlike_at, zlen1_at]
  · rw [zcell_J hak] at hat
    refine va_clone (D := D) (ty := .long) hx hb (by rw [hml, hsz]) hown (hts _ h1) (hts _ w1.1) w2a w2b (hts _ w1.2) w3 hK hP hD hSS hA (a / 32) 2 hat rfl (hK.2 2 (cy 2, .long) rfl).2 (fun i v hv => ?_) hf hl hcells hslots hd (fun q' H1 hK1 hP1 hD1 hS1 => ?_)
    · have hv' : (arrV (cy 2) (σ.2.2.2.1 a) (fun j => Value.long (σ.2.1 a j))).slots[i]? = some v := hv
      simp only [arrV, Array.getElem?_ofFn] at hv'
      split at hv'
      · cases hv'
        rfl
      · cases hv'
    · refine kk q' H1 (zSt_new hS (by omega) ?_ ho hI' hP1 hD1 hS1)
      rw [← hn]
      simp [zcell, zlike_at, zlen1_at]
theorem zW_acp (C : zCx l q R p s m args meth c D cy ro A xs Ls) (hS : zSt s D cy ad ro A xs Ls σ ks H locs) {a b idx : Nat} {sp dp n : Int32} (hsz : lsA.size = zml q) (ha : zok ks a) (hb2 : zok ks b) (hab : a % 32 = b % 32) (hk : a % 32 = 15 ∨ a % 32 = 16 ∨ a % 32 = 17) (h1 : Cond.methodLink (zon (zow q)) idx arraycopyName ∈ zTBL)
    (g1 : ¬ sp < 0) (g2 : ¬ dp < 0) (g3 : ¬ n < 0) (g4 : sp.toNatClampNeg + n.toNatClampNeg ≤ σ.2.2.2.1 a) (g5 : dp.toNatClampNeg + n.toNatClampNeg ≤ σ.2.2.2.1 b)
    (hf : 1 ≤ R.frames) (hl : (rest.map fun v => v.category).sum + (nativeFrameWords "java/lang/System" "arraycopy" 5 + 11) ≤ R.locals) (hd : decode (zby q) pc = .ok (.invokestatic idx, 3))
    (kk : ∀ (H1 : Heap) (locs1 : List Loc), (a % 32 = 15 ∨ a % 32 = 16 → zSt s D cy ad ro A xs Ls (zcp σ.1 a sp.toNatClampNeg b dp.toNatClampNeg n.toNatClampNeg, σ.2) ks H1 locs1) → (a % 32 = 17 → zSt s D cy ad ro A xs Ls (σ.1, zcp σ.2.1 a sp.toNatClampNeg b dp.toNatClampNeg n.toNatClampNeg, σ.2.2) ks H1 locs1) → W p l e R s m args below meth c H1 locs1 cells slots Q (F0 m (pc + 3) lsA rest)) : W p l e R s m args below meth c H locs cells slots Q (F0 m pc lsA (.int n :: .int dp :: .ref (zad ad ro b) :: .int sp :: .ref (zad ad ro a) :: rest)) := by
  obtain ⟨hx, hb, hml, hown, hts, hnw, hK, hA, hro, hZ, hfr, hlo, hnm, hex⟩ := C
  obtain ⟨hP, hD, hSS, hI, hRO⟩ := hS
  have hinb := zok_in hb2 (by omega)
  have hat := zw_at (cy := cy) (ad := ad) (ro := ro) (σ := σ) (zok_in ha (by omega)) (by omega)
  have hbt := zw_at (cy := cy) (ad := ad) (ro := ro) (σ := σ) hinb (by omega)
  have hoI : ∀ x, x ≠ b → ((zcp σ.1 a sp.toNatClampNeg b dp.toNatClampNeg n.toNatClampNeg, σ.2) : zS).1 x = σ.1 x ∧ ((zcp σ.1 a sp.toNatClampNeg b dp.toNatClampNeg n.toNatClampNeg, σ.2) : zS).2.1 x = σ.2.1 x ∧ ((zcp σ.1 a sp.toNatClampNeg b dp.toNatClampNeg n.toNatClampNeg, σ.2) : zS).2.2.1 x = σ.2.2.1 x ∧ ((zcp σ.1 a sp.toNatClampNeg b dp.toNatClampNeg n.toNatClampNeg, σ.2) : zS).2.2.2.1 x = σ.2.2.2.1 x := fun x h => ⟨zcp_ne h, rfl, rfl, rfl⟩
  have hoJ : ∀ x, x ≠ b → ((σ.1, zcp σ.2.1 a sp.toNatClampNeg b dp.toNatClampNeg n.toNatClampNeg, σ.2.2) : zS).1 x = σ.1 x ∧ ((σ.1, zcp σ.2.1 a sp.toNatClampNeg b dp.toNatClampNeg n.toNatClampNeg, σ.2.2) : zS).2.1 x = σ.2.1 x ∧ ((σ.1, zcp σ.2.1 a sp.toNatClampNeg b dp.toNatClampNeg n.toNatClampNeg, σ.2.2) : zS).2.2.1 x = σ.2.2.1 x ∧ ((σ.1, zcp σ.2.1 a sp.toNatClampNeg b dp.toNatClampNeg n.toNatClampNeg, σ.2.2) : zS).2.2.2.1 x = σ.2.2.2.1 x := fun x h => ⟨rfl, zcp_ne h, rfl, rfl⟩
  rcases hk with hk | hk | hk
  · have hkb : b % 32 = 15 := by omega
    have hset : (zw cy ad ro σ ks).set (b / 32) (zad ad ro b, .inl (cy 0, σ.2.2.2.1 b, .inl (va_cpy (σ.1 a) (σ.1 b) sp.toNatClampNeg dp.toNatClampNeg n.toNatClampNeg))) = zw cy ad ro (zcp σ.1 a sp.toNatClampNeg b dp.toNatClampNeg n.toNatClampNeg, σ.2) ks := zw_set hI.2.1 hinb (by rw [zcell_I (Or.inl hkb), hkb, ← zcp_at]) hoI
    rw [zcell_I (Or.inl hk), hk] at hat
    rw [zcell_I (Or.inl hkb), hkb] at hbt
    refine va_copyi (D := D) (ty := .byte) hx hb (by rw [hml, hsz]) hown (hts _ h1) (hts _ zw_ac1) (hts _ zw_ac2) (hts _ zw_ac3) hK hP hD hSS (a / 32) (b / 32) 0 0 hat hbt rfl rfl rfl g1 g2 g3 g4 g5 (fun i _ => hI.2.2.2 a hk _) hf hl hd (fun H1 locs1 hP1 hD1 hS1 => ?_)
    exact kk H1 locs1 (fun _ => ⟨hset ▸ hP1, hset ▸ hD1, hS1, zinv_cp hI hab, zRO_of hRO (by omega) hoI⟩) (fun h => by omega)
  · have hkb : b % 32 = 16 := by omega
    have hset : (zw cy ad ro σ ks).set (b / 32) (zad ad ro b, .inl (cy 1, σ.2.2.2.1 b, .inl (va_cpy (σ.1 a) (σ.1 b) sp.toNatClampNeg dp.toNatClampNeg n.toNatClampNeg))) = zw cy ad ro (zcp σ.1 a sp.toNatClampNeg b dp.toNatClampNeg n.toNatClampNeg, σ.2) ks := zw_set hI.2.1 hinb (by rw [zcell_I (Or.inr (Or.inl hkb)), hkb, ← zcp_at]) hoI
    rw [zcell_I (Or.inr (Or.inl hk)), hk] at hat
    rw [zcell_I (Or.inr (Or.inl hkb)), hkb] at hbt
    refine va_copyi (D := D) (ty := .int) hx hb (by rw [hml, hsz]) hown (hts _ h1) (hts _ zw_ac1) (hts _ zw_ac2) (hts _ zw_ac3) hK hP hD hSS (a / 32) (b / 32) 1 1 hat hbt rfl rfl rfl g1 g2 g3 g4 g5 (fun i _ => rfl) hf hl hd (fun H1 locs1 hP1 hD1 hS1 => ?_)
    exact kk H1 locs1 (fun _ => ⟨hset ▸ hP1, hset ▸ hD1, hS1, zinv_cp hI hab, zRO_of hRO (by omega) hoI⟩) (fun h => by omega)
  · have hkb : b % 32 = 17 := by omega
    have hset : (zw cy ad ro σ ks).set (b / 32) (zad ad ro b, .inl (cy 2, σ.2.2.2.1 b, .inr (.inl (va_cpy (σ.2.1 a) (σ.2.1 b) sp.toNatClampNeg dp.toNatClampNeg n.toNatClampNeg)))) = zw cy ad ro (σ.1, zcp σ.2.1 a sp.toNatClampNeg b dp.toNatClampNeg n.toNatClampNeg, σ.2.2) ks := zw_set hI.2.1 hinb (by rw [zcell_J hkb, ← zcp_at]) hoJ
    rw [zcell_J hk] at hat
    rw [zcell_J hkb] at hbt
    refine va_copyl (D := D) (ty := .long) hx hb (by rw [hml, hsz]) hown (hts _ h1) (hts _ zw_ac1) (hts _ zw_ac2) (hts _ zw_ac3) hK hP hD hSS (a / 32) (b / 32) 2 2 hat hbt rfl rfl rfl g1 g2 g3 g4 g5 (fun i _ => rfl) hf hl hd (fun H1 locs1 hP1 hD1 hS1 => ?_)
    exact kk H1 locs1 (fun h => by omega) (fun _ => ⟨hset ▸ hP1, hset ▸ hD1, hS1, zinv_J hI, zRO_of hRO (by omega) hoJ⟩)
end
