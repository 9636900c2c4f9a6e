/-! Arrays, makings, copies. -/
section
variable {p : Program} {l : Launch} {e : Env} {R : Room} {s : State} {m : MethodId} {args : Array Value} {below : List Frame} {meth : Method} {c : Code} {H : Heap} {locs : List Loc} {cells slots : Nat} {Q : State → Prop}
variable {q : Nat} {D : va_G} {cy : Nat → ClassId} {ad ro : Nat → Nat} {A : Nat → Prop} {xs : Nat → Nat → Int32} {Ls : Nat → Nat} {σ τ : zS} {ks : List Nat} {pc : Nat} {lsA : Array Slot} {rest : List Value}
theorem zcell_I {a : Nat} (h : a % 32 = 15 ∨ a % 32 = 16 ∨ a % 32 = 18) : zcell cy ad ro σ (a % 32) a = .inl (cy (a % 32 - 15), σ.2.2.2.1 a, .inl (σ.1 a)) := by
  rcases h with h | h | h <;> simp [zcell, h]
theorem zcell_J {a : Nat} (h : a % 32 = 17) : zcell cy ad ro σ (a % 32) a = .inl (cy 2, σ.2.2.2.1 a, .inr (.inl (σ.2.1 a))) := by simp [zcell, h]
theorem zcell_P {a : Nat} (h : a % 32 = 19 ∨ a % 32 = 20 ∨ a % 32 = 21) : zcell cy ad ro σ (a % 32) a = .inl (cy (a % 32 - 15), σ.2.2.2.1 a, .inr (.inr (.inr (.inr (fun j => (σ.2.2.1 a j).map (zad ad ro)))))) := by
  rcases h with h | h | h <;> simp [zcell, h]
theorem zW_ald0 (C : zCx l q R p s m args meth c D cy ro A xs Ls) (hS : zSt s D cy ad ro A xs Ls σ ks H locs) {a : Nat} {i : Int32} (ha : zok ks a) (hk : a % 32 = 16 ∨ a % 32 = 22) (hi : ¬ (i < 0 ∨ σ.2.2.2.1 a ≤ i.toNatClampNeg)) (hd : decode (zby q) pc = .ok (.iaload, 1))
    (kk : W p l e R s m args below meth c H locs cells slots Q (F0 m (pc + 1) lsA (.int (σ.1 a i.toNatClampNeg) :: rest))) : W p l e R s m args below meth c H locs cells slots Q (F0 m pc lsA (.int i :: .ref (zad ad ro a) :: rest)) := by
  obtain ⟨hx, hb, hml, hown, hts, hnw, hK, hA, hro, hZ, hfr, hlo, hnm, hex⟩ := C
  obtain ⟨hP, hD, hSS, hI, hRO⟩ := hS
  rcases hk with hk | hk
  · have hat := zw_at (cy := cy) (ad := ad) (ro := ro) (σ := σ) (zok_in ha (by omega)) (by omega)
    rw [zcell_I (Or.inr (Or.inl hk)), hk] at hat
    exact va_iald (D := D) hx hb hK hP (a / 32) 1 hat rfl hi hd kk
  · have h2 : a / 32 < 2 := by
      rcases ha with h | h
      · exact h.2
      · exact absurd (hI.2.1 _ (List.mem_of_getElem? h)) (by omega)
    obtain ⟨hX, hlt, hnA⟩ := hro _ h2
    obtain ⟨e1, e2⟩ := hRO _ h2
    have ea : 32 * (a / 32) + 22 = a := by omega
    rw [ea] at e1 e2
    have hz : zad ad ro a = ro (a / 32) := by simp [zad, hk]
    rw [hz]
    rw [e2] at hi
    rw [e1] at kk
    exact va_sld hx hb hX hlt hnA hSS hi hd kk
theorem zW_ald3 (C : zCx l q R p s m args meth c D cy ro A xs Ls) (hS : zSt s D cy ad ro A xs Ls σ ks H locs) {a : Nat} {i : Int32} (ha : zok ks a) (hk : a % 32 = 15 ∨ a % 32 = 18) (hi : ¬ (i < 0 ∨ σ.2.2.2.1 a ≤ i.toNatClampNeg)) (hd : decode (zby q) pc = .ok (.baload, 1))
    (kk : W p l e R s m args below meth c H locs cells slots Q (F0 m (pc + 1) lsA (.int (σ.1 a i.toNatClampNeg) :: rest))) : W p l e R s m args below meth c H locs cells slots Q (F0 m pc lsA (.int i :: .ref (zad ad ro a) :: rest)) := by
  obtain ⟨hx, hb, hml, hown, hts, hnw, hK, hA, hro, hZ, hfr, hlo, hnm, hex⟩ := C
  obtain ⟨hP, hD, hSS, hI, hRO⟩ := hS
  have hat := zw_at (cy := cy) (ad := ad) (ro := ro) (σ := σ) (zok_in ha (by omega)) (by omega)
  rcases hk with hk | hk
  · rw [zcell_I (Or.inl hk), hk] at hat
    exact va_bald (D := D) hx hb hK hP (a / 32) 0 hat rfl hi hd kk
  · rw [zcell_I (Or.inr (Or.inr hk)), hk] at hat
    exact va_zald (D := D) hx hb hK hP (a / 32) 3 hat rfl hi hd kk
theorem zW_ald1 (C : zCx l q R p s m args meth c D cy ro A xs Ls) (hS : zSt s D cy ad ro A xs Ls σ ks H locs) {a : Nat} {i : Int32} (ha : zok ks a) (hk : a % 32 = 17) (hi : ¬ (i < 0 ∨ σ.2.2.2.1 a ≤ i.toNatClampNeg)) (hd : decode (zby q) pc = .ok (.laload, 1))
    (kk : W p l e R s m args below meth c H locs cells slots Q (F0 m (pc + 1) lsA (.long (σ.2.1 a i.toNatClampNeg) :: rest))) : W p l e R s m args below meth c H locs cells slots Q (F0 m pc lsA (.int i :: .ref (zad ad ro a) :: rest)) := by
  obtain ⟨hx, hb, hml, hown, hts, hnw, hK, hA, hro, hZ, hfr, hlo, hnm, hex⟩ := C
  obtain ⟨hP, hD, hSS, hI, hRO⟩ := hS
  have hat := zw_at (cy := cy) (ad := ad) (ro := ro) (σ := σ) (zok_in ha (by omega)) (by omega)
  rw [zcell_J hk] at hat
  exact va_lald (D := D) hx hb hK hP (a / 32) 2 hat rfl hi hd kk
theorem zW_ald2 (C : zCx l q R p s m args meth c D cy ro A xs Ls) (hS : zSt s D cy ad ro A xs Ls σ ks H locs) {a : Nat} {i : Int32} (ha : zok ks a) (hk : a % 32 = 19 ∨ a % 32 = 20 ∨ a % 32 = 21) (hi : ¬ (i < 0 ∨ σ.2.2.2.1 a ≤ i.toNatClampNeg)) (hd : decode (zby q) pc = .ok (.aaload, 1))
    (kk : W p l e R s m args below meth c H locs cells slots Q (F0 m (pc + 1) lsA (zv ad ro (va_rf (σ.2.2.1 a i.toNatClampNeg)) :: rest))) : W p l e R s m args below meth c H locs cells slots Q (F0 m pc lsA (.int i :: .ref (zad ad ro a) :: rest)) := by
  obtain ⟨hx, hb, hml, hown, hts, hnw, hK, hA, hro, hZ, hfr, hlo, hnm, hex⟩ := C
  obtain ⟨hP, hD, hSS, hI, hRO⟩ := hS
  have hat := zw_at (cy := cy) (ad := ad) (ro := ro) (σ := σ) (zok_in ha (by omega)) (by omega)
  rw [zcell_P hk] at hat
  rw [zv_rf] at kk
  rcases hk with hk | hk | hk <;> rw [hk] at hat
  · exact va_aldq (D := D) hx hb hK hP (a / 32) 4 hat rfl hi hd kk
  · exact va_aldq (D := D) hx hb hK hP (a / 32) 5 hat rfl hi hd kk
  · exact va_aldq (D := D) hx hb hK hP (a / 32) 6 hat rfl hi hd kk
theorem zRO_of (hRO : ∀ k, k < 2 → σ.1 (32 * k + 22) = xs k ∧ σ.2.2.2.1 (32 * k + 22) = Ls k) {a : Nat} (ha : ¬ a % 32 = 22) (ho : ∀ x, x ≠ a → τ.1 x = σ.1 x ∧ τ.2.1 x = σ.2.1 x ∧ τ.2.2.1 x = σ.2.2.1 x ∧ τ.2.2.2.1 x = σ.2.2.2.1 x) : ∀ k, k < 2 → τ.1 (32 * k + 22) = xs k ∧ τ.2.2.2.1 (32 * k + 22) = Ls k := fun k hk => by
  obtain ⟨e1, -, -, e4⟩ := ho (32 * k + 22) (by omega)
  rw [e1, e4]
  exact hRO k hk
theorem zoI {a j : Nat} {v : Int32} : ∀ x, x ≠ a → (zu σ.1 a j v, σ.2).1 x = σ.1 x ∧ (zu σ.1 a j v, σ.2).2.1 x = σ.2.1 x ∧ (zu σ.1 a j v, σ.2).2.2.1 x = σ.2.2.1 x ∧ (zu σ.1 a j v, σ.2).2.2.2.1 x = σ.2.2.2.1 x := fun _ h => ⟨zu_ne h, rfl, rfl, rfl⟩
theorem zoJ {a j : Nat} {v : Int64} : ∀ x, x ≠ a → ((σ.1, zu σ.2.1 a j v, σ.2.2) : zS).1 x = σ.1 x ∧ ((σ.1, zu σ.2.1 a j v, σ.2.2) : zS).2.1 x = σ.2.1 x ∧ ((σ.1, zu σ.2.1 a j v, σ.2.2) : zS).2.2.1 x = σ.2.2.1 x ∧ ((σ.1, zu σ.2.1 a j v, σ.2.2) : zS).2.2.2.1 x = σ.2.2.2.1 x := fun _ h => ⟨rfl, zu_ne h, rfl, rfl⟩
theorem zoP {a j : Nat} {v : Option Nat} : ∀ x, x ≠ a → ((σ.1, σ.2.1, zu σ.2.2.1 a j v, σ.2.2.2) : zS).1 x = σ.1 x ∧ ((σ.1, σ.2.1, zu σ.2.2.1 a j v, σ.2.2.2) : zS).2.1 x = σ.2.1 x ∧ ((σ.1, σ.2.1, zu σ.2.2.1 a j v, σ.2.2.2) : zS).2.2.1 x = σ.2.2.1 x ∧ ((σ.1, σ.2.1, zu σ.2.2.1 a j v, σ.2.2.2) : zS).2.2.2.1 x = σ.2.2.2.1 x := fun _ h => ⟨rfl, rfl, zu_ne h, rfl⟩
theorem zW_ast0 (C : zCx l q R p s m args meth c D cy ro A xs Ls) (hS : zSt s D cy ad ro A xs Ls σ ks H locs) {a : Nat} {i y : Int32} (ha : zok ks a) (hk : a % 32 = 16) (hi : ¬ (i < 0 ∨ σ.2.2.2.1 a ≤ i.toNatClampNeg)) (hd : decode (zby q) pc = .ok (.iastore, 1))
    (kk : ∀ (H1 : Heap) (locs1 : List Loc), zSt s D cy ad ro A xs Ls (zu σ.1 a i.toNatClampNeg y, σ.2) ks H1 locs1 → W p l e R s m args below meth c H1 locs1 cells slots Q (F0 m (pc + 1) lsA rest)) : W p l e R s m args below meth c H locs cells slots Q (F0 m pc lsA (.int y :: .int i :: .ref (zad ad ro a) :: rest)) := by
  obtain ⟨hx, hb, hml, hown, hts, hnw, hK, hA, hro, hZ, hfr, hlo, hnm, hex⟩ := C
  obtain ⟨hP, hD, hSS, hI, hRO⟩ := hS
  have hin := zok_in ha (by omega)
  have hat := zw_at (cy := cy) (ad := ad) (ro := ro) (σ := σ) hin (by omega)
  have hset : (zw cy ad ro σ ks).set (a / 32) (zad ad ro a, .inl (cy 1, σ.2.2.2.1 a, .inl (upd (σ.1 a) i.toNatClampNeg y))) = zw cy ad ro (zu σ.1 a i.toNatClampNeg y, σ.2) ks := zw_set hI.2.1 hin (by rw [zcell_I (Or.inr (Or.inl hk)), hk, ← zu_I]) zoI
  rw [zcell_I (Or.inr (Or.inl hk)), hk] at hat
  refine va_iast (D := D) hx hb hK hP hD hSS (a / 32) 1 hat rfl hi hd (fun H1 locs1 hP1 hD1 hS1 => ?_)
  exact kk H1 locs1 ⟨hset ▸ hP1, hset ▸ hD1, hS1, zinv_I hI (fun h => by omega), zRO_of hRO (by omega) zoI⟩
theorem zW_ast1 (C : zCx l q R p s m args meth c D cy ro A xs Ls) (hS : zSt s D cy ad ro A xs Ls σ ks H locs) {a : Nat} {i : Int32} {y : Int64} (ha : zok ks a) (hk : a % 32 = 17) (hi : ¬ (i < 0 ∨ σ.2.2.2.1 a ≤ i.toNatClampNeg)) (hd : decode (zby q) pc = .ok (.lastore, 1))
    (kk : ∀ (H1 : Heap) (locs1 : List Loc), zSt s D cy ad ro A xs Ls (σ.1, zu σ.2.1 a i.toNatClampNeg y, σ.2.2) ks H1 locs1 → W p l e R s m args below meth c H1 locs1 cells slots Q (F0 m (pc + 1) lsA rest)) : W p l e R s m args below meth c H locs cells slots Q (F0 m pc lsA (.long y :: .int i :: .ref (zad ad ro a) :: rest)) := by
  obtain ⟨hx, hb, hml, hown, hts, hnw, hK, hA, hro, hZ, hfr, hlo, hnm, hex⟩ := C
  obtain ⟨hP, hD, hSS, hI, hRO⟩ := hS
  have hin := zok_in ha (by omega)
  have hat := zw_at (cy := cy) (ad := ad) (ro := ro) (σ := σ) hin (by omega)
  have hset : (zw cy ad ro σ ks).set (a / 32) (zad ad ro a, .inl (cy 2, σ.2.2.2.1 a, .inr (.inl (vp_updL (σ.2.1 a) i.toNatClampNeg y)))) = zw cy ad ro (σ.1, zu σ.2.1 a i.toNatClampNeg y, σ.2.2) ks := zw_set hI.2.1 hin (by rw [zcell_J hk, ← zu_J]) zoJ
  rw [zcell_J hk] at hat
  refine va_last (D := D) hx hb hK hP hD hSS (a / 32) 2 hat rfl hi hd (fun H1 locs1 hP1 hD1 hS1 => ?_)
  exact kk H1 locs1 ⟨hset ▸ hP1, hset ▸ hD1, hS1, zinv_J hI, zRO_of hRO (by omega) zoJ⟩
theorem zW_ast3 (C : zCx l q R p s m args meth c D cy ro A xs Ls) (hS : zSt s D cy ad ro A xs Ls σ ks H locs) {a : Nat} {i y : Int32} (ha : zok ks a) (hk : a % 32 = 15) (hi : ¬ (i < 0 ∨ σ.2.2.2.1 a ≤ i.toNatClampNeg)) (hd : decode (zby q) pc = .ok (.bastore, 1))
    (kk : ∀ (H1 : Heap) (locs1 : List Loc), zSt s D cy ad ro A xs Ls (zu σ.1 a i.toNatClampNeg y.toInt8.toInt32, σ.2) ks H1 locs1 → W p l e R s m args below meth c H1 locs1 cells slots Q (F0 m (pc + 1) lsA rest)) : W p l e R s m args below meth c H locs cells slots Q (F0 m pc lsA (.int y :: .int i :: .ref (zad ad ro a) :: rest)) := by
  obtain ⟨hx, hb, hml, hown, hts, hnw, hK, hA, hro, hZ, hfr, hlo, hnm, hex⟩ := C
  obtain ⟨hP, hD, hSS, hI, hRO⟩ := hS
  have hin := zok_in ha (by omega)
  have hat := zw_at (cy := cy) (ad := ad) (ro := ro) (σ := σ) hin (by omega)
  have hset : (zw cy ad ro σ ks).set (a / 32) (zad ad ro a, .inl (cy 0, σ.2.2.2.1 a, .inl (upd (σ.1 a) i.toNatClampNeg y.toInt8.toInt32))) = zw cy ad ro (zu σ.1 a i.toNatClampNeg y.toInt8.toInt32, σ.2) ks := zw_set hI.2.1 hin (by rw [zcell_I (Or.inl hk), hk, ← zu_I]) zoI
  rw [zcell_I (Or.inl hk), hk] at hat
  refine va_bast (D := D) hx hb hK hP hD hSS (a / 32) 0 hat rfl hi hd (fun H1 locs1 hP1 hD1 hS1 => ?_)
  rw [vp_nar_byte] at hP1 hD1
  exact kk H1 locs1 ⟨hset ▸ hP1, hset ▸ hD1, hS1, zinv_I hI (fun _ => pk_fb y), zRO_of hRO (by omega) zoI⟩
theorem zW_ast4 (C : zCx l q R p s m args meth c D cy ro A xs Ls) (hS : zSt s D cy ad ro A xs Ls σ ks H locs) {a : Nat} {i y : Int32} (ha : zok ks a) (hk : a % 32 = 18) (hy : y = 0 ∨ y = 1) (hi : ¬ (i < 0 ∨ σ.2.2.2.1 a ≤ i.toNatClampNeg)) (hd : decode (zby q) pc = .ok (.bastore, 1))
    (kk : ∀ (H1 : Heap) (locs1 : List Loc), zSt s D cy ad ro A xs Ls (zu σ.1 a i.toNatClampNeg y, σ.2) ks H1 locs1 → W p l e R s m args below meth c H1 locs1 cells slots Q (F0 m (pc + 1) lsA rest)) : W p l e R s m args below meth c H locs cells slots Q (F0 m pc lsA (.int y :: .int i :: .ref (zad ad ro a) :: rest)) := by
  obtain ⟨hx, hb, hml, hown, hts, hnw, hK, hA, hro, hZ, hfr, hlo, hnm, hex⟩ := C
  obtain ⟨hP, hD, hSS, hI, hRO⟩ := hS
  have hin := zok_in ha (by omega)
  have hat := zw_at (cy := cy) (ad := ad) (ro := ro) (σ := σ) hin (by omega)
  have hset : (zw cy ad ro σ ks).set (a / 32) (zad ad ro a, .inl (cy 3, σ.2.2.2.1 a, .inl (upd (σ.1 a) i.toNatClampNeg y))) = zw cy ad ro (zu σ.1 a i.toNatClampNeg y, σ.2) ks := zw_set hI.2.1 hin (by rw [zcell_I (Or.inr (Or.inr hk)), hk, ← zu_I]) zoI
  rw [zcell_I (Or.inr (Or.inr hk)), hk] at hat
  refine va_zast (D := D) hx hb hK hP hD hSS (a / 32) 3 hat rfl hi hd (fun H1 locs1 hP1 hD1 hS1 => ?_)
  have hy2 : vp_nar .boolean y = y := by rcases hy with rfl | rfl <;> decide
  rw [hy2] at hP1 hD1
  exact kk H1 locs1 ⟨hset ▸ hP1, hset ▸ hD1, hS1, zinv_I hI (fun h => by omega), zRO_of hRO (by omega) zoI⟩
theorem zW_ast2 (C : zCx l q R p s m args meth c D cy ro A xs Ls) (hS : zSt s D cy ad ro A xs Ls σ ks H locs) {a y : Nat} {i : Int32} (ha : zok ks a) (hy : zok ks y) (hk : y % 32 = zcomp (a % 32)) (hi : ¬ (i < 0 ∨ σ.2.2.2.1 a ≤ i.toNatClampNeg)) (hd : decode (zby q) pc = .ok (.aastore, 1))
    (kk : ∀ (H1 : Heap) (locs1 : List Loc), zSt s D cy ad ro A xs Ls (σ.1, σ.2.1, zu σ.2.2.1 a i.toNatClampNeg (some y), σ.2.2.2) ks H1 locs1 → W p l e R s m args below meth c H1 locs1 cells slots Q (F0 m (pc + 1) lsA rest)) : W p l e R s m args below meth c H locs cells slots Q (F0 m pc lsA (.ref (zad ad ro y) :: .int i :: .ref (zad ad ro a) :: rest)) := by
  obtain ⟨hx, hb, hml, hown, hts, hnw, hK, hA, hro, hZ, hfr, hlo, hnm, hex⟩ := C
  obtain ⟨hP, hD, hSS, hI, hRO⟩ := hS
  have hkk : a % 32 = 19 ∨ a % 32 = 20 ∨ a % 32 = 21 ∨ y % 32 = 31 := by
    unfold zcomp at hk
    split at hk <;> simp_all
  have hy31 : ¬ y % 32 = 31 := fun h => by
    rcases hy with h2 | h2
    · omega
    · exact absurd (hI.2.1 _ (List.mem_of_getElem? h2)) (by omega)
  have hk3 : a % 32 = 19 ∨ a % 32 = 20 ∨ a % 32 = 21 := by omega
  have hy15 : y % 32 < 15 := by
    rcases hk3 with h | h | h <;> rw [h] at hk <;> simp [zcomp] at hk <;> omega
  have hin := zok_in ha (by omega)
  have hat := zw_at (cy := cy) (ad := ad) (ro := ro) (σ := σ) hin (by omega)
  have hyt := zw_at (cy := cy) (ad := ad) (ro := ro) (σ := σ) (zok_in hy (by omega)) (by omega)
  rw [zcell_obj hy15] at hyt
  have hset : (zw cy ad ro σ ks).set (a / 32) (zad ad ro a, .inl (cy (a % 32 - 15), σ.2.2.2.1 a, .inr (.inr (.inr (.inr (va_up (fun j => (σ.2.2.1 a j).map (zad ad ro)) i.toNatClampNeg (some (zad ad ro y)))))))) = zw cy ad ro (σ.1, σ.2.1, zu σ.2.2.1 a i.toNatClampNeg (some y), σ.2.2.2) ks := zw_set hI.2.1 hin (by rw [zcell_P hk3]; exact congrArg (fun f => Sum.inl (cy (a % 32 - 15), σ.2.2.2.1 a, Sum.inr (Sum.inr (Sum.inr (Sum.inr f))))) (zu_P (zad ad ro))) zoP
  rw [zcell_P hk3] at hat
  have go : ∀ (t0 : Nat), (ztys cy)[t0]? = some (cy (a % 32 - 15), .object (zon (y % 32))) → W p l e R s m args below meth c H locs cells slots Q (F0 m pc lsA (.ref (zad ad ro y) :: .int i :: .ref (zad ad ro a) :: rest)) := fun t0 ht => by
    refine va_astq (D := D) (r := (zon (y % 32), zTX (y % 32), zfc (y % 32))) hx hb hK hP hD hSS (a / 32) t0 (y / 32) (y % 32) hat ht hyt (zcl _ hy15) hi hd (fun H1 locs1 hP1 hD1 hS1 => ?_)
    exact kk H1 locs1 ⟨hset ▸ hP1, hset ▸ hD1, hS1, zinv_P hI (fun x hx => by cases hx; exact hy), zRO_of hRO (by omega) zoP⟩
  rcases hk3 with h | h | h
  · exact go 4 (by rw [hk, h]; rfl)
  · exact go 5 (by rw [hk, h]; rfl)
  · exact go 6 (by rw [hk, h]; rfl)
theorem zW_ast2N (C : zCx l q R p s m args meth c D cy ro A xs Ls) (hS : zSt s D cy ad ro A xs Ls σ ks H locs) {a : Nat} {i : Int32} (ha : zok ks a) (hk3 : a % 32 = 19 ∨ a % 32 = 20 ∨ a % 32 = 21) (hi : ¬ (i < 0 ∨ σ.2.2.2.1 a ≤ i.toNatClampNeg)) (hd : decode (zby q) pc = .ok (.aastore, 1))
    (kk : ∀ (H1 : Heap) (locs1 : List Loc), zSt s D cy ad ro A xs Ls (σ.1, σ.2.1, zu σ.2.2.1 a i.toNatClampNeg none, σ.2.2.2) ks H1 locs1 → W p l e R s m args below meth c H1 locs1 cells slots Q (F0 m (pc + 1) lsA rest)) : W p l e R s m args below meth c H locs cells slots Q (F0 m pc lsA (.null :: .int i :: .ref (zad ad ro a) :: rest)) := by
  obtain ⟨hx, hb, hml, hown, hts, hnw, hK, hA, hro, hZ, hfr, hlo, hnm, hex⟩ := C
  obtain ⟨hP, hD, hSS, hI, hRO⟩ := hS
  have hin := zok_in ha (by omega)
  have hat := zw_at (cy := cy) (ad := ad) (ro := ro) (σ := σ) hin (by omega)
  have hset : (zw cy ad ro σ ks).set (a / 32) (zad ad ro a, .inl (cy (a % 32 - 15), σ.2.2.2.1 a, .inr (.inr (.inr (.inr (va_up (fun j => (σ.2.2.1 a j).map (zad ad ro)) i.toNatClampNeg none)))))) = zw cy ad ro (σ.1, σ.2.1, zu σ.2.2.1 a i.toNatClampNeg none, σ.2.2.2) ks := zw_set hI.2.1 hin (by rw [zcell_P hk3]; exact congrArg (fun f => Sum.inl (cy (a % 32 - 15), σ.2.2.2.1 a, Sum.inr (Sum.inr (Sum.inr (Sum.inr f))))) (zu_P (zad ad ro))) zoP
  rw [zcell_P hk3] at hat
  have go : ∀ (t0 : Nat) (Cn : String), (ztys cy)[t0]? = some (cy (a % 32 - 15), .object Cn) → W p l e R s m args below meth c H locs cells slots Q (F0 m pc lsA (.null :: .int i :: .ref (zad ad ro a) :: rest)) := fun t0 Cn ht => by
    refine va_astqN (D := D) hx hb hK hP hD hSS (a / 32) t0 hat ht hi hd (fun H1 locs1 hP1 hD1 hS1 => ?_)
    exact kk H1 locs1 ⟨hset ▸ hP1, hset ▸ hD1, hS1, zinv_P hI (fun x hx => by cases hx), zRO_of hRO (by omega) zoP⟩
  rcases hk3 with h | h | h
  · exact go 4 _ (by rw [h]; rfl)
  · exact go 5 _ (by rw [h]; rfl)
  · exact go 6 _ (by rw [h]; rfl)
theorem zW_len (C : zCx l q R p s m args meth c D cy ro A xs Ls) (hS : zSt s D cy ad ro A xs Ls σ ks H locs) {a : Nat} (ha : zok ks a) (h15 : 15 ≤ a % 32) (h22 : a % 32 ≤ 22) (hd : decode (zby q) pc = .ok (.arraylength, 1))
    (kk : W p l e R s m args below meth c H locs cells slots Q (F0 m (pc + 1) lsA (.int (nI (σ.2.2.2.1 a)) :: rest))) : W p l e R s m args below meth c H locs cells slots Q (F0 m pc lsA (.ref (zad ad ro a) :: rest)) := by
  obtain ⟨hx, hb, hml, hown, hts, hnw, hK, hA, hro, hZ, hfr, hlo, hnm, hex⟩ := C
  obtain ⟨hP, hD, hSS, hI, hRO⟩ := hS
  by_cases hk : a % 32 = 22
  · have h2 : a / 32 < 2 := by
      rcases ha with h | h
      · exact h.2
      · exact absurd (hI.2.1 _ (List.mem_of_getElem? h)) (by omega)
    obtain ⟨hX, hlt, hnA⟩ := hro _ h2
    obtain ⟨e1, e2⟩ := hRO _ h2
    have ea : 32 * (a / 32) + 22 = a := by omega
    rw [ea] at e1 e2
    have hz : zad ad ro a = ro (a / 32) := by simp [zad, hk]
    rw [hz]
    rw [e2] at kk
    exact va_slen hx hb hX hlt hnA hSS hd kk
  · have hat := zw_at (cy := cy) (ad := ad) (ro := ro) (σ := σ) (zok_in ha hk) hk
    by_cases h17 : a % 32 = 17
    · rw [zcell_J h17] at hat
      exact va_alen (D := D) hx hb hK hP (a / 32) 2 hat rfl rfl hd kk
    · by_cases h19 : a % 32 < 19
      · rw [zcell_I (by omega)] at hat
        rcases (show a % 32 = 15 ∨ a % 32 = 16 ∨ a % 32 = 18 by omega) with h | h | h <;> rw [h] at hat
        · exact va_alen (D := D) hx hb hK hP (a / 32) 0 hat rfl rfl hd kk
        · exact va_alen (D := D) hx hb hK hP (a / 32) 1 hat rfl rfl hd kk
        · exact va_alen (D := D) hx hb hK hP (a / 32) 3 hat rfl rfl hd kk
      · rw [zcell_P (by omega)] at hat
        rcases (show a % 32 = 19 ∨ a % 32 = 20 ∨ a % 32 = 21 by omega) with h | h | h <;> rw [h] at hat
        · exact va_alen (D := D) hx hb hK hP (a / 32) 4 hat rfl rfl hd kk
        · exact va_alen (D := D) hx hb hK hP (a / 32) 5 hat rfl rfl hd kk
        · exact va_alen (D := D) hx hb hK hP (a / 32) 6 hat rfl rfl hd kk
end
