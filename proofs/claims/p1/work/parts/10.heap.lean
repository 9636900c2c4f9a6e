/-! Instructions that read or change the heap, in the words of the small machine. -/
theorem zu_ne {α : Type} {f : Nat → Nat → α} {a j x : Nat} {v : α} (h : x ≠ a) : zu f a j v x = f x := by funext k; simp [zu, h]
theorem zu_I {f : zI} {a j : Nat} {v : Int32} : zu f a j v a = upd (f a) j v := by funext k; simp [zu, upd]
theorem zu_J {f : zJ} {a j : Nat} {v : Int64} : zu f a j v a = vp_updL (f a) j v := by funext k; simp [zu, vp_updL]
theorem zu_P {f : zP} {a j : Nat} {v : Option Nat} (g : Nat → Nat) : (fun k => (zu f a j v a k).map g) = va_up (fun k => (f a k).map g) j (v.map g) := by
  funext k
  by_cases h : k = j <;> simp [zu, va_up, h]
theorem zcp_ne {α : Type} {f : Nat → Nat → α} {a sp b dp n x : Nat} (h : x ≠ b) : zcp f a sp b dp n x = f x := by funext k; simp [zcp, h]
theorem zcp_at {α : Type} {f : Nat → Nat → α} {a sp b dp n : Nat} : zcp f a sp b dp n b = va_cpy (f a) (f b) sp dp n := by funext k; simp [zcp, va_cpy]
theorem zrow_ne {α : Type} {f : Nat → Nat → α} {a x : Nat} {v : α} (h : x ≠ a) : zrow f a v x = f x := by funext k; simp [zrow, h]
theorem zrow_at {α : Type} {f : Nat → Nat → α} {a : Nat} {v : α} : zrow f a v a = fun _ => v := by funext k; simp [zrow]
theorem zlike_ne {α : Type} {f : Nat → Nat → α} {a b x : Nat} (h : x ≠ b) : zlike f a b x = f x := by funext k; simp [zlike, h]
theorem zlike_at {α : Type} {f : Nat → Nat → α} {a b : Nat} : zlike f a b b = f a := by funext k; simp [zlike]
theorem zlen1_ne {N : Nat → Nat} {a n x : Nat} (h : x ≠ a) : zlen1 N a n x = N x := by simp [zlen1, h]
theorem zlen1_at {N : Nat → Nat} {a n : Nat} : zlen1 N a n a = n := by simp [zlen1]
theorem zinv_I {σ : zS} {ks : List Nat} {a j : Nat} {v : Int32} (h : zinv σ ks) (hf : a % 32 = 15 → fits .byte (.int v) = true) : zinv (zu σ.1 a j v, σ.2) ks := ⟨h.1, h.2.1, h.2.2.1, fun r hr k => by
  show fits .byte (.int (zu σ.1 a j v r k)) = true
  unfold zu
  split
  · rename_i e
    exact hf (e.1 ▸ hr)
  · exact h.2.2.2 r hr k⟩
theorem zinv_J {σ : zS} {ks : List Nat} {J : zJ} (h : zinv σ ks) : zinv (σ.1, J, σ.2.2) ks := ⟨h.1, h.2.1, h.2.2.1, h.2.2.2⟩
theorem zinv_P {σ : zS} {ks : List Nat} {a j : Nat} {v : Option Nat} (h : zinv σ ks) (hv : ∀ x, v = some x → zok ks x) : zinv (σ.1, σ.2.1, zu σ.2.2.1 a j v, σ.2.2.2) ks := ⟨h.1, h.2.1, fun r hr k x hx => by
  have hx : zu σ.2.2.1 a j v r k = some x := hx
  unfold zu at hx
  split at hx
  · exact hv x hx
  · exact h.2.2.1 r hr k x hx, h.2.2.2⟩
theorem zinv_cp {σ : zS} {ks : List Nat} {a sp b dp n : Nat} (h : zinv σ ks) (hab : a % 32 = b % 32) : zinv (zcp σ.1 a sp b dp n, σ.2) ks := ⟨h.1, h.2.1, h.2.2.1, fun r hr k => by
  show fits .byte (.int (zcp σ.1 a sp b dp n r k)) = true
  unfold zcp
  split
  · rename_i e
    exact h.2.2.2 a (by rw [hab, ← e.1]; exact hr) _
  · exact h.2.2.2 r hr k⟩
theorem zfs_set {n k : Nat} {f g : Nat → Value} {v : Value} (hk : k < n) (he : g k = v) (ho : ∀ j, j ≠ k → g j = f j) : ((List.range n).map f).set k v = (List.range n).map g := by
  apply List.ext_getElem?
  intro i
  rw [List.getElem?_set]
  by_cases hi : k = i
  · subst hi
    simp [hk, he]
  · rw [if_neg hi]
    simp only [List.getElem?_map]
    cases hr : (List.range n)[i]? with
    | none => rfl
    | some x =>
      have : x = i := by
        rw [List.getElem?_range] at hr
        · exact (Option.some.inj hr).symm
        · have := (List.getElem?_eq_some_iff.mp hr).1
          simpa using this
      subst this
      simp [ho x (fun e => hi e.symm)]
def zfok (t : FieldType) : Bool := match t with
  | .int => true
  | .long => true
  | .boolean => true
  | .byte => true
  | .object _ => true
  | .array _ => true
  | _ => false
theorem zft_all : ((List.range 15).all fun c => (List.range (zfc c)).all fun k => zfok (zft c k)) = true := by decide +kernel
theorem zft_ok {c k : Nat} (hc : c < 15) (hk : k < zfc c) : zfok (zft c k) = true := List.all_eq_true.mp (List.all_eq_true.mp zft_all c (List.mem_range.mpr hc)) k (List.mem_range.mpr hk)
/-- a value that a place of a type takes as it is -/
theorem zfit_of {t : FieldType} {v : Value} (ht : zfok t = true) (h : (∃ y, v = .int y ∧ (zcod t = 0 ∨ (zcod t = 3 ∧ (y = 0 ∨ y = 1)))) ∨ (∃ y, v = .long y ∧ zcod t = 1) ∨ ((v = .null ∨ ∃ a, v = .ref a) ∧ zcod t = 2)) : narrow t v = v ∧ fits t v = true := by
  rcases h with ⟨y, rfl, h⟩ | ⟨y, rfl, h⟩ | ⟨h1, h⟩
  · cases t <;> simp [zcod] at h
    · exact ⟨rfl, rfl⟩
    · rcases h with rfl | rfl <;> exact ⟨by decide, by decide⟩
  · cases t <;> simp [zcod] at h
    exact ⟨rfl, rfl⟩
  · rcases h1 with rfl | ⟨a, rfl⟩ <;> cases t <;> simp [zcod] at h <;> first | exact ⟨rfl, rfl⟩ | simp [zfok] at ht
theorem zRA_eq {U : State} {c1 c2 : ClassId} {ty : FieldType} (h1 : va_RA U c1 ty) (h2 : va_RA U c2 ty) : c1 = c2 := by
  cases ty with
  | object C =>
    obtain ⟨_, _, -, -, -, a⟩ := h1
    obtain ⟨_, _, -, -, -, b⟩ := h2
    exact Option.some.inj (a.symm.trans b)
  | _ => exact Option.some.inj (h1.symm.trans h2)
section
variable {p : Program} {l : Launch} {e : Env} {R : Room} {s : State} {m : MethodId} {args : Array Value} {below : List Frame} {meth : Method} {c : Code} {H : Heap} {locs : List Loc} {cells slots : Nat} {Q : State → Prop}
variable {q : Nat} {D : va_G} {cy : Nat → ClassId} {ad ro : Nat → Nat} {A : Nat → Prop} {xs : Nat → Nat → Int32} {Ls : Nat → Nat} {σ τ : zS} {ks : List Nat} {pc : Nat} {lsA : Array Slot} {rest : List Value}
theorem zcell_obj {a : Nat} (h : a % 32 < 15) : zcell cy ad ro σ (a % 32) a = .inr (a % 32, (List.range (zfc (a % 32))).map (zpl ad ro σ (a % 32) a)) := by simp [zcell, h]
theorem zfs_get {n k : Nat} {f : Nat → Value} (hk : k < n) : ((List.range n).map f)[k]? = some (f k) := by simp [hk]
/-- a field is read -/
theorem zW_get (C : zCx l q R p s m args meth c D cy ro A xs Ls) (hS : zSt s D cy ad ro A xs Ls σ ks H locs) {a k idx : Nat} (ha : zok ks a) (hc : a % 32 < 15) (hk : k < zfc (a % 32)) (hT : (zTX (a % 32) k).1 = zon (a % 32))
    (hlink : Cond.fieldLink (zon (zow q)) idx (zon (a % 32)) (zTX (a % 32) k).2.1 (zTX (a % 32) k).2.2.1 ∈ zTBL ∨ ∃ host, Cond.fieldLinkNest (zon (zow q)) idx (zon (a % 32)) (zTX (a % 32) k).2.1 (zTX (a % 32) k).2.2.1 host ∈ zNW) (hd : decode (zby q) pc = .ok (.getfield idx, 3))
    (kk : W p l e R s m args below meth c H locs cells slots Q (F0 m (pc + 3) lsA (zpl ad ro σ (a % 32) a k :: rest))) : W p l e R s m args below meth c H locs cells slots Q (F0 m pc lsA (.ref (zad ad ro a) :: rest)) := by
  obtain ⟨hx, hb, hml, hown, hts, hnw, hK, hA, hro, hZ, hfr, hlo, hnm, hex⟩ := C
  obtain ⟨hP, hD, hSS, hI, hRO⟩ := hS
  have hat := zw_at (cy := cy) (ad := ad) (ro := ro) (σ := σ) (zok_in ha (by omega)) (by omega)
  rw [zcell_obj hc] at hat
  rcases hlink with hl | ⟨host, hl⟩
  · exact va_get (D := D) hx hb hts (zin_all _ _ (zcl _ hc)) hown hK hP (a / 32) hat (zcl _ hc) k hk (hts _ hl) (fun x h => by rw [← hT]; exact h) (zfs_get hk) hd kk
  · exact va_getN (D := D) (host := host) hx hb hts (zin_all _ _ (zcl _ hc)) hown hK hP (a / 32) hat (zcl _ hc) k hk (va_tabs rfl rfl (hnw _ hl)) (fun x h => by rw [← hT]; exact h) (zfs_get hk) hd kk
/-- a field is written -/
theorem zW_put (C : zCx l q R p s m args meth c D cy ro A xs Ls) (hS : zSt s D cy ad ro A xs Ls σ ks H locs) {a k idx : Nat} {v : Value} (ha : zok ks a) (hc : a % 32 < 15) (hk : k < zfc (a % 32)) (hT : (zTX (a % 32) k).1 = zon (a % 32))
    (hlink : (Cond.fieldLink (zon (zow q)) idx (zon (a % 32)) (zTX (a % 32) k).2.1 (zTX (a % 32) k).2.2.1 ∈ zTBL ∧ ((zTX (a % 32) k).2.2.2 = false ∨ (zow q = a % 32 ∧ (zy q).name = "<init>" ∧ (zTX (a % 32) k).2.2.2 = true))) ∨ ∃ host, Cond.fieldLinkNest (zon (zow q)) idx (zon (a % 32)) (zTX (a % 32) k).2.1 (zTX (a % 32) k).2.2.1 host ∈ zNW ∧ (zTX (a % 32) k).2.2.2 = false)
    (hn : narrow (zft (a % 32) k) v = v) (hf : fits (zft (a % 32) k) v = true) (hd : decode (zby q) pc = .ok (.putfield idx, 3))
    (hE : zpl ad ro τ (a % 32) a k = v) (hO : ∀ j, j ≠ k → zpl ad ro τ (a % 32) a j = zpl ad ro σ (a % 32) a j)
    (ho : ∀ x, x ≠ a → τ.1 x = σ.1 x ∧ τ.2.1 x = σ.2.1 x ∧ τ.2.2.1 x = σ.2.2.1 x ∧ τ.2.2.2.1 x = σ.2.2.2.1 x) (hI' : zinv τ ks)
    (kk : ∀ (H1 : Heap) (locs1 : List Loc), zSt s D cy ad ro A xs Ls τ ks H1 locs1 → W p l e R s m args below meth c H1 locs1 cells slots Q (F0 m (pc + 3) lsA rest)) : W p l e R s m args below meth c H locs cells slots Q (F0 m pc lsA (v :: .ref (zad ad ro a) :: rest)) := by
  obtain ⟨hx, hb, hml, hown, hts, hnw, hK, hA, hro, hZ, hfr, hlo, hnm, hex⟩ := C
  obtain ⟨hP, hD, hSS, hI, hRO⟩ := hS
  have hin := zok_in ha (by omega)
  have hat := zw_at (cy := cy) (ad := ad) (ro := ro) (σ := σ) hin (by omega)
  rw [zcell_obj hc] at hat
  have hset : (zw cy ad ro σ ks).set (a / 32) (zad ad ro a, .inr (a % 32, ((List.range (zfc (a % 32))).map (zpl ad ro σ (a % 32) a)).set k v)) = zw cy ad ro τ ks := zw_set hI.2.1 hin (by rw [zcell_obj hc, zfs_set hk hE hO]) ho
  have hRO' : ∀ k, k < 2 → τ.1 (32 * k + 22) = xs k ∧ τ.2.2.2.1 (32 * k + 22) = Ls k := fun k hk => by
    obtain ⟨e1, -, -, e4⟩ := ho (32 * k + 22) (by omega)
    rw [e1, e4]
    exact hRO k hk
  have hlen : k < ((List.range (zfc (a % 32))).map (zpl ad ro σ (a % 32) a)).length := by simpa using hk
  rcases hlink with ⟨hl, hfin | ⟨h1, h2, hfin⟩⟩ | ⟨host, hl, hfin⟩
  · refine va_put (D := D) hx hb hts (zin_all _ _ (zcl _ hc)) (zft (a % 32)) (zty_ok _ hc) (znm_ok _ hc) hown hK hP hD hSS (a / 32) hat (zcl _ hc) k hk (hts _ hl) (fun x h => by rw [← hT]; exact h) hfin (zty_ok _ hc k hk) hn hf hlen hd (fun H1 locs1 hP1 hD1 hS1 => ?_)
    exact kk H1 locs1 ⟨hset ▸ hP1, hset ▸ hD1, hS1, hI', hRO'⟩
  · refine va_putF (D := D) hx hb hts (zin_all _ _ (zcl _ hc)) (zft (a % 32)) (zty_ok _ hc) (znm_ok _ hc) hown hK hP hD hSS (a / 32) hat (zcl _ hc) k hk (hts _ hl) (fun x h => by rw [← hT]; exact h) hfin (by rw [hnm]; exact h2) (by rw [hT, h1]) (zty_ok _ hc k hk) hn hf hlen hd (fun H1 locs1 hP1 hD1 hS1 => ?_)
    exact kk H1 locs1 ⟨hset ▸ hP1, hset ▸ hD1, hS1, hI', hRO'⟩
  · refine va_putN (D := D) (host := host) hx hb hts (zin_all _ _ (zcl _ hc)) (zft (a % 32)) (zty_ok _ hc) (znm_ok _ hc) hown hK hP hD hSS (a / 32) hat (zcl _ hc) k hk (va_tabs rfl rfl (hnw _ hl)) (fun x h => by rw [← hT]; exact h) hfin (zty_ok _ hc k hk) hn hf hlen hd (fun H1 locs1 hP1 hD1 hS1 => ?_)
    exact kk H1 locs1 ⟨hset ▸ hP1, hset ▸ hD1, hS1, hI', hRO'⟩
end
