/-! THE CLAIM OUT OF A RUN OF THE SMALL MACHINE ON THE LAW. -/
def R_law : String := "CoinScriptsLaw"
def lw_P (b : Addr) (xs : List Int32) (args : Array Value) (s : State) : Prop := args = #[.ref b] ∧ s.IntsAt b xs ∧ xs.length ≤ 5 ∧ (Jvm.Cond.and given_1 narrow_1).before args s = true
def lw_Q (_ : Array Value) (s : State) (o : Outcome) (t : State) : Prop := o = .returned (some (.int 1)) ∧ Framed s o t [] 600002 7302198
def lw_Z (below : List Frame) (a : Array Value) (s : State) : State → Prop := fun t => ∃ o, t.status = .running ∧ Ended t below o ∧ lw_Q a s o t
theorem lw_ret {p : Program} {l : Launch} {e : Env} {s : State} {m : MethodId} {below : List Frame} {meth : Method} {c : Code} {b : Nat} (hx : p.tables.exec = Jvm.exec) (hb : c.code = code) (hr : meth.sig.returnType = ret) (hlocks : meth.locks = false) {pc : Nat} {H : Heap} {ls : Array Slot} (hdg : decode code pc = .ok (.ireturn, 1)) : W p l e room_1 s m #[Value.ref b] below meth c H [] 600002 7302198 (lw_Z below #[Value.ref b] s) (F0 m pc ls [.int 1]) := by
  intro T hT X
  obtain ⟨fs, hret, hrun, hended, hW, hframe⟩ := X.leave (v := some (.int 1)) (hlocks := hlocks) (fun h => by rw [hr] at h; cases h)
  have hmeth' : T.vm.method? m = some meth := X.method'
  refine ⟨T.setFrames fs, ?_, .returned (some (.int 1)), hrun, hended, rfl, ⟨_, rfl⟩, hW, hframe⟩
  jvm_step X.here [X.here.top, hx, hb, hdg, hmeth', hr, ret, narrow_b1]
  (try refine ⟨rfl, ?_⟩); (try refine ⟨rfl, ?_⟩)
  first | (intro acts; rw [hret _ acts rfl rfl rfl]) | rw [hret _ _ rfl rfl rfl]
  exact Steps.refl _
/-- what holds at the law's entry -/
def lw_At (p : Program) (s : State) (m : MethodId) (meth : Method) (c : Code) (b L : Nat) (xs : Nat → Int32) : Prop :=
  p.tables.exec = Jvm.exec ∧ c.code = code ∧ meth.sig.returnType = ret ∧ c.maxLocals = 8 ∧ s.vm.findClass R_law = some m.cls ∧ (∀ w ∈ lw_tbl, w.before #[Value.ref b] s = true) ∧ va_X b L xs s s.heap ∧ b < s.heap.size ∧ meth.locks = false ∧ (Jvm.Cond.and given_1 narrow_1).before #[Value.ref b] s = true ∧ meth.name = "law"
theorem zarr_of {s : State} {args : Array Value} {ty : FieldType} (hp : ∀ C, ty ≠ .object C) (h : (Cond.arrayClass ty).before args s = true) : ∃ cA, ArrOfT s cA ty ∧ va_RA s cA ty := by
  obtain ⟨cA, kA, comp, h1, h2, h3⟩ := Cond.arrayClass_spec h
  refine ⟨cA, fun n z => ⟨fun k h => (by cases h), kA, h2, comp, h3⟩, ?_⟩
  cases ty <;> first | exact h1 | (exact absurd rfl (hp _))
theorem zarq_of {s : State} {C : String} (h : va_AO C s) : ∃ cA, ArrOfT s cA (.object C) ∧ va_RA s cA (.object C) := by
  obtain ⟨comp, cA, kA, h1, -, h3, h4, h5⟩ := Cond.arrayOver_spec h
  exact ⟨cA, fun n z => ⟨fun k h => (by cases h), kA, h3, comp, h4⟩, kA, comp, h3, h4, h1, h5⟩
theorem zlen_lt {args : Array Value} {s : State} {tm : Term} {t : Nat} {cell : Cell} {v : Value} (ht : tm.eval args s none [] s = some (.ref t)) (hat : s.arrayAt? t = some cell) (hlen : (Term.length tm).eval args s none [] s = some v) : cell.slots.size < 2 ^ 31 := by
  simp only [Term.eval, ht, hat, Option.bind_eq_bind, Option.bind_some] at hlen
  by_cases hlt : cell.slots.size < 2147483648
  · exact hlt
  · simp [hlt] at hlen
theorem ztak_of {args : Array Value} {s : State} (h : (Jvm.Cond.and given_1 narrow_1).before args s = true) : ∃ t : Nat, (Term.static "CoinScripts$Builtins" "TAKES" "[I").eval args s none [] s = some (.ref t) ∧ va_X t 32 zTK0 s s.heap := by
  have hs := flat_of_before _ h
  have harr : (Cond.arrayOf (Term.static "CoinScripts$Builtins" "TAKES" "[I") .int).before args s = true := hs _ (by decide +kernel)
  have hlen := va_eqt (hs (Cond.eq (Term.length (Term.static "CoinScripts$Builtins" "TAKES" "[I")) (.int 32)) (by decide +kernel))
  have hel : ∀ j : Nat, j < 32 → (Term.elem (Term.static "CoinScripts$Builtins" "TAKES" "[I") (.int (Int32.ofNat j))).eval args s none [] s = some (.int (zTK0 j)) := by
    intro j hj
    match j, hj with
    | 0, _ => exact va_eqt (hs (Cond.eq (Term.elem (Term.static "CoinScripts$Builtins" "TAKES" "[I") (.int 0)) (.int 17)) (by decide +kernel))
    | 1, _ => exact va_eqt (hs (Cond.eq (Term.elem (Term.static "CoinScripts$Builtins" "TAKES" "[I") (.int 1)) (.int 17)) (by decide +kernel))
    | 2, _ => exact va_eqt (hs (Cond.eq (Term.elem (Term.static "CoinScripts$Builtins" "TAKES" "[I") (.int 2)) (.int 17)) (by decide +kernel))
    | 3, _ => exact va_eqt (hs (Cond.eq (Term.elem (Term.static "CoinScripts$Builtins" "TAKES" "[I") (.int 3)) (.int 17)) (by decide +kernel))
    | 4, _ => exact va_eqt (hs (Cond.eq (Term.elem (Term.static "CoinScripts$Builtins" "TAKES" "[I") (.int 4)) (.int 17)) (by decide +kernel))
    | 5, _ => exact va_eqt (hs (Cond.eq (Term.elem (Term.static "CoinScripts$Builtins" "TAKES" "[I") (.int 5)) (.int 17)) (by decide +kernel))
    | 6, _ => exact va_eqt (hs (Cond.eq (Term.elem (Term.static "CoinScripts$Builtins" "TAKES" "[I") (.int 6)) (.int 17)) (by decide +kernel))
    | 7, _ => exact va_eqt (hs (Cond.eq (Term.elem (Term.static "CoinScripts$Builtins" "TAKES" "[I") (.int 7)) (.int 17)) (by decide +kernel))
    | 8, _ => exact va_eqt (hs (Cond.eq (Term.elem (Term.static "CoinScripts$Builtins" "TAKES" "[I") (.int 8)) (.int 17)) (by decide +kernel))
    | 9, _ => exact va_eqt (hs (Cond.eq (Term.elem (Term.static "CoinScripts$Builtins" "TAKES" "[I") (.int 9)) (.int 17)) (by decide +kernel))
    | 10, _ => exact va_eqt (hs (Cond.eq (Term.elem (Term.static "CoinScripts$Builtins" "TAKES" "[I") (.int 10)) (.int 34)) (by decide +kernel))
    | 11, _ => exact va_eqt (hs (Cond.eq (Term.elem (Term.static "CoinScripts$Builtins" "TAKES" "[I") (.int 11)) (.int 2)) (by decide +kernel))
    | 12, _ => exact va_eqt (hs (Cond.eq (Term.elem (Term.static "CoinScripts$Builtins" "TAKES" "[I") (.int 12)) (.int 33)) (by decide +kernel))
    | 13, _ => exact va_eqt (hs (Cond.eq (Term.elem (Term.static "CoinScripts$Builtins" "TAKES" "[I") (.int 13)) (.int 274)) (by decide +kernel))
    | 14, _ => exact va_eqt (hs (Cond.eq (Term.elem (Term.static "CoinScripts$Builtins" "TAKES" "[I") (.int 14)) (.int 34)) (by decide +kernel))
    | 15, _ => exact va_eqt (hs (Cond.eq (Term.elem (Term.static "CoinScripts$Builtins" "TAKES" "[I") (.int 15)) (.int 34)) (by decide +kernel))
    | 16, _ => exact va_eqt (hs (Cond.eq (Term.elem (Term.static "CoinScripts$Builtins" "TAKES" "[I") (.int 16)) (.int 870)) (by decide +kernel))
    | 17, _ => exact va_eqt (hs (Cond.eq (Term.elem (Term.static "CoinScripts$Builtins" "TAKES" "[I") (.int 17)) (.int 85)) (by decide +kernel))
    | 18, _ => exact va_eqt (hs (Cond.eq (Term.elem (Term.static "CoinScripts$Builtins" "TAKES" "[I") (.int 18)) (.int 5)) (by decide +kernel))
    | 19, _ => exact va_eqt (hs (Cond.eq (Term.elem (Term.static "CoinScripts$Builtins" "TAKES" "[I") (.int 19)) (.int 9)) (by decide +kernel))
    | 20, _ => exact va_eqt (hs (Cond.eq (Term.elem (Term.static "CoinScripts$Builtins" "TAKES" "[I") (.int 20)) (.int 9)) (by decide +kernel))
    | 21, _ => exact va_eqt (hs (Cond.eq (Term.elem (Term.static "CoinScripts$Builtins" "TAKES" "[I") (.int 21)) (.int 23)) (by decide +kernel))
    | 22, _ => exact va_eqt (hs (Cond.eq (Term.elem (Term.static "CoinScripts$Builtins" "TAKES" "[I") (.int 22)) (.int 1)) (by decide +kernel))
    | 23, _ => exact va_eqt (hs (Cond.eq (Term.elem (Term.static "CoinScripts$Builtins" "TAKES" "[I") (.int 23)) (.int 2)) (by decide +kernel))
    | 24, _ => exact va_eqt (hs (Cond.eq (Term.elem (Term.static "CoinScripts$Builtins" "TAKES" "[I") (.int 24)) (.int 10)) (by decide +kernel))
    | 25, _ => exact va_eqt (hs (Cond.eq (Term.elem (Term.static "CoinScripts$Builtins" "TAKES" "[I") (.int 25)) (.int 11)) (by decide +kernel))
    | 26, _ => exact va_eqt (hs (Cond.eq (Term.elem (Term.static "CoinScripts$Builtins" "TAKES" "[I") (.int 26)) (.int 7)) (by decide +kernel))
    | 27, _ => exact va_eqt (hs (Cond.eq (Term.elem (Term.static "CoinScripts$Builtins" "TAKES" "[I") (.int 27)) (.int 7)) (by decide +kernel))
    | 28, _ => exact va_eqt (hs (Cond.eq (Term.elem (Term.static "CoinScripts$Builtins" "TAKES" "[I") (.int 28)) (.int 87)) (by decide +kernel))
    | 29, _ => exact va_eqt (hs (Cond.eq (Term.elem (Term.static "CoinScripts$Builtins" "TAKES" "[I") (.int 29)) (.int 7)) (by decide +kernel))
    | 30, _ => exact va_eqt (hs (Cond.eq (Term.elem (Term.static "CoinScripts$Builtins" "TAKES" "[I") (.int 30)) (.int 7)) (by decide +kernel))
    | 31, _ => exact va_eqt (hs (Cond.eq (Term.elem (Term.static "CoinScripts$Builtins" "TAKES" "[I") (.int 31)) (.int 8)) (by decide +kernel))
    | k + 32, h => exact absurd h (by omega)
  obtain ⟨t, ht, cell, h1, h2, h3, h4, h5, h6, -⟩ := va_Tof (A := fun _ => False) (N := 32) (by decide) harr hlen hel (fun _ _ h => h)
  refine ⟨t, ht, cell, h1, h2, h3, ?_, h6⟩
  obtain ⟨t2, cell2, ht2, hat, hv⟩ := Term.length_spec hlen
  cases ht.symm.trans ht2
  obtain ⟨hcell, -, -, -⟩ := State.arrayAt?_spec hat
  cases h1.symm.trans hcell
  have hsz : cell.slots.size < 2 ^ 31 := zlen_lt ht hat hlen
  have e : (cell.slots.size.toInt32).toInt = (Int32.ofNat 32).toInt := by rw [h5]
  have e1 : (Int32.ofNat cell.slots.size).toInt = (cell.slots.size : Int) := nI_toInt hsz
  have e2 : (Int32.ofNat 32).toInt = 32 := by decide
  have e3 : (cell.slots.size.toInt32).toInt = (Int32.ofNat cell.slots.size).toInt := rfl
  omega
theorem zNW_of {s : State} {args : Array Value} (h : ∀ w ∈ lw_tbl, w.before args s = true) : ∀ w ∈ zNW, va_Nw w s := fun w hm => by
  have h1 := zisN_of hm
  have h2 := h w (List.mem_filter.mp hm).1
  cases w <;> simp [zisN] at h1
  all_goals first
    | exact va_Nw.of rfl h2
    | skip
  all_goals
    obtain ⟨C, rfl⟩ := zNW_ao hm
    exact va_AO.of h2
set_option maxRecDepth 1000000 in
theorem zao_in : ([Cond.arrayOver (.object RX1), Cond.arrayOver (.object RX6), Cond.arrayOver (.object RX7)].all (fun w => decide (w ∈ zNW))) = true := by decide +kernel
set_option maxRecDepth 1000000 in
theorem zins_in : ((List.range 15).all fun c => decide (Cond.instantiable (zon c) (zfc c) ∈ lw_tbl)) = true := by decide +kernel
set_option maxHeartbeats 4000000 in
theorem zK_of {s : State} {args : Array Value} (h : ∀ w ∈ lw_tbl, w.before args s = true) : ∃ (D : va_G) (cy : Nat → ClassId), va_K D vwCl (ztys cy) s := by
  have hts : ∀ w ∈ zTBL, w.before args s = true := fun w hw => h w (zTBL_tbl hw)
  have hk : ∀ k : Nat, ∃ (cC : ClassId) (iS : Nat → Nat), ∀ q : vw_C, vwCl[k]? = some q → u_Kn s q.1 q.2.1 q.2.2 cC iS := by
    intro k
    by_cases hk : k < 15
    · have hi : (Cond.instantiable (zon k) (zfc k)).before args s = true := h _ (of_decide_eq_true (List.all_eq_true.mp zins_in k (List.mem_range.mpr hk)))
      obtain ⟨cC, iS, hK⟩ := u_known (C := zon k) (T := zTX k) (N := zfc k) hts (zin_all _ _ (zcl k hk)) hi
      refine ⟨cC, iS, fun q hq => ?_⟩
      rw [zcl k hk] at hq
      cases hq
      exact hK
    · exact ⟨0, fun _ => 0, fun q hq => absurd (List.getElem?_eq_some_iff.mp hq).1 (by simp; omega)⟩
  obtain ⟨a0, b0⟩ := zarr_of (ty := .byte) (fun _ h => by cases h) (hts _ (zw_arr _ (List.mem_of_getElem? (i := 0) rfl)))
  obtain ⟨a1, b1⟩ := zarr_of (ty := .int) (fun _ h => by cases h) (hts _ (zw_arr _ (List.mem_of_getElem? (i := 1) rfl)))
  obtain ⟨a2, b2⟩ := zarr_of (ty := .long) (fun _ h => by cases h) (hts _ (zw_arr _ (List.mem_of_getElem? (i := 2) rfl)))
  obtain ⟨a3, b3⟩ := zarr_of (ty := .boolean) (fun _ h => by cases h) (hts _ (zw_arr _ (List.mem_of_getElem? (i := 3) rfl)))
  have hao := zao_in
  simp only [List.all_cons, List.all_nil, Bool.and_true, Bool.and_eq_true, decide_eq_true_eq] at hao
  have hnw := zNW_of h
  obtain ⟨a4, b4⟩ := zarq_of (hnw _ hao.1)
  obtain ⟨a5, b5⟩ := zarq_of (hnw _ hao.2.1)
  obtain ⟨a6, b6⟩ := zarq_of (hnw _ hao.2.2)
  refine ⟨(fun k => Classical.choose (hk k), fun k => Classical.choose (Classical.choose_spec (hk k))), fun k => match k with
    | 0 => a0
    | 1 => a1
    | 2 => a2
    | 3 => a3
    | 4 => a4
    | 5 => a5
    | _ => a6, fun k q hq => Classical.choose_spec (Classical.choose_spec (hk k)) q hq, ?_⟩
  intro k q hq
  match k, hq with
  | 0, hq => cases hq; exact b0
  | 1, hq => cases hq; exact b1
  | 2, hq => cases hq; exact b2
  | 3, hq => cases hq; exact b3
  | 4, hq => cases hq; exact b4
  | 5, hq => cases hq; exact b5
  | 6, hq => cases hq; exact b6
  | k + 7, hq => simp [ztys] at hq
set_option maxRecDepth 1000000 in
theorem zlaw_rows : zfr 328 = 14 ∧ zlo 328 = 588 ∧ zow 328 = 15 := by decide +kernel
set_option maxRecDepth 1000000 in
theorem zlays_in : Cond.laysStatic "CoinScripts$Builtins" "TAKES" "[I" ∈ lw_tbl ∧ Cond.initialized "CoinScripts$Builtins" ∈ lw_tbl := by decide +kernel
set_option maxHeartbeats 4000000 in
/-- the law's body, where the small machine comes to 1 within the room -/
theorem zlaw {p : Program} {l : Launch} {e : Env} {s : State} {m : MethodId} {below : List Frame} {meth : Method} {c : Code} {b L n : Nat} {xs : Nat → Int32} {τ : zS} (hsim : zSim l n) (hck : zck 328 = true) (C0 : lw_At p s m meth c b L xs) (hexx : zEX l s (fun q : Nat => s.heap.size ≤ q))
    (hrun : zrun zGG n (zGG 328).1 ((zGG 328).1 0) (zent [.ref 22] 8) [] (zs0 L xs) = some (some (.int 1), τ)) (hn : τ.2.2.2.2.1 + τ.2.2.2.1 31 ≤ 600002) (hz : τ.2.2.2.2.2 ≤ 7302198) : W p l e room_1 s m #[Value.ref b] below meth c s.heap [] 0 0 (lw_Z below #[Value.ref b] s) (entryFrame m ([Value.ref b] : List Value).toArray 8) := by
  obtain ⟨hx, hb, hr, hml, hown, hts, hX, hbl, hlocks, hgv, hnm⟩ := C0
  obtain ⟨D, cy, hK⟩ := zK_of hts
  obtain ⟨tk, htk, hXt⟩ := ztak_of hgv
  obtain ⟨f1, f2, f3⟩ := zlaw_rows
  have htl : tk < s.heap.size := by
    obtain ⟨cell, h1, -⟩ := hXt
    exact (Array.getElem?_eq_some_iff.mp h1).1
  have hZ : va_Z RX0 "TAKES" "[I" (.ref tk) (fun q : Nat => s.heap.size ≤ q) s s.heap := va_Zof (hts _ zlays_in.1) (hts _ zlays_in.2) htk (fun a h => Nat.not_le.mpr h)
  have hl := lv_entry ([.ref b]) (n := 8) (Nat.le_of_ble_eq_true rfl)
  rw [lg_entry_eq]
  generalize (lg_sl ([.ref b]) ++ List.replicate (8 - (lg_sl ([.ref b])).length) Slot.unset).toArray = lsA at hl ⊢
  have hc0 := zck_at hck (zb0 (q := 328) (by decide)).2
  rw [(zb0 (q := 328) (by decide)).1] at hc0
  refine hsim 328 p e s m #[Value.ref b] below meth c room_1 D cy (fun k => if k = 0 then b else tk) (fun q : Nat => s.heap.size ≤ q) (fun k => if k = 0 then xs else zTK0) (fun k => if k = 0 then L else 32) (lw_Z below #[Value.ref b] s) 0 0 (some (.int 1)) τ (fun _ => 0) [] hck ⟨hx, hb, hml, ?_, fun w hw => hts w (zTBL_tbl hw), zNW_of hts, hK, fun _ h => h, ?_, hZ, f1.symm, f2.symm, hnm, fun _ => hexx⟩ (show _ - 0 ≤ 600002 by omega) (show _ - 0 ≤ 7302198 by omega) ?_ (fun pc lsB ad ks H locs cells slots hre => by cases hre) ((zGG 328).1 0) 0 (zent [.ref 22] 8) [] (zs0 L xs) (fun _ => 0) [] s.heap [] 0 0 lsA hrun hc0 ⟨(fun k q h => by simp [zw] at h), ⟨(fun i j p q h => by simp [zw] at h), (fun k q h => by simp [zw] at h)⟩, va_S.rf, ⟨rfl, (fun kd h => by cases h), (fun r h => by simp at h), (fun r hr j => ?_)⟩, ?_⟩ zext_rf ⟨rfl, hl.1, hl.2.1, ?_⟩ ?_ (fun v h => absurd h List.not_mem_nil) (Nat.zero_le _) (Nat.zero_le _)
  · rw [f3]
    exact hown
  · intro k hk
    match k, hk with
    | 0, _ => exact ⟨hX, hbl, Nat.not_le.mpr hbl⟩
    | 1, _ => exact ⟨hXt, htl, Nat.not_le.mpr htl⟩
    | k + 2, h => exact absurd h (by omega)
  · intro pc lsB t i len st ad ks H locs cells slots hd hci hret hSt hE hsk hcn hcz
    obtain ⟨rfl, hcase⟩ := zret_of hci
    have hst : st = [.int 1] := by
      rcases zvRet hret with ⟨-, -, hx1⟩ | ⟨v, -, rfl, hx1⟩ | ⟨v, -, rfl, hv, hx1⟩ | ⟨v, -, -, hx1⟩ | ⟨o, -, -, hx1⟩
      · cases hx1
      · cases hx1; rfl
      · cases hx1; rfl
      · cases hx1
      · cases o <;> cases hx1
    subst hst
    have hi : i = .ireturn := by
      rcases hcase with ⟨h, -, -⟩ | ⟨h, -, -⟩ | ⟨-, -, h⟩ | ⟨-, -, h⟩ | ⟨-, -, h⟩
      · exact h
      · exact h
      · subst h; cases hret
      · subst h; cases hret
      · subst h; cases hret
    subst hi
    refine va_forget (fun q hq => hSt.2.2.1.2.2 q hq) ?_
    refine W.widen (k := 600002) (n := 7302198) (by omega) (by omega) ?_
    exact lw_ret hx hb hr hlocks hd
  · show fits .byte (.int (if r = 22 then xs j else if r = 54 then zTK0 j else 0)) = true
    rw [if_neg (by omega), if_neg (by omega)]
    rfl
  · intro k hk
    match k, hk with
    | 0, _ => exact ⟨rfl, rfl⟩
    | 1, _ => exact ⟨rfl, rfl⟩
    | k + 2, h => exact absurd h (by omega)
  · rintro ⟨j, w⟩ hq
    obtain ⟨v, hv, rfl⟩ := zlv_mem.mp hq
    have h1 := zlay_get (fun _ => 0) (fun k => if k = 0 then b else tk) [.ref 22] 0 j v (zent_get hv)
    rw [Nat.zero_add] at h1
    exact hl.2.2 _ h1
  · intro i v h
    have h1 := zlay_mem [.ref 22] i v (zent_get h)
    simp at h1
    subst h1
    exact Or.inl ⟨rfl, by decide⟩
