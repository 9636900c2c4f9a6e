/-! The words behind the links of the operations. -/
def zTX (c : Nat) : u_T := match c with
  | 0 => TX0
  | 1 => TX1
  | 2 => TX2
  | 3 => TX3
  | 4 => TX4
  | 5 => TX5
  | 6 => TX6
  | 7 => TX7
  | 8 => TX8
  | 9 => TX9
  | 10 => TX10
  | 11 => TX11
  | 12 => TX12
  | 13 => TX13
  | _ => TX14
theorem ztc_in : ∀ (c : Nat) (w : Cond), w ∈ ztc c → w ∈ lw_tbl := by
  intro c w h
  unfold ztc at h
  split at h
  · exact List.mem_append_left _ h
  all_goals first | (cases h; done) | (refine List.mem_append_right _ ?_; simp only [tables_1, List.mem_append]; simp only [h, true_or, or_true])
def zwd (i : Nat) (w : Cond) : Bool := match zwat i with
  | some v => decide (v = w) && goodWord w
  | none => false
theorem zwd_ok {i : Nat} {w : Cond} (h : zwd i w = true) : w ∈ zTBL := by
  unfold zwd at h
  split at h
  · rename_i v hv
    rw [Bool.and_eq_true, decide_eq_true_eq] at h
    obtain ⟨rfl, hg⟩ := h
    exact List.mem_filter.mpr ⟨ztc_in _ _ (List.mem_of_getElem? hv), hg⟩
  · cases h
def zisN (w : Cond) : Bool := match w with
  | .fieldLinkNest .. => true
  | .methodLinkNest .. => true
  | .castable .. => true
  | .arrayOver .. => true
  | .declares .. => true
  | _ => false
def zNW : List Cond := lw_tbl.filter zisN
def zwn (i : Nat) (w : Cond) : Bool := match zwat i with
  | some v => decide (v = w) && zisN w
  | none => false
theorem zwn_ok {i : Nat} {w : Cond} (h : zwn i w = true) : w ∈ zNW := by
  unfold zwn at h
  split at h
  · rename_i v hv
    rw [Bool.and_eq_true, decide_eq_true_eq] at h
    obtain ⟨rfl, hg⟩ := h
    exact List.mem_filter.mpr ⟨ztc_in _ _ (List.mem_of_getElem? hv), hg⟩
  · cases h
def zFLb (e : Nat × Nat × Nat × Nat × Nat) : Bool := zwd e.2.2.2.2 (.fieldLink (zon e.1) e.2.1 (zon e.2.2.1) (zTX e.2.2.1 e.2.2.2.1).2.1 (zTX e.2.2.1 e.2.2.2.1).2.2.1) && decide ((zTX e.2.2.1 e.2.2.2.1).1 = zon e.2.2.1) && decide (e.2.2.2.1 < zfc e.2.2.1) && decide (e.2.2.1 < 15)
def zFNb (e : Nat × Nat × Nat × Nat × Nat × Nat) : Bool := zwn e.2.2.2.2.2 (.fieldLinkNest (zon e.1) e.2.1 (zon e.2.2.1) (zTX e.2.2.1 e.2.2.2.1).2.1 (zTX e.2.2.1 e.2.2.2.1).2.2.1 (zon e.2.2.2.2.1)) && decide ((zTX e.2.2.1 e.2.2.2.1).1 = zon e.2.2.1) && decide (e.2.2.2.1 < zfc e.2.2.1) && decide (e.2.2.1 < 15)
def zMLb (e : Nat × Nat × Nat × Nat × Nat × Nat × Nat × Nat × Nat) : Bool := match e with
  | (o, i, q, md, h, i1, i2, i3, i4) =>
    (if h = 0 then zwd i1 (.methodLink (zon o) i (zy q)) else zwn i1 (.methodLinkNest (zon o) i (zy q) (zon (h - 1)))) && zwd i4 (.initialized (zy q).cls) &&
      (match md with
        | 0 => zwd i2 (.static (zy q))
        | 1 => zwd i2 (.instanceMethod (zy q)) && zwd i3 (.selects (zy q).cls (zy q) (zy q))
        | _ => zwd i2 (.instanceMethod (zy q)) && decide ((zy q).name = "<init>") && decide (zrt q = none))
def zKLb (e : Nat × Nat × Nat × Nat × Nat × Nat) : Bool := match e with
  | (o, i, c, i1, i2, i3) => zwd i1 (.classLink (zon o) i (zon c)) && zwd i2 (.instantiable (zon c) (zfc c)) && zwd i3 (.initialized (zon c)) && decide (c < 15)
def zKQb (e : Nat × Nat × Nat × Nat × Nat) : Bool := match e with
  | (o, i, kd, i1, i2) => zwd i1 (.classLink (zon o) i (zon (zcomp kd))) && zwn i2 (.arrayOver (.object (zon (zcomp kd)))) && decide (kd = 19 ∨ kd = 20 ∨ kd = 21)
def zan (kd : Nat) : String := match kd with
  | 15 => "[B"
  | 16 => "[I"
  | _ => "[J"
def zKAb (e : Nat × Nat × Nat × Nat) : Bool := match e with
  | (o, i, kd, i1) => zwd i1 (.classLink (zon o) i (zan kd)) && decide (kd = 15 ∨ kd = 16 ∨ kd = 17)
def zCNb (e : Nat × Nat × Nat × Nat) : Bool := match e with
  | (o, i, kd, i1) => zwd i1 (.methodLink (zon o) i ⟨zan kd, "clone", "()Ljava/lang/Object;"⟩) && decide (kd = 15 ∨ kd = 16 ∨ kd = 17)
/-- the word of a method's code, and what its name is -/
def zMb (q : Nat) : Bool := (match zwat (zmr q).2.2.2.1 with
  | some (.code y b n r) => goodWord (.code y b n r)
  | _ => false) && decide ((zy q).cls = zon (zow q)) && plainFor (zy q) && decide ((zy q).cls ≠ "java/lang/invoke/MethodHandle" ∧ (zy q).cls ≠ "java/lang/invoke/VarHandle") && decide ((zGG q).2 = zml q) && decide ((parseMethodDescriptor (zy q).desc).map (fun d => d.parameters.length) = some (znp q))
set_option maxRecDepth 1000000 in
theorem zFL_ok : zFL.all zFLb = true := by decide +kernel
set_option maxRecDepth 1000000 in
theorem zFN_ok : zFN.all zFNb = true := by decide +kernel
set_option maxRecDepth 1000000 in
theorem zML_0 : zMLK_0.all zMLb = true := by decide +kernel
set_option maxRecDepth 1000000 in
theorem zML_1 : zMLK_1.all zMLb = true := by decide +kernel
set_option maxRecDepth 1000000 in
theorem zML_2 : zMLK_2.all zMLb = true := by decide +kernel
set_option maxRecDepth 1000000 in
theorem zML_3 : zMLK_3.all zMLb = true := by decide +kernel
theorem zML_ok : zMLK.all zMLb = true := by
  simp only [zMLK, List.all_append, zML_0, zML_1, zML_2, zML_3, Bool.and_self]
set_option maxRecDepth 1000000 in
theorem zKL_ok : zKLs.all zKLb = true := by decide +kernel
set_option maxRecDepth 1000000 in
theorem zKQ_ok : zKQs.all zKQb = true := by decide +kernel
set_option maxRecDepth 1000000 in
theorem zKA_ok : zKAs.all zKAb = true := by decide +kernel
set_option maxRecDepth 1000000 in
theorem zCN_ok : zCNs.all zCNb = true := by decide +kernel
set_option maxRecDepth 1000000 in
theorem zCI_ok : zCIs.all (fun e => zwd e.2.2.2 (.constant (zon e.1) e.2.1 e.2.2.1)) = true := by decide +kernel
set_option maxRecDepth 1000000 in
theorem zCL_ok : zCLs.all (fun e => zwd e.2.2.2 (.constantLong (zon e.1) e.2.1 e.2.2.1)) = true := by decide +kernel
set_option maxRecDepth 1000000 in
theorem zOI_ok : zOIs.all (fun e => zwd e.2.2 (.methodLink (zon e.1) e.2.1 Lib.objectInit)) = true := by decide +kernel
set_option maxRecDepth 1000000 in
theorem zAC_ok : zACs.all (fun e => zwd e.2.2 (.methodLink (zon e.1) e.2.1 arraycopyName)) = true := by decide +kernel
set_option maxRecDepth 1000000 in
theorem zTK_ok : zTK.all (fun e => zwd e.2.2 (.fieldLink (zon e.1) e.2.1 RX0 "TAKES" "[I")) = true := by decide +kernel
set_option maxRecDepth 1000000 in
theorem zM_ok : ((List.range 328).all zMb) = true := by decide +kernel
set_option maxRecDepth 1000000 in
theorem zw_oi1 : Cond.instanceMethod Lib.objectInit ∈ zTBL := zTBL_in (ws := [Cond.instanceMethod Lib.objectInit]) (by decide +kernel) _ List.mem_cons_self
set_option maxRecDepth 1000000 in
theorem zw_oi2 : Cond.code Lib.objectInit ⟨#[0xb1]⟩ 1 none ∈ zTBL := zTBL_in (ws := [Cond.code Lib.objectInit ⟨#[0xb1]⟩ 1 none]) (by decide +kernel) _ List.mem_cons_self
set_option maxRecDepth 1000000 in
theorem zw_ac1 : Cond.native arraycopyName ∈ zTBL := zTBL_in (ws := [Cond.native arraycopyName]) (by decide +kernel) _ List.mem_cons_self
set_option maxRecDepth 1000000 in
theorem zw_ac2 : Cond.static arraycopyName ∈ zTBL := zTBL_in (ws := [Cond.static arraycopyName]) (by decide +kernel) _ List.mem_cons_self
set_option maxRecDepth 1000000 in
theorem zw_ac3 : Cond.initialized "java/lang/System" ∈ zTBL := zTBL_in (ws := [Cond.initialized "java/lang/System"]) (by decide +kernel) _ List.mem_cons_self
set_option maxRecDepth 1000000 in
theorem zw_arr : ∀ w ∈ [Cond.arrayClass .byte, Cond.arrayClass .int, Cond.arrayClass .long, Cond.arrayClass .boolean], w ∈ zTBL := zTBL_in (by decide +kernel)
set_option maxRecDepth 1000000 in
theorem zw_cl1 : ∀ kd, kd = 15 ∨ kd = 16 ∨ kd = 17 → Cond.sameMethod (zan kd) "java/lang/Object" "clone" "()Ljava/lang/Object;" ∈ zTBL ∧ Cond.selects (zan kd) ⟨zan kd, "clone", "()Ljava/lang/Object;"⟩ ⟨"java/lang/Object", "clone", "()Ljava/lang/Object;"⟩ ∈ zTBL := by
  have h := zTBL_in (ws := [Cond.sameMethod (zan 15) "java/lang/Object" "clone" "()Ljava/lang/Object;", Cond.sameMethod (zan 16) "java/lang/Object" "clone" "()Ljava/lang/Object;", Cond.sameMethod (zan 17) "java/lang/Object" "clone" "()Ljava/lang/Object;", Cond.selects (zan 15) ⟨zan 15, "clone", "()Ljava/lang/Object;"⟩ ⟨"java/lang/Object", "clone", "()Ljava/lang/Object;"⟩, Cond.selects (zan 16) ⟨zan 16, "clone", "()Ljava/lang/Object;"⟩ ⟨"java/lang/Object", "clone", "()Ljava/lang/Object;"⟩, Cond.selects (zan 17) ⟨zan 17, "clone", "()Ljava/lang/Object;"⟩ ⟨"java/lang/Object", "clone", "()Ljava/lang/Object;"⟩]) (by decide +kernel)
  rintro kd (rfl | rfl | rfl)
  · exact ⟨h _ (List.mem_of_getElem? (i := 0) rfl), h _ (List.mem_of_getElem? (i := 3) rfl)⟩
  · exact ⟨h _ (List.mem_of_getElem? (i := 1) rfl), h _ (List.mem_of_getElem? (i := 4) rfl)⟩
  · exact ⟨h _ (List.mem_of_getElem? (i := 2) rfl), h _ (List.mem_of_getElem? (i := 5) rfl)⟩
set_option maxRecDepth 1000000 in
theorem zw_cl2 : ∀ w ∈ [Cond.native ⟨"java/lang/Object", "clone", "()Ljava/lang/Object;"⟩, Cond.instanceMethod ⟨"java/lang/Object", "clone", "()Ljava/lang/Object;"⟩], w ∈ zTBL := zTBL_in (by decide +kernel)
set_option maxRecDepth 1000000 in
theorem zw_cl3 : ([Cond.castable (zan 15) "java/lang/Cloneable", Cond.castable (zan 16) "java/lang/Cloneable", Cond.castable (zan 17) "java/lang/Cloneable"].all (fun w => decide (w ∈ zNW))) = true := by decide +kernel
set_option maxRecDepth 1000000 in
theorem zLY_ok : ((List.range 15).all fun c => (List.range (zfc c)).all fun k => zwd ((zLY.getD c []).getD k 0) (u_lay (zon c) (zTX c) k)) = true := by decide +kernel
theorem zcl : ∀ c, c < 15 → vwCl[c]? = some (zon c, zTX c, zfc c) := by
  intro c hc
  match c, hc with
  | 0, _ => rfl
  | 1, _ => rfl
  | 2, _ => rfl
  | 3, _ => rfl
  | 4, _ => rfl
  | 5, _ => rfl
  | 6, _ => rfl
  | 7, _ => rfl
  | 8, _ => rfl
  | 9, _ => rfl
  | 10, _ => rfl
  | 11, _ => rfl
  | 12, _ => rfl
  | 13, _ => rfl
  | 14, _ => rfl
  | k + 15, h => exact absurd h (by omega)
theorem zin_all : ∀ (c : Nat) (r : vw_C), vwCl[c]? = some r → ∀ w ∈ u_ws r.1 r.2.1 r.2.2, w ∈ zTBL := by
  intro c r hr w hw
  have hc : c < 15 := (List.getElem?_eq_some_iff.mp hr).1
  rw [zcl c hc] at hr
  cases hr
  obtain ⟨k, hk, rfl⟩ := List.mem_map.mp hw
  exact zwd_ok (List.all_eq_true.mp (List.all_eq_true.mp zLY_ok c (List.mem_range.mpr hc)) k hk)
theorem zty_ok : ∀ c, c < 15 → ∀ k, k < zfc c → parseFieldDescriptor (zTX c k).2.2.1 = some (zft c k) := by
  intro c hc
  match c, hc with
  | 0, _ => exact tyX0_ok
  | 1, _ => exact tyX1_ok
  | 2, _ => exact tyX2_ok
  | 3, _ => exact tyX3_ok
  | 4, _ => exact tyX4_ok
  | 5, _ => exact tyX5_ok
  | 6, _ => exact tyX6_ok
  | 7, _ => exact tyX7_ok
  | 8, _ => exact tyX8_ok
  | 9, _ => exact tyX9_ok
  | 10, _ => exact tyX10_ok
  | 11, _ => exact tyX11_ok
  | 12, _ => exact tyX12_ok
  | 13, _ => exact tyX13_ok
  | 14, _ => exact tyX14_ok
  | k + 15, h => exact absurd h (by omega)
theorem znm_ok : ∀ c, c < 15 → ∀ a, a < zfc c → ∀ b, b < zfc c → a ≠ b → (zTX c a).2.1 ≠ (zTX c b).2.1 := by
  intro c hc
  match c, hc with
  | 0, _ => exact nmX0
  | 1, _ => exact nmX1
  | 2, _ => exact nmX2
  | 3, _ => exact nmX3
  | 4, _ => exact nmX4
  | 5, _ => exact nmX5
  | 6, _ => exact nmX6
  | 7, _ => exact nmX7
  | 8, _ => exact nmX8
  | 9, _ => exact nmX9
  | 10, _ => exact nmX10
  | 11, _ => exact nmX11
  | 12, _ => exact nmX12
  | 13, _ => exact nmX13
  | 14, _ => exact nmX14
  | k + 15, h => exact absurd h (by omega)
