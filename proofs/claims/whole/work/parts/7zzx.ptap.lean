-- needs: 01 02.names 03 04 05 18 19 20 22 23 24 25 30 31 32 33 35 36 37 40 42 43 44 45 46 47 60 61 62 63 64 65 66 67 68 69 79f 79g 79h 79i 79j 79k 79l 79m 79n 79o 79p 79q 79r 79s 79t 79u 79v 79w 79x 79y 79z. 79za 79zb 79zc 79zd 79ze 79zf 79zg 79zh 79zi 79zj 79zk 79zl 79zm 79zn 79zo 79zp 79zq 79zr 79zs 79zt 79zu 79zv 7a 7b 7c 7d 7e 7f 7g 7zl 7zm 7zn 7zo 7h 7i 7j 7k 7l 7m 7n 7o 7p 7q 7r 7zj 7zk 7zp 7zq 7zr 7zs 7zt 7zu 79zw 7s 7t 7u 7v 7w 7x 7y 7z. 7za 7zb 7zc 7zd 7ze 7zf 7zg 7zh 7zi 7zv 7zw 7zx 7zy 7zz. 7zza 7zzb 7zzc 7zzd 7zze 7zzf 7zzg 7zzh 7zzi 7zzj 7zzk 7zzl 7zzm 7zzn 7zzo 7zzp 7zzq 7zzr 7zzs 7zzt 7zzu 7zzv 7zzw
/-! The tape as DATA; what submitTape comes to -/
def xF (B : Nat → Nat) (j : Nat) : Nat := znQ B (zat B j)
def xT (B : Nat → Nat) (j : Nat) : Int64 := znT B (zat B j)
def xC (B : Nat → Nat) (j : Nat) : Nat := znC B (zat B j)
def xX (B : Nat → Nat) (j : Nat) : Nat := zhX B (zat B j)
def xL (B : Nat → Nat) (j : Nat) : Nat := zlvl B j
def xH (B : Nat → Nat) (j : Nat) : Nat := zat B j
def xY (B : Nat → Nat) (tp : Nat → Int32) (j i : Nat) : Int32 := tp (xX B j + i)
noncomputable abbrev xD (B : Nat → Nat) (tp : Nat → Int32) (K : Nat) : yD := (K, xF B, xC B, xT B, zSz B, xL B, xY B tp)
section
variable {B : Nat → Nat} {t K : Nat} {I : zI} {J : zJ} {tp : Nat → Int32}
theorem x_dt (hB : ∀ a, B a < 256) (h : zdr B t 201 0 = (0, 0, K)) (hI : ∀ j, j < K → ∃ m, zIsp B j m ∧ j + m ≤ K) : zDt (xF B) (xC B) (zSz B) (xL B) K := (zDt_of hB h hI).1
theorem x_cv (h : zEd I J t 0 0 B K) : zCv I J 0 (xF B) (xT B) (xC B) (zSz B) (xX B) K := fun j hj => by
  obtain ⟨a1, a2, a3, a4, a5⟩ := zCv_of h j hj
  refine ⟨a1, a2, a3, a4, fun h2 => ?_⟩
  have := a5 h2
  have e : (fun j => 0 + zhX B (zat B j)) j = xX B j := Nat.zero_add _
  rw [e] at this
  exact this
theorem x_mv (hB : ∀ a, B a < 256) (h : zdr B t 201 0 = (0, 0, K)) (hI : ∀ j, j < K → ∃ m, zIsp B j m ∧ j + m ≤ K) (hE : zEr I J t B K) : zMv I J (xF B) (xT B) (xC B) (zSz B) (xH B) (xX B) K := zMv_of (zDt_of hB h hI).2 hE
theorem x_hs (hle : zat B K ≤ t) : ∀ i j, i ≤ j → j < K → xH B i ≤ xH B j ∧ xH B j ≤ t := fun i j hij hj => by
  have h1 := zat_le (B := B) (d := i) (j - i)
  have h2 := zat_le (B := B) (d := j) (K - j)
  rw [show i + (j - i) = j by omega] at h1
  rw [show j + (K - j) = K by omega] at h2
  unfold xH
  omega
theorem x_x2 (hle : zat B K ≤ t) : ∀ j, j < K → xF B j = 2 → xX B j + xC B j ≤ t := fun j hj h2 => by
  have h1 := zat_le (B := B) (d := j + 1) (K - (j + 1))
  rw [show j + 1 + (K - (j + 1)) = K by omega] at h1
  have e : zat B (j + 1) = znX B (zat B j) := rfl
  have q : zhQ B (zat B j) = 2 := by
    unfold xF znQ at h2
    split at h2
    · cases h2
    · exact h2
  have e2 : znX B (zat B j) = zhX B (zat B j) + znC B (zat B j) := by unfold znX; rw [if_pos q]
  unfold xX xC
  omega
theorem x_wf (D : zDt (xF B) (xC B) (zSz B) (xL B) K) (hle : zat B K ≤ t) (hb : ∀ j, j < t → (tp j).toInt8.toInt32 = tp j) : ywf (xD B tp K) := ⟨D, fun j hj h2 i hi => hb _ (by have := x_x2 hle j hj h2; omega)⟩
theorem x_et (hle : zat B K ≤ t) (ht : t ≤ 4096) (hv : zCv I J 0 (xF B) (xT B) (xC B) (zSz B) (xX B) K) (htp : ∀ j, j < 4096 → I 239 j = tp j) : yEt (yEc I J 4096) 0 (xD B tp K) := fun j hj => by
  obtain ⟨a1, a2, a3, a4, a5⟩ := hv j hj
  refine ⟨a1, a2, a3, a4, fun h2 => ⟨xX B j, a5 h2, ?_, fun i hi => ?_⟩⟩
  · have := x_x2 hle j hj h2
    omega
  · have := x_x2 hle j hj h2
    exact htp _ (by omega)
end
/-- the coins that are spent -/
noncomputable def xsp (V : Int32 → Int64 → Int) : List yD := Classical.epsilon (fun sp => ∃ po nm am w, zSrt po nm w ∧ (∀ q y, (zHsk po nm w q y ↔ 0 < V q y) ∧ (zAm po nm am w q y).toInt = V q y) ∧ sp = ySp po nm am w)
theorem xsp_e {V : Int32 → Int64 → Int} {po : Nat → Int32} {nm am : Nat → Int64} {w : Nat} (h1 : zSrt po nm w) (h2 : ∀ q y, (zHsk po nm w q y ↔ 0 < V q y) ∧ (zAm po nm am w q y).toInt = V q y) : ySp po nm am w = xsp V := by
  obtain ⟨po', nm', am', w', k1, k2, k3⟩ := Classical.epsilon_spec (p := fun sp => ∃ po nm am w, zSrt po nm w ∧ (∀ q y, (zHsk po nm w q y ↔ 0 < V q y) ∧ (zAm po nm am w q y).toInt = V q y) ∧ sp = ySp po nm am w) ⟨_, po, nm, am, w, h1, h2, rfl⟩
  unfold xsp
  rw [k3]
  exact ySp_u h1 h2 k1 k2
noncomputable def xPk {α : Type} (c : Prop) (a b : α) : α := @ite α c (Classical.propDecidable _) a b
theorem xPk_t {α : Type} {c : Prop} {a b : α} (h : c) : xPk c a b = a := if_pos h
theorem xPk_f {α : Type} {c : Prop} {a b : α} (h : ¬ c) : xPk c a b = b := if_neg h
/-- the first run that is not ok -/
noncomputable def xfi (M : Nat) (sk : Nat → Option Nat) (R : Nat → Nat → yM) : Nat := Classical.epsilon (fun i => i < M ∧ (∀ j, j < i → yok sk R j) ∧ ¬ yok sk R i)
theorem xfi_e {M i : Nat} {sk : Nat → Option Nat} {R : Nat → Nat → yM} (h1 : i < M) (h2 : ∀ j, j < i → yok sk R j) (h3 : ¬ yok sk R i) : xfi M sk R = i := by
  obtain ⟨k1, k2, k3⟩ := Classical.epsilon_spec (p := fun i => i < M ∧ (∀ j, j < i → yok sk R j) ∧ ¬ yok sk R i) ⟨i, h1, h2, h3⟩
  have k1 : xfi M sk R < M := k1
  have k2 : ∀ j, j < xfi M sk R → yok sk R j := k2
  have k3 : ¬ yok sk R (xfi M sk R) := k3
  rcases Nat.lt_trichotomy (xfi M sk R) i with h | h | h
  · exact absurd (h2 _ h) k3
  · exact h
  · exact absurd (k2 _ h) h3
/-- what it comes to: refused 0, applied 1, taken 2; status; place; log -/
abbrev xr : Type := Nat × Int32 × Int32 × yLt
noncomputable def xO2 (tx : Prop) (v : Int32) (rn : Prop) (M : Nat) (sk : Nat → Option Nat) (R : Nat → Nat → yM) (l0 : yLt) : xr :=
  xPk (¬ tx) (0, 7, -1, l0) (xPk (¬ v = 0) (0, v, -1, l0) (xPk (¬ rn) (1, 0, -1, l0) (xPk (∀ i, i < M → yok sk R i) (1, 0, -1, ylg sk R l0 M) (2, 20, -1, ylg sk R l0 (xfi M sk R + 1)))))
noncomputable def xOut (B : Nat → Nat) (t : Nat) (O : Nat → xr) (l0 : yLt) : xr :=
  xPk (¬ (zdr B t 201 0).1 = 0) (0, nI (zdr B t 201 0).1, nI (zdr B t 201 0).2.1, l0) (xPk (zat B (zdr B t 201 0).2.2 < t) (0, 6, -1, l0) (O (zdr B t 201 0).2.2))
section
variable {tx rn : Prop} {v : Int32} {M : Nat} {sk : Nat → Option Nat} {R : Nat → Nat → yM} {l0 : yLt} {B : Nat → Nat} {t K : Nat} {O : Nat → xr}
theorem xOut_f (h : ¬ (zdr B t 201 0).1 = 0) : xOut B t O l0 = (0, nI (zdr B t 201 0).1, nI (zdr B t 201 0).2.1, l0) := xPk_t h
theorem xOut_6 (h : zdr B t 201 0 = (0, 0, K)) (h2 : zat B K < t) : xOut B t O l0 = (0, 6, -1, l0) := by
  unfold xOut
  rw [h, xPk_f (fun x => x rfl), xPk_t h2]
theorem xOut_o (h : zdr B t 201 0 = (0, 0, K)) (h2 : zat B K = t) : xOut B t O l0 = O K := by
  unfold xOut
  rw [h, xPk_f (fun x => x rfl), xPk_f (by show ¬ zat B K < t; omega)]
theorem xO2_7 (h : ¬ tx) : xO2 tx v rn M sk R l0 = (0, 7, -1, l0) := xPk_t h
theorem xO2_v (h : tx) (hv : ¬ v = 0) : xO2 tx v rn M sk R l0 = (0, v, -1, l0) := by
  unfold xO2
  rw [xPk_f (fun x => x h), xPk_t hv]
theorem xO2_n (h : tx) (hv : v = 0) (hr : ¬ rn) : xO2 tx v rn M sk R l0 = (1, 0, -1, l0) := by
  unfold xO2
  rw [xPk_f (fun x => x h), xPk_f (fun x => x hv), xPk_t hr]
theorem xO2_a (h : tx) (hv : v = 0) (hr : rn) (ho : ∀ i, i < M → yok sk R i) : xO2 tx v rn M sk R l0 = (1, 0, -1, ylg sk R l0 M) := by
  unfold xO2
  rw [xPk_f (fun x => x h), xPk_f (fun x => x hv), xPk_f (fun x => x hr), xPk_t ho]
theorem xO2_t (h : tx) (hv : v = 0) (hr : rn) {i : Nat} (h1 : i < M) (h2 : ∀ j, j < i → yok sk R j) (h3 : ¬ yok sk R i) : xO2 tx v rn M sk R l0 = (2, 20, -1, ylg sk R l0 (i + 1)) := by
  unfold xO2
  rw [xPk_f (fun x => x h), xPk_f (fun x => x hv), xPk_f (fun x => x hr), xPk_f (fun x => h3 (x i h1)), xfi_e h1 h2 h3]
end
/-- one run -/
noncomputable def xR (B : Nat → Nat) (tp : Nat → Int32) (I : zI) (J : zJ) (g : Nat → Nat → Nat) (Kq zq Wq : Nat → Nat → Nat) (Vq : Nat → Nat → Int64) (Yq : Nat → Nat → Nat → Int32) (fz : Nat → Nat) (K : Nat) : Nat → Nat → yM :=
  yre (xD B tp K) (xT B) (xC B) (zSz B) (xsp (zIn I J g (zia (xT B) (zSz B)) (xC B (zWi (zSz B) 0 0)))) (yPds (xD B tp K) (zSz B) (yba (xT B) (xC B) (zSz B)) (xC B (zWi (zSz B) 0 2))) Kq zq Wq Vq Yq fz (fun a => yDm (I 3567) a (g 7 a))
abbrev xTx (B : Nat → Nat) (s : Nat) : Prop := zTx (xF B) (xT B) (xC B) (zSz B) (xH B) s
noncomputable abbrev xJd (B : Nat → Nat) (I : zI) (J : zJ) (ad : Nat → Nat) (g : Nat → Nat → Nat) (t m e hx : Nat) : Int32 := zJud I J (xT B) (xC B) (zSz B) ad g t m e hx
abbrev xRn (B ad : Nat → Nat) : Prop := zRuns (xC B) (zSz B) ad (zia (xT B) (zSz B))
noncomputable abbrev xM (B : Nat → Nat) : Nat := xC B (zWi (zSz B) 0 0) + ynp (xT B) (xC B) (zSz B)
/-- all of it -/
noncomputable def xO (B : Nat → Nat) (tp : Nat → Int32) (I : zI) (J : zJ) (g : Nat → Nat → Nat) (ad : Nat → Nat) (t m e hx s : Nat) (R : Nat → Nat → Nat → yM) (l0 : yLt) (K : Nat) : xr :=
  xO2 (xTx B s) (xJd B I J ad g t m e hx) (xRn B ad) (xM B) (ysk (xT B) (xC B) (zSz B) ad) (R K) l0
