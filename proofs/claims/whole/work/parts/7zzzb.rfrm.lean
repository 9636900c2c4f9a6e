-- needs: 01 02.names 03 04 05 18 19 20 22 23 24 25 30 31 32 33 35 36 37 40 42 43 44 45 46 47 60 61 62 63 64 65 66 67 68 69 79f 79g 79h 79i 79j 79k 79l 79m 79n 79o 79p 79q 79r 79s 79t 79u 79v 79w 79x 79y 79z. 79za 79zb 79zc 79zd 79ze 79zf 79zg 79zh 79zi 79zj 79zk 79zl 79zm 79zn 79zo 79zp 79zq 79zr 79zs 79zt 79zu 79zv 7a 7b 7c 7d 7e 7f 7g 7zl 7zm 7zn 7zo 7h 7i 7j 7k 7l 7m 7n 7o 7p 7q 7r 7zj 7zk 7zp 7zq 7zr 7zs 7zt 7zu 79zw 7s 7t 7u 7v 7w 7x 7y 7z. 7za 7zb 7zc 7zd 7ze 7zf 7zg 7zh 7zi 7zv 7zw 7zx 7zy 7zz. 7zza 7zzb 7zzc 7zzd 7zze 7zzf 7zzg 7zzh 7zzi 7zzj 7zzk 7zzl 7zzm 7zzn 7zzo 7zzp 7zzq 7zzr 7zzs 7zzt 7zzu 7zzv 7zzw 7zzx 7zzy 7zzz.
/-! submitTape, the reference -/
section
variable {I I' I'' : zI} {J J' J'' : zJ} {P : zP} {N : Nat → Nat} {n z m K s e hx t : Nat} {B ad ia : Nat → Nat} {g : Nat → Nat → Nat} {Q : Option Value → zS → Prop} {l l0 : yLt} {v : Int32}
/-- the reference, ahead of its scripts -/
def xG (I : zI) (J : zJ) (I' : zI) (J' : zJ) (t : Nat) : Prop :=
  ((∀ c, c < 3118 ∨ 6432 ≤ c ∨ (3130 ≤ c ∧ c < 3780) → I' c = I c) ∧ (∀ j, j = 0 ∨ j = 2 ∨ j = 3 ∨ j = 11 ∨ j = 12 ∨ j = 23 ∨ j = 24 → I' 3118 j = I 3118 j) ∧ (I' 3118 13 = 1 ∧ I' 3118 28 = I 3118 28 + 1 ∧ I' 3118 37 = nI t) ∧ (I' 3118 32 = 0 ∧ I' 3118 33 = -1 ∧ I' 3118 34 = -1 ∧ I' 3118 35 = -1 ∧ I' 3118 36 = -1)) ∧ (∀ c, c < 3118 ∨ 6432 ≤ c ∨ (3130 ≤ c ∧ c < 3780) → J' c = J c) ∧ J' 3118 29 = J 3118 29
theorem xG_0 : xG I J (zu (zu (zu (zu (zu (zu (zu (zu (zu I 3118 63 0) 3118 13 1) 3118 28 (I 3118 28 + 1)) 3118 32 0) 3118 33 (-1)) 3118 34 (-1)) 3118 35 (-1)) 3118 36 (-1)) 3118 37 (nI t)) J t := by
  refine ⟨⟨fun c hc => ?_, fun j hj => ?_, ⟨?_, ?_, zu_at⟩, ?_, ?_, ?_, ?_, ?_⟩, fun _ _ => rfl, rfl⟩
  · rw [zuR_ne (by omega), zuR_ne (by omega), zuR_ne (by omega), zuR_ne (by omega), zuR_ne (by omega), zuR_ne (by omega), zuR_ne (by omega), zuR_ne (by omega), zuR_ne (by omega)]
  · rw [zu_nj (by omega), zu_nj (by omega), zu_nj (by omega), zu_nj (by omega), zu_nj (by omega), zu_nj (by omega), zu_nj (by omega), zu_nj (by omega), zu_nj (by omega)]
  · rw [zu_nj (by decide), zu_nj (by decide), zu_nj (by decide), zu_nj (by decide), zu_nj (by decide), zu_nj (by decide), zu_nj (by decide), zu_at]
  · rw [zu_nj (by decide), zu_nj (by decide), zu_nj (by decide), zu_nj (by decide), zu_nj (by decide), zu_nj (by decide), zu_at]
  · rw [zu_nj (by decide), zu_nj (by decide), zu_nj (by decide), zu_nj (by decide), zu_nj (by decide), zu_at]
  · rw [zu_nj (by decide), zu_nj (by decide), zu_nj (by decide), zu_nj (by decide), zu_at]
  · rw [zu_nj (by decide), zu_nj (by decide), zu_nj (by decide), zu_at]
  · rw [zu_nj (by decide), zu_nj (by decide), zu_at]
  · rw [zu_nj (by decide), zu_at]
theorem xG_k (hI : ∀ c, c < 3118 ∨ 6432 ≤ c ∨ (3130 ≤ c ∧ c < 3780) → I'' c = I' c) (hF : ∀ j, j ≤ 28 ∨ (32 ≤ j ∧ j ≤ 37) → I'' 3118 j = I' 3118 j) (hJ : ∀ c, c < 3118 ∨ 6432 ≤ c ∨ (3130 ≤ c ∧ c < 3780) → J'' c = J' c) (h9 : J'' 3118 29 = J' 3118 29) (h : xG I J I' J' t) : xG I J I'' J'' t := by
  obtain ⟨⟨a1, a2, a3, a4⟩, a5, a6⟩ := h
  refine ⟨⟨fun c hc => (hI c hc).trans (a1 c hc), fun j hj => (hF j (by omega)).trans (a2 j hj), ?_, ?_⟩, fun c hc => (hJ c hc).trans (a5 c hc), h9.trans a6⟩
  · rw [hF 13 (by omega), hF 28 (by omega), hF 37 (by omega)]
    exact a3
  · rw [hF 32 (by omega), hF 33 (by omega), hF 34 (by omega), hF 35 (by omega), hF 36 (by omega)]
    exact a4
theorem xG_f (f : zFm I' J' I'' J'') (h : xG I J I' J' t) : xG I J I'' J'' t := xG_k (fun c hc => f.1 c (by omega) (by omega) (by omega) (by omega) (by omega) (by omega) (by omega)) (fun j hj => f.2.1 j (by omega) (by omega) (by omega) (by omega)) (fun c hc => f.2.2.1 c (by omega) (by omega) (by omega)) (f.2.2.2 29 (by decide)) h
theorem xG_4 (f : ∀ c, c ≠ 4048 → I'' c = I' c) (h : xG I J I' J' t) : xG I J I'' J' t := xG_k (fun c hc => f c (by omega)) (fun j _ => by rw [f 3118 (by decide)]) (fun _ _ => rfl) rfl h
theorem xG_p (f : zPf I' J' I'' J'') (h : xG I J I' J' t) : xG I J I'' J'' t := xG_k (fun c hc => f.1 c (by omega) (by omega) (by omega) (by omega) (by omega)) (fun j hj => f.2.1 j (by omega) (by omega) (by omega)) (fun c hc => f.2.2 c (by omega) (by omega) (by omega) (by omega)) (by rw [f.2.2 3118 (by decide) (by decide) (by decide) (by decide)]) h
theorem xG_v (h : xG I J I' J' t) : xG I J (zu I' 3118 30 v) J' t := xG_k (fun c hc => zuR_ne (by omega)) (fun j hj => zu_nj (by omega)) (fun _ _ => rfl) rfl h
/-- the reference, ahead of what is applied or taken -/
def xE (I : zI) (J : zJ) (I' : zI) (J' : zJ) (s t : Nat) (l : yLt) : Prop :=
  ((∀ c, c < 3118 ∨ 6432 ≤ c ∨ (3160 ≤ c ∧ c < 3780 ∧ c ≠ 3280) → I' c = I c) ∧ (∀ j, j = 0 ∨ j = 3 ∨ j = 11 ∨ j = 12 ∨ j = 23 ∨ j = 24 → I' 3118 j = I 3118 j) ∧ (I' 3118 13 = 1 ∧ I' 3118 28 = I 3118 28 + 1 ∧ I' 3118 37 = nI t)) ∧ (∀ c, c < 3118 ∨ 6432 ≤ c ∨ (3160 ≤ c ∧ c < 3780) → J' c = J c) ∧ (∀ j, j < t → I' 3151 j = I 3151 j) ∧ yTr I' J' s l
theorem xE_g (h : xG I J I' J' t) : xE I J I' J' s t (0, -1, -1, -1, -1, I 3280, J 3118 29) := by
  obtain ⟨⟨a1, a2, a3, a4⟩, a5, a6⟩ := h
  exact ⟨⟨fun c hc => a1 c (by omega), fun j hj => a2 j (by omega), a3⟩, fun c hc => a5 c (by omega), fun j _ => by rw [a1 3151 (by omega)], a4, fun k => by rw [a1 3280 (by omega)], a6⟩
theorem xE_r (h : xG I J I' J' t) (f : yFr I' J' I'' J'' K t) (l' : yTr I'' J'' s l) : xE I J I'' J'' s t l := by
  obtain ⟨⟨a1, a2, a3, a4⟩, a5, a6⟩ := h
  obtain ⟨⟨b1, b2⟩, b3, b4, b5, b6⟩ := f
  refine ⟨⟨fun c hc => (b1 c (by omega) (by omega) (by omega) (by omega) (by omega) (by omega) (by omega) (by omega) (by omega) (by omega) (by omega)).trans (a1 c (by omega)), fun j hj => (b2 j (by omega) (by omega) (by omega) (by omega) (by omega) (by omega) (by omega) (by omega)).trans (a2 j (by omega)), ?_⟩, fun c hc => (b5 c (by omega) (by omega) (by omega) (by omega) (by omega) (by omega) (by omega) (by omega)).trans (a5 c (by omega)), fun j hj => (b4 j hj).trans (by rw [a1 3151 (by omega)]), l'⟩
  rw [b2 13 (by decide) (by decide) (by decide) (by decide) (by decide) (by decide) (by decide) (by decide), b2 28 (by decide) (by decide) (by decide) (by decide) (by decide) (by decide) (by decide) (by decide), b2 37 (by decide) (by decide) (by decide) (by decide) (by decide) (by decide) (by decide) (by decide)]
  exact a3
theorem xG_w (h : xG I J I' J' t) (W : zWfO I J g m e hx s) : zWfO I' J' g m e hx s := zWfO_m (zMr_o fun a ha => by unfold zKm at ha; exact ⟨h.1.1 a (by omega), h.2.1 a (by omega)⟩) W
theorem xG_c (h : xG I J I' J' t) (C : zCon I J g m e hx) : zCon I' J' g m e hx := zCon_m (zMr_o fun a ha => by unfold zKm at ha; exact ⟨h.1.1 a (by omega), h.2.1 a (by omega)⟩) (h.2.1 3697 (by omega)) C
theorem xG_j {T : Nat → Int64} {C Z : Nat → Nat} (h : xG I J I' J' t) : zJud I' J' T C Z ad g t m e hx = zJud I J T C Z ad g t m e hx := zJud_c (h.1.1 3472 (by omega)) (h.1.1 3632 (by omega)) (h.1.1 3664 (by omega)) (h.2.1 3505 (by omega)) (h.2.1 3537 (by omega)) (h.2.1 3697 (by omega))
theorem xG_i (h : xG I J I' J' t) {k : Nat} : zIn I' J' g ia k = zIn I J g ia k := by
  funext q y
  unfold zIn
  congr 1
  funext i
  refine zAmt_c _ (fun j _ => ?_)
  rw [h.1.1 3472 (by omega), h.2.1 3505 (by omega), h.2.1 3537 (by omega)]
  exact ⟨rfl, rfl, rfl⟩
theorem xG_s {Ks Wd : Nat → Nat} {Vs : Nat → Int64} {Yb : Nat → Nat → Int32} {sn k : Nat} (h : xG I J I' J' t) (q : ySr Ks Wd Vs Yb I J sn k) : ySr Ks Wd Vs Yb I' J' sn k := by
  unfold ySr at q ⊢
  rw [h.1.1 3184 (by omega), h.1.1 3312 (by omega), h.1.1 3375 (by omega), h.2.1 3345 (by omega)]
  exact q
theorem zHam_v {F C Z H X L : Nat → Nat} {T : Nat → Int64} (h : zHam I J F T C Z H X L K s) : zHam (zu I 3118 30 v) J F T C Z H X L K s := ⟨h.1, zMv_c (zuR_ne (by decide)) rfl (zuR_ne (by decide)) (zuR_ne (by decide)) (zuR_ne (by decide)) (zuR_ne (by decide)) h.2.1, fun i hi => by rw [zuR_ne (by decide)]; exact h.2.2.1 i hi, h.2.2.2⟩
theorem zInm_v {C Z ca : Nat → Nat} (h : zInm I C Z ia ca) : zInm (zu I 3118 30 v) C Z ia ca := ⟨by rw [zu_nj (by decide)]; exact h.1, by rw [zu_nj (by decide)]; exact h.2.1, fun k hk => by rw [zuR_ne (by decide)]; exact h.2.2.1 k hk, fun k hk => by rw [zuR_ne (by decide)]; exact h.2.2.2 k hk⟩
/-- what is applied -/
def xEa (B : Nat → Nat) (P : zP) (N : Nat → Nat) (n z m hx : Nat) (I' : zI) (J' : zJ) (Q : Option Value → zS → Prop) : Prop :=
  ∀ I1 I2 J2 : Nat → Nat → _, (∀ c, c ≠ 3664 → (I1 : zI) c = I' c) → I1 3664 = ySpd (I' 3664) (zia (xT B) (zSz B)) hx (xC B (zWi (zSz B) 0 0)) → yAo I1 J' I2 J2 (xT B) (xC B) (zSz B) (xH B) m hx (xC B (zWi (zSz B) 0 2)) → Q (some (.int 0)) (zu (zu (zu I2 3728 hx (I' 3728 hx + 1)) 3118 31 (-1)) 3118 2 0, zu J2 3697 hx (J' 3697 hx + xT B (zWi (zSz B) 0 3)), P, N, n, z)
/-- what is taken -/
def xEt (B : Nat → Nat) (P : zP) (N : Nat → Nat) (n z hx : Nat) (g : Nat → Nat → Nat) (I' : zI) (J' : zJ) (Q : Option Value → zS → Prop) : Prop :=
  ∀ I2 J2, (∀ c, c ≠ 3664 → c ≠ 3760 → (I2 : zI) c = I' c) → (∀ c, c ≠ 3697 → (J2 : zJ) c = J' c) → I2 3664 = ySpd (I' 3664) (zca (xT B) (zSz B)) hx (xC B (zWi (zSz B) 0 1)) → (∀ k, k ≠ hx → I2 3760 k = I' 3760 k) → I2 3760 hx = I' 3760 hx + 1 → (∀ k, k ≠ hx → J2 3697 k = J' 3697 k) → J2 3697 hx = J' 3697 hx + zsJ (fun i => zHd (I' 3472) (J' 3505) (J' 3537) (g 6) 0 0 (zca (xT B) (zSz B) i)) (xC B (zWi (zSz B) 0 1)) → Q (some (.int 20)) (zu (zu I2 3118 31 (-1)) 3118 2 0, J2, P, N, n, z)
end
