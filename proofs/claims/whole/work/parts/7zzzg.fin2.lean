-- needs: 01 02.names 03 04 05 18 19 20 22 23 24 25 30 31 32 33 35 36 37 40 42 43 44 45 46 47 60 61 62 63 64 65 66 67 68 69 79f 79g 79h 79i 79j 79k 79l 79m 79n 79o 79p 79q 79r 79s 79t 79u 79v 79w 79x 79y 79z. 79za 79zb 79zc 79zd 79ze 79zf 79zg 79zh 79zi 79zj 79zk 79zl 79zm 79zn 79zo 79zp 79zq 79zr 79zs 79zt 79zu 79zv 7a 7b 7c 7d 7e 7f 7g 7zl 7zm 7zn 7zo 7h 7i 7j 7k 7l 7m 7n 7o 7p 7q 7r 7zj 7zk 7zp 7zq 7zr 7zs 7zt 7zu 79zw 7s 7t 7u 7v 7w 7x 7y 7z. 7za 7zb 7zc 7zd 7ze 7zf 7zg 7zh 7zi 7zv 7zw 7zx 7zy 7zz. 7zza 7zzb 7zzc 7zzd 7zze 7zzf 7zzg 7zzh 7zzi 7zzj 7zzk 7zzl 7zzm 7zzn 7zzo 7zzp 7zzq 7zzr 7zzs 7zzt 7zzu 7zzv 7zzw 7zzx 7zzy 7zzz. 7zzza 7zzzb 7zzzc 7zzzd 7zzze 7zzzf
/-! submitTape: what holds after it; refused, and taken -/
section
variable {L i : Nat} {xs : Nat → Int32} {I I' I1 I2 Ic Ir : zI} {J J' J1 J2 Jc Jr : zJ} {P Pc : zP} {N Nc : Nat → Nat} {n z m e h u s d t c ni : Nat} {f g : Nat → Nat → Nat} {q pl : Int32} {l : yLt} {ia : Nat → Nat} {v : Int64}
theorem xU_g (hn : 201 ≤ n) (hf : ∀ k, k < s → f 0 k < n) (xa : xA I J I' J' f s t pl l) (k1 : ∀ c, c < 32 * n → c % 32 ≠ 6 ∨ c < 6432 → c ≠ 2115 → I2 c = I' c) (k2 : ∀ j, j = 1 ∨ j = 3 ∨ j = 4 ∨ j = 5 → I2 2115 j = I' 2115 j) (k3 : ∀ c, c < 32 * n → c ≠ 2115 → J2 c = J' c) (k4 : ∀ c, c < 32 * n → (c ≠ 2164 → Pc c = P c) ∧ Nc c = N c) : xU I J P N n f s t q pl l (zu (zu I2 3088 0 q) 11 9 0) J2 Pc Nc := by
  obtain ⟨⟨a1, a2, a3, a4⟩, a5, a6, a7, ⟨a8, a9⟩, a10⟩ := xa
  have r : ∀ c, c < 32 * n → c % 32 ≠ 6 ∨ c < 6432 → c ≠ 2115 → c ≠ 11 → c ≠ 3088 → zu (zu I2 3088 0 q) 11 9 0 c = I' c := fun c x1 x2 x3 x4 x5 => by rw [zuR_ne x4, zuR_ne x5]; exact k1 c x1 x2 x3
  have r11 : ∀ j, j ≠ 9 → zu (zu I2 3088 0 q) 11 9 0 11 j = I' 11 j := fun j hj => by rw [zu_nj hj, zuR_ne (by decide), k1 11 (by omega) (by omega) (by decide)]
  have r30 : ∀ j, j ≠ 0 → zu (zu I2 3088 0 q) 11 9 0 3088 j = I' 3088 j := fun j hj => by rw [zuR_ne (by decide), zu_nj hj, k1 3088 (by omega) (by omega) (by decide)]
  refine ⟨⟨fun c hc => (r c (by omega) (by omega) (by omega) (by omega) (by omega)).trans (a1 c (by omega)), ⟨(r11 8 (by decide)).trans a2, zu_at, (r11 10 (by decide)).trans a3, (r11 11 (by decide)).trans a4⟩, fun j hj => ?_, fun c hc => (k3 c (by omega) (by omega)).trans (a5 c (by omega))⟩, ⟨fun c x1 x2 x3 => ?_, fun c hc => k4 c (by omega)⟩, ⟨?_, (r30 1 (by decide)).trans a8, (r30 7 (by decide)).trans a9⟩, ?_⟩
  · rw [zuR_ne (by decide), zuR_ne (by decide), k2 j hj, a1 2115 (by omega)]
  · obtain ⟨b1, b2, b3⟩ := a6 c x1
    have e := r c x2 (by omega) (by omega) (by omega) (by omega)
    rw [e]
    exact ⟨b1, b2, (k3 c x2 (by omega)).trans b3, (k4 c x2).1 (by omega), (k4 c x2).2⟩
  · rw [zuR_ne (by decide), zu_at]
  · obtain ⟨l1, l2, l3, l4, l5, l6, l7⟩ := l
    obtain ⟨⟨p1, p2, p3, p4, p5⟩, p6, p7⟩ := a10
    refine ⟨⟨(r30 2 (by decide)).trans p1, (r30 3 (by decide)).trans p2, (r30 4 (by decide)).trans p3, (r30 5 (by decide)).trans p4, (r30 6 (by decide)).trans p5⟩, fun k hk => ?_, ?_⟩
    · have := hf k hk
      by_cases h2 : 32 * f 0 k + 7 = 2115
      · omega
      · rw [r (32 * f 0 k + 7) (by omega) (by omega) h2 (by omega) (by omega)]
        exact p6 k hk
    · rw [k3 11 (by omega) (by decide)]
      exact p7
theorem xV_g (xe : xE I J I' J' s t l) (hq : I' 3118 30 = q) (k1 : ∀ c, c < 3118 ∨ 6432 ≤ c ∨ c = 3184 ∨ c = 3216 ∨ c = 3248 ∨ c = 3280 ∨ c = 3312 ∨ c = 3375 → I2 c = I' c) (k2 : ∀ j, j ≠ 11 → I2 3118 j = I' 3118 j) (k3 : ∀ c, c < 3119 ∨ 6432 ≤ c ∨ c = 3345 → J2 c = J' c) : xV I J s t q pl l (zu (zu I2 3118 31 pl) 3118 2 0) J2 := by
  obtain ⟨⟨a1, a2, a3, a4, a5⟩, a6, a7, a8⟩ := xe
  have r : ∀ c, c ≠ 3118 → zu (zu I2 3118 31 pl) 3118 2 0 c = I2 c := fun c hc => by rw [zuR_ne hc, zuR_ne hc]
  have rj : ∀ j, j ≠ 2 → j ≠ 31 → j ≠ 11 → zu (zu I2 3118 31 pl) 3118 2 0 3118 j = I' 3118 j := fun j x1 x2 x3 => by rw [zu_nj x1, zu_nj x2, k2 j x3]
  refine ⟨⟨fun c hc => ?_, fun c hc => (k3 c (by omega)).trans (a6 c (by omega))⟩, fun j hj => (rj j (by omega) (by omega) (by omega)).trans (a2 j (by omega)), ⟨(rj 13 (by decide) (by decide) (by decide)).trans a3, (rj 28 (by decide) (by decide) (by decide)).trans a4, (rj 37 (by decide) (by decide) (by decide)).trans a5, (rj 30 (by decide) (by decide) (by decide)).trans hq, ?_, zu_at⟩, yTr_n ⟨fun j hj => rj j (by omega) (by omega) (by omega), ?_, ?_⟩ a8⟩
  · rw [r c (by omega), k1 c (by omega)]
    exact a1 c (by omega)
  · rw [zu_nj (by decide), zu_at]
  · rw [r 3280 (by decide), k1 3280 (by omega)]
  · rw [k3 3118 (by omega)]
/-- the pot and the counts: something more at this height -/
theorem zSum_4 {A A' : zI} {B B' : zJ} {da dt : Nat} (e1 : J' 2115 6 = J 2115 6 + v) (e2 : I' 2115 7 = I 2115 7 + nI da) (e3 : I' 2115 8 = I 2115 8 + nI dt) (e4 : J' 2193 = J 2193) (e5 : I' 2224 = I 2224) (e6 : I' 2256 = I 2256) (b1 : ∀ k, k ≠ h → B' 3697 k = B 3697 k) (b2 : B' 3697 h = B 3697 h + v) (b3 : ∀ k, k ≠ h → A' 3728 k = A 3728 k) (b4 : A' 3728 h = A 3728 h + nI da) (b5 : ∀ k, k ≠ h → A' 3760 k = A 3760 k) (b6 : A' 3760 h = A 3760 h + nI dt) (hd : da + dt ≤ 1) (S : zSum I J A B h u c) : zSum I' J' A' B' h u (c + 4) := by
  obtain ⟨ap, tk, s1, s2, s3, s4, s5, s6, s7, s8⟩ := S
  have nn : ∀ (p : Nat → Nat) x, zsN (fun k => if k = h then p k + x else p k) (h + 1) = zsN p (h + 1) + x := fun p x => by
    show zsN (fun k => if k = h then p k + x else p k) h + (if h = h then p h + x else p h) = zsN p h + p h + x
    rw [if_pos rfl, zsN_c (f := p) h (fun k hk => if_neg (by omega)), Nat.add_assoc]
  have n2 : ∀ (p : Nat → Nat) x i, i ≤ h → zsN (fun k => if k = h then p k + x else p k) i = zsN p i := fun p x i hi => zsN_c i (fun k hk => if_neg (by omega))
  refine ⟨fun k => if k = h then ap k + da else ap k, fun k => if k = h then tk k + dt else tk k, ?_, ?_, ?_, fun i h1 h2 => ?_, fun k hk => ?_, by omega, ?_, ?_⟩
  · have e : zsJ (B' 3697) (h + 1) = zsJ (B 3697) h + (B 3697 h + v) := by
      show zsJ (B' 3697) h + B' 3697 h = _
      rw [b2, zsJ_c h (fun k hk => b1 k (by omega))]
    rw [e1, s1, e, ← Int64.add_assoc]
    rfl
  · rw [e2, s2, nn]
    exact wI_add
  · rw [e3, s3, nn]
    exact wI_add
  · obtain ⟨m1, m2, m3⟩ := s4 i h1 h2
    rw [e4, e5, e6, n2 ap da i h1, n2 tk dt i h1, zsJ_c i (fun k hk => b1 k (by omega))]
    exact ⟨m1, m2, m3⟩
  · obtain ⟨m1, m2⟩ := s5 k hk
    show A' 3728 k = nI (if k = h then ap k + da else ap k) ∧ A' 3760 k = nI (if k = h then tk k + dt else tk k)
    by_cases hkh : k = h
    · subst hkh
      rw [if_pos rfl, if_pos rfl, b4, b6, m1, m2]
      exact ⟨wI_add, wI_add⟩
    · rw [if_neg hkh, if_neg hkh, b3 k hkh, b5 k hkh]
      exact ⟨m1, m2⟩
  · rw [nn]
    omega
  · rw [nn]
    omega
/-- refused -/
theorem fin4r {I'' : zI} {J'' : zJ} (hs : zScr L xs (I, J, P, N, n, z)) (hS : zStat P N) (hk : I 54 = zTK0 ∧ N 54 = 32) (hr : 201 ≤ n ∧ n + N 31 ≤ 201 + 12 * i ∧ z ≤ 1542900 + 1200 * i) (X : zAll I J P N I J n i t m e h u s d g f) (hq : ¬ q < 0) (xa : xA I J I' J' f s t pl (xl0 I J)) (xe : xE (zu (zu I' 3088 0 q) 11 9 0) J' I'' J'' s t (xl0 I J)) (h30 : I'' 3118 30 = q) : zInv L xs (i + 4) (zu (zu I'' 3118 31 pl) 3118 2 0, J'', P, N, n, z) := by
  have U : xU I J P N n f s t q pl (xl0 I J) (zu (zu I' 3088 0 q) 11 9 0) J' P N := xU_g hr.1 (fun k hk => ((X.2.2.2.2.2.2.1.1 k hk).1.2.2.2.2.2 0 (by decide)).2) xa (fun _ _ _ _ => rfl) (fun _ _ => rfl) (fun _ _ _ => rfl) (fun _ _ => ⟨fun _ => rfl, rfl⟩)
  have W : xV (zu (zu I' 3088 0 q) 11 9 0) J' s t q pl (xl0 I J) (zu (zu I'' 3118 31 pl) 3118 2 0) J'' := xV_g xe h30 (fun _ _ => rfl) (fun _ _ => rfl) (fun _ _ => rfl)
  obtain ⟨V, Su, Ta, La, O, Wf, Sc, Co, Be⟩ := id X
  have rI : ∀ c, c ≠ 11 → c ≠ 3088 → c < 3118 ∨ 6432 ≤ c ∨ (3160 ≤ c ∧ c < 3780 ∧ c ≠ 3280) → zu (zu I'' 3118 31 pl) 3118 2 0 c = I' c := fun c x1 x2 x3 => by
    rw [zuR_ne (by omega), zuR_ne (by omega), xe.1.1 c x3, zuR_ne x1, zuR_ne x2]
  have rJ : ∀ c, c < 3118 ∨ 6432 ≤ c ∨ (3160 ≤ c ∧ c < 3780) → J'' c = J' c := fun c x => xe.2.1 c x
  have M : ∀ k, zMg I' J' (zu (zu I'' 3118 31 pl) 3118 2 0) J'' k := fun k => by
    unfold zMg
    rw [rI 3408 (by decide) (by decide) (by omega), rI 3632 (by decide) (by decide) (by omega), rI 3440 (by decide) (by decide) (by omega), rI 3600 (by decide) (by decide) (by omega), rI 3472 (by decide) (by decide) (by omega), rI 3567 (by decide) (by decide) (by omega), rJ 3505 (by omega), rJ 3537 (by omega)]
    exact ⟨⟨rfl, rfl, rfl, rfl⟩, fun _ _ => ⟨rfl, rfl, rfl⟩, fun _ _ => rfl⟩
  have gI : ∀ c, c = 2115 ∨ c = 2224 ∨ c = 2256 ∨ c = 3408 ∨ c = 3472 ∨ c = 3567 ∨ c = 3632 ∨ c = 3664 ∨ c = 3728 ∨ c = 3760 → zu (zu I'' 3118 31 pl) 3118 2 0 c = I c := fun c hc => (rI c (by omega) (by omega) (by omega)).trans (xa.1.1 c (by omega))
  have gJ : ∀ c, c = 2115 ∨ c = 2193 ∨ c = 3505 ∨ c = 3537 ∨ c = 3697 → J'' c = J c := fun c hc => (rJ c (by omega)).trans (xa.2.1 c (by omega))
  refine fin4 (m' := m) (n' := n) (z' := z) (g' := g) hs hS hk hr X U W V.2.2.1.2.1 (Nat.le_refl m) ?_ ?_ hq (fun _ _ => rfl) ⟨Nat.le_refl n, by omega⟩ (by omega) (zSum_cm (by rw [gJ 2115 (by omega)]) (by rw [gI 2115 (by omega)]) (by rw [gI 2115 (by omega)]) (gJ 2193 (by omega)) (gI 2224 (by omega)) (gI 2256 (by omega)) (gJ 3697 (by omega)) (gI 3728 (by omega)) (gI 3760 (by omega)) (by omega) Su) ⟨fun k hk => ?_, O.2⟩ ?_ ?_
  · rw [zuR_ne (by decide), zuR_ne (by decide), xa.1.1 2115 (by omega)]
    exact V.1.2.1
  · rw [zu_nj (by decide), zu_nj (by decide), xe.1.2.1 11 (by omega), zuR_ne (by decide), zuR_ne (by decide), xa.1.1 3118 (by omega)]
    exact V.2.1.2.1
  · have o := (xA_o xa O).1 k hk
    have g0 := o.2.2.2.2.2.2.2 0 (by decide)
    refine zO1_g (I := I') (J := J') (A := I') (B := J') (fun a x1 x2 => ?_) (M k) (fun _ _ => rfl) (Nat.le_refl n) rfl ?_ o
    · have e := rI a (by omega) (by omega) (by omega)
      exact ⟨fun _ => e, fun j _ => by rw [e], rJ a (by omega), rfl, rfl⟩
    · rw [rI (32 * g 0 k + 6) (by omega) (by omega) (by omega), rI 3664 (by decide) (by decide) (by omega)]
      exact o.2.1.2.2.1
  · unfold zWfO at Wf ⊢
    rw [gI 3408 (by omega), gI 3632 (by omega), gI 3664 (by omega), gI 3472 (by omega), gI 3567 (by omega), gJ 3505 (by omega), gJ 3537 (by omega)]
    exact Wf
  · refine ⟨by rw [gJ 3697 (by omega)]; exact Co.1, fun t ht p x => ?_⟩
    rw [zTot_m (gI 3632 (by omega)) (gI 3664 (by omega)) (gI 3472 (by omega)) (gJ 3505 (by omega)) (gJ 3537 (by omega)), zPts_m (gJ 3697 (by omega))]
    exact Co.2 t ht p x
end
