-- needs: 01 02.names 03 04 05 18 19 20 22 23 24 25 30 31 32 33 35 36 37 40 42 43 44 45 46 47 60 61 62 63 64 65 66 67 68 69 79f 79g 79h 79i 79j 79k 79l 79m 79n 79o 79p 79q 79r 79s 79t 79u 79v 79w 79x 79y 79z. 79za 79zb 79zc 79zd 79ze 79zf 79zg 79zh 79zi 79zj 79zk 79zl 79zm 79zn 79zo 79zp 79zq 79zr 79zs 79zt 79zu 79zv 7a 7b 7c 7d 7e 7f 7g 7zl 7zm 7zn 7zo 7h 7i 7j 7k 7l 7m 7n 7o 7p 7q 7r 7zj 7zk 7zp 7zq 7zr 7zs 7zt 7zu 79zw 7s 7t 7u 7v 7w 7x 7y 7z. 7za 7zb 7zc 7zd 7ze 7zf 7zg 7zh 7zi 7zv 7zw 7zx 7zy 7zz. 7zza 7zzb 7zzc 7zzd 7zze 7zzf 7zzg 7zzh 7zzi 7zzj 7zzk 7zzl 7zzm 7zzn 7zzo 7zzp 7zzq 7zzr 7zzs 7zzt 7zzu 7zzv 7zzw 7zzx 7zzy 7zzz. 7zzza 7zzzb 7zzzc 7zzzd 7zzze 7zzzf 7zzzg
/-! submitTape: what holds after it; taken, and applied -/
section
variable {A A' : zI} {B B' : zJ} {g g' : Nat → Nat → Nat} {m e h s n no : Nat} {ia : Nat → Nat}
theorem nI_inj4 {a b : Nat} (ha : a < 2 ^ 31) (hb : b < 2 ^ 31) (h : nI a = nI b) : a = b := by
  have e := congrArg Int32.toInt h
  rw [nI_toInt ha, nI_toInt hb] at e
  omega
theorem zWfO_4 (hh : h < 2 ^ 31) (hem : e ≤ m) (W : zWfO A B g m e h s) (h8 : ∀ k, k < m → g 6 k ≤ 8 ∧ g 7 k ≤ 128) (r1 : ∀ k, k < m → (A' 3632 k = A 3632 k ∧ A' 3664 k = ySpd (A 3664) ia h n k ∧ A' 3408 k = A 3408 k) ∧ g' 6 k = g 6 k ∧ g' 7 k = g 7 k) (r2 : ∀ k, k < 8 * m → A' 3472 k = A 3472 k ∧ B' 3505 k = B 3505 k ∧ B' 3537 k = B 3537 k) (r3 : ∀ k, k < 128 * m → A' 3567 k = A 3567 k)
    (r : ∀ o, o < no → A' 3632 (m + o) = nI h ∧ A' 3664 (m + o) = -1 ∧ (∃ a, a < 256 + s ∧ A' 3408 (m + o) = nI a) ∧ (∀ j, j < g' 6 (m + o) → (∃ p, p ≤ s ∧ A' 3472 (8 * (m + o) + j) = nI p) ∧ 1 ≤ B' 3537 (8 * (m + o) + j) ∧ B' 3537 (8 * (m + o) + j) ≤ 4611686018427387904 ∧ (A' 3472 (8 * (m + o) + j) = 0 → B' 3505 (8 * (m + o) + j) = 0)) ∧ (∀ i j, i < j → j < g' 6 (m + o) → zAhd (A' 3472 (8 * (m + o) + i)) (B' 3505 (8 * (m + o) + i)) (A' 3472 (8 * (m + o) + j)) (B' 3505 (8 * (m + o) + j))) ∧ zDk (A' 3567) (m + o) (g' 7 (m + o))) : zWfO A' B' g' (m + no) e h s := by
  have mad : ∀ k, k < m + no → ∃ y, y ≤ h ∧ A' 3632 k = nI y := fun k hk => by
    by_cases hkm : k < m
    · obtain ⟨⟨y, y1, y2⟩, -⟩ := W k hkm
      exact ⟨y, y1, (r1 k hkm).1.1.trans y2⟩
    · obtain ⟨o, rfl⟩ : ∃ o, k = m + o := ⟨k - m, by omega⟩
      exact ⟨h, Nat.le_refl h, (r o (by omega)).1⟩
  have ord : ∀ k, k + 1 < m + no → e ≤ k → ∀ x y, A' 3632 k = nI x → A' 3632 (k + 1) = nI y → x < 2 ^ 31 → y < 2 ^ 31 → x ≤ y := fun k hk hek x y hx hy x1 y1 => by
    by_cases hkm : k + 1 < m
    · rw [(r1 k (by omega)).1.1] at hx
      rw [(r1 (k + 1) hkm).1.1] at hy
      exact (W k (by omega)).2.2.2.2.2.1 hkm hek x y hx hy x1 y1
    · obtain ⟨o, ho⟩ : ∃ o, k + 1 = m + o := ⟨k + 1 - m, by omega⟩
      rw [ho, (r o (by omega)).1] at hy
      have ey := nI_inj4 hh y1 hy
      obtain ⟨y', y2, y3⟩ := mad k (by omega)
      have ex := nI_inj4 (by omega) x1 (y3.symm.trans hx)
      omega
  intro k hk
  refine ⟨mad k hk, ?_⟩
  by_cases hkm : k < m
  · obtain ⟨⟨a1, a2, a3⟩, a4, a5⟩ := r1 k hkm
    obtain ⟨-, w2, w3, w4, w5, w6, w7, w8⟩ := W k hkm
    have k8 := h8 k hkm
    rw [a2, a3, a4, a5, a1]
    have rr : ∀ j, j < g 6 k → A' 3472 (8 * k + j) = A 3472 (8 * k + j) ∧ B' 3505 (8 * k + j) = B 3505 (8 * k + j) ∧ B' 3537 (8 * k + j) = B 3537 (8 * k + j) := fun j hj => r2 _ (by omega)
    refine ⟨?_, w3, fun j hj => ?_, fun i j hij hj => ?_, fun y1 y2 => by rw [← a1]; exact ord k y1 y2, w7, zDk_c (fun j hj => r3 _ (by omega)) w8⟩
    · by_cases hin : ∃ i, i < n ∧ ia i = k
      · exact Or.inr ⟨h, Nat.le_refl h, ySpd_y n hin⟩
      · rw [ySpd_n n (fun j hj he => hin ⟨j, hj, he⟩)]
        exact w2
    · obtain ⟨q1, q2, q3⟩ := rr j hj
      rw [q1, q2, q3]
      exact w4 j hj
    · rw [(rr i (by omega)).1, (rr i (by omega)).2.1, (rr j hj).1, (rr j hj).2.1]
      exact w5 i j hij hj
  · obtain ⟨o, rfl⟩ : ∃ o, k = m + o := ⟨k - m, by omega⟩
    obtain ⟨q1, q2, q3, q4, q5, q6⟩ := r o (by omega)
    exact ⟨Or.inl q2, q3, q4, q5, ord (m + o), fun x => by omega, q6⟩
end
section
variable {L i : Nat} {xs : Nat → Int32} {I I' I1 I2 Ic Ir : zI} {J J' J1 J2 Jc Jr : zJ} {P Pc : zP} {N Nc : Nat → Nat} {n z m e h u s d t c ni : Nat} {f g : Nat → Nat → Nat} {q pl : Int32} {l : yLt} {ca : Nat → Nat} {v : Int64}
/-- taken -/
theorem fin4t {I'' : zI} {J'' : zJ} (hi : i < 4200) (hs : zScr L xs (I, J, P, N, n, z)) (hS : zStat P N) (hk : I 54 = zTK0 ∧ N 54 = 32) (hr : 201 ≤ n ∧ n + N 31 ≤ 201 + 12 * i ∧ z ≤ 1542900 + 1200 * i) (X : zAll I J P N I J n i t m e h u s d g f) (hl : ∀ k, s ≤ k → l.2.2.2.2.2.1 k = I 3280 k) (hca : ∀ i, i < ni → ca i < m ∧ I 3664 (ca i) = -1) (hcd : ∀ i j, i < j → j < ni → ¬ ca i = ca j) (xa : xA I J I' J' f s t (-1) l) (a1 : yWs (zu I' 2115 8 (I' 2115 8 + 1)) I1 g ca m h ni)
    (hIc : Ic = zu (zu I1 3088 0 20) 11 9 0) (hJc : Jc = zu J' 2115 6 (J' 2115 6 + zsJ (fun i => zHd (I' 3472) (J' 3505) (J' 3537) (g 6) 0 0 (ca i)) ni)) (xe : xE Ic Jc I'' J'' s t l) (h30 : I'' 3118 30 = 20)
    (b1 : ∀ c, c ≠ 3664 → c ≠ 3760 → I2 c = I'' c) (b2 : ∀ c, c ≠ 3697 → J2 c = J'' c) (b3 : I2 3664 = ySpd (I'' 3664) ca h ni) (b4 : ∀ k, k ≠ h → I2 3760 k = I'' 3760 k) (b5 : I2 3760 h = I'' 3760 h + 1) (b6 : ∀ k, k ≠ h → J2 3697 k = J'' 3697 k) (b7 : J2 3697 h = J'' 3697 h + zsJ (fun i => zHd (I'' 3472) (J'' 3505) (J'' 3537) (g 6) 0 0 (ca i)) ni) : zInv L xs (i + 4) (zu (zu I2 3118 31 (-1)) 3118 2 0, J2, P, N, n, z) := by
  obtain ⟨V, Su, Ta, La, O, Wf, Sc, Co, Be⟩ := id X
  have hh : h < 2 ^ 31 := by
    obtain ⟨ap, tk, -, -, -, -, -, h7, -⟩ := Su
    omega
  have hg0 : ∀ k, k < m → 201 ≤ g 0 k ∧ g 0 k < n := fun k hk => (O.1 k hk).2.2.2.2.2.2.2 0 (by decide)
  have ws : ∀ c, c % 32 ≠ 6 ∨ c < 6432 → I1 c = zu I' 2115 8 (I' 2115 8 + 1) c := fun c hc => a1.1 c (fun k hk => by have := hg0 k hk; omega)
  have U : xU I J P N n f s t 20 (-1) l Ic Jc P N := by
    rw [hIc]
    refine xU_g hr.1 (fun k hk => ((Sc.1 k hk).1.2.2.2.2.2 0 (by decide)).2) xa (fun c x1 x2 x3 => by rw [ws c x2, zuR_ne x3]) (fun j hj => by rw [ws 2115 (by omega), zu_nj (by omega)]) (fun c x1 x2 => by rw [hJc, zuR_ne x2]) (fun _ _ => ⟨fun _ => rfl, rfl⟩)
  have W : xV Ic Jc s t 20 (-1) l (zu (zu I2 3118 31 (-1)) 3118 2 0) J2 := xV_g xe h30 (fun c hc => b1 c (by omega) (by omega)) (fun j _ => by rw [b1 3118 (by decide) (by decide)]) (fun c hc => b2 c (by omega))
  obtain ⟨Ir, hIr⟩ : ∃ Ir, Ir = zu (zu I2 3118 31 (-1)) 3118 2 0 := ⟨_, rfl⟩
  -- rows of the reference
  have rc : ∀ c, 3160 ≤ c ∧ c < 3780 → Ic c = I c := fun c hc => U.1.1 c (by omega)
  have rcj : ∀ c, 3160 ≤ c ∧ c < 3780 → Jc c = J c := fun c hc => U.1.2.2.2 c (by omega)
  have r2' : ∀ c, 3160 ≤ c ∧ c < 3780 ∧ c ≠ 3280 → I'' c = I c := fun c hc => (xe.1.1 c (by omega)).trans (rc c (by omega))
  have r2j : ∀ c, 3160 ≤ c ∧ c < 3780 → J'' c = J c := fun c hc => (xe.2.1 c (by omega)).trans (rcj c hc)
  have r3 : ∀ c, 3160 ≤ c ∧ c < 3780 ∧ c ≠ 3280 → c ≠ 3664 → c ≠ 3760 → Ir c = I c := fun c hc x1 x2 => by rw [hIr, zuR_ne (by omega), zuR_ne (by omega), b1 c x1 x2, r2' c hc]
  have r3j : ∀ c, 3160 ≤ c ∧ c < 3780 → c ≠ 3697 → J2 c = J c := fun c hc x1 => (b2 c x1).trans (r2j c hc)
  have r64 : Ir 3664 = ySpd (I 3664) ca h ni := by rw [hIr, zuR_ne (by decide), zuR_ne (by decide), b3, r2' 3664 (by omega)]
  have r60 : ∀ k, Ir 3760 k = I2 3760 k := fun k => by rw [hIr, zuR_ne (by decide), zuR_ne (by decide)]
  have ia : ∀ c, 3160 ≤ c ∧ c < 3780 → I' c = I c := fun c hc => xa.1.1 c (by omega)
  have ja : ∀ c, 3160 ≤ c ∧ c < 3780 → J' c = J c := fun c hc => xa.2.1 c (by omega)
  rw [ia 3472 (by omega), ja 3505 (by omega), ja 3537 (by omega)] at hJc
  rw [r2' 3472 (by omega), r2j 3505 (by omega), r2j 3537 (by omega), r2j 3697 (by omega)] at b7
  -- cells of the class
  have c1 : ∀ c, c < 3118 ∨ 6432 ≤ c → Ir c = Ic c := fun c hc => by rw [hIr]; exact W.1.1 c (by omega)
  have c1j : ∀ c, c < 3118 ∨ 6432 ≤ c → J2 c = Jc c := fun c hc => W.1.2 c (by omega)
  have h8 : ∀ k, k < m → g 6 k ≤ 8 ∧ g 7 k ≤ 128 := fun k hk => (O.1 k hk).2.2.2.2.1
  have Wf' : zWfO Ir J2 g m e h s := zWfO_4 (no := 0) (n := ni) (ia := ca) hh V.2.2.1.2.2.1 Wf h8 (fun k hk => ⟨⟨by rw [r3 3632 (by omega) (by decide) (by decide)], by rw [r64], by rw [r3 3408 (by omega) (by decide) (by decide)]⟩, rfl, rfl⟩) (fun k hk => ⟨by rw [r3 3472 (by omega) (by decide) (by decide)], by rw [r3j 3505 (by omega) (by decide)], by rw [r3j 3537 (by omega) (by decide)]⟩) (fun k hk => by rw [r3 3567 (by omega) (by decide) (by decide)]) (fun o ho => by omega)
  have Co' : zCon Ir J2 g m e h := zCon_t hh Wf Wf' (fun k hk => (h8 k hk).1) hca hcd Co (fun k hk => ⟨by rw [r3 3632 (by omega) (by decide) (by decide)], by rw [r64]⟩) (fun k hk => ⟨by rw [r3 3472 (by omega) (by decide) (by decide)], by rw [r3j 3505 (by omega) (by decide)], by rw [r3j 3537 (by omega) (by decide)]⟩) (fun k hk => by rw [b6 k hk, r2j 3697 (by omega)]) b7
  have i21 : ∀ j, Ir 2115 j = zu I' 2115 8 (I' 2115 8 + 1) 2115 j := fun j => by rw [c1 2115 (by omega), hIc, zuR_ne (by decide), zuR_ne (by decide), ws 2115 (by omega)]
  have e21 : I' 2115 = I 2115 := xa.1.1 2115 (by omega)
  rw [← hIr] at W ⊢
  refine fin4 (m' := m) (n' := n) (z' := z) (g' := g) hs hS hk hr X U W V.2.2.1.2.1 (Nat.le_refl m) ?_ ?_ (by decide) hl ⟨Nat.le_refl n, by omega⟩ (by omega) (zSum_4 (da := 0) (dt := 1) (v := zsJ (fun i => zHd (I 3472) (J 3505) (J 3537) (g 6) 0 0 (ca i)) ni) ?_ ?_ ?_ ?_ ?_ ?_ (fun k hk => ?_) b7 (fun k hk => ?_) ?_ (fun k hk => ?_) ?_ (by omega) Su) ⟨fun k hk => ?_, O.2⟩ Wf' Co'
  · rw [← c1 2115 (by omega), i21, zu_nj (by decide), e21]
    exact V.1.2.1
  · rw [hIr, zu_nj (by decide), zu_nj (by decide), b1 3118 (by decide) (by decide), xe.1.2.1 11 (by omega), U.1.1 3118 (by omega)]
    exact V.2.1.2.1
  · rw [c1j 2115 (by omega), hJc, zu_at, xa.2.1 2115 (by omega)]
  · rw [i21, zu_nj (by decide), e21]
    exact (Int32.add_zero _).symm
  · rw [i21, zu_at, e21]
    rfl
  · rw [c1j 2193 (by omega)]; exact U.1.2.2.2 2193 (by omega)
  · rw [c1 2224 (by omega)]; exact U.1.1 2224 (by omega)
  · rw [c1 2256 (by omega)]; exact U.1.1 2256 (by omega)
  · rw [b6 k hk, r2j 3697 (by omega)]
  · rw [r3 3728 (by omega) (by decide) (by decide)]
  · rw [r3 3728 (by omega) (by decide) (by decide)]
    exact (Int32.add_zero _).symm
  · rw [r60, b4 k hk, r2' 3760 (by omega)]
  · rw [r60, b5, r2' 3760 (by omega)]
    rfl
  · have o := (xA_o xa O).1 k hk
    have gk := hg0 k hk
    refine zO1_g (I := I') (J := J') (A := I') (B := J') (fun a x1 x2 => ?_) ⟨⟨?_, ?_, ?_, ?_⟩, fun j hj => ⟨?_, ?_, ?_⟩, fun j hj => ?_⟩ (fun _ _ => rfl) (Nat.le_refl n) rfl ?_ o
    · have e1 : Ir a = I1 a := by rw [c1 a (by omega), hIc, zuR_ne (by omega), zuR_ne (by omega)]
      have e2 : J2 a = J' a := by rw [c1j a (by omega), hJc, zuR_ne (by omega)]
      refine ⟨fun x => by rw [e1, ws a (by omega), zuR_ne (by omega)], fun j hj => ?_, e2, rfl, rfl⟩
      by_cases hx : ∃ k, k < m ∧ a = 32 * g 0 k + 6
      · obtain ⟨k', k1, rfl⟩ := hx
        rw [e1, (a1.2 k' k1).1 j hj, zuR_ne (by omega)]
      · rw [e1, a1.1 a (fun k hk he => hx ⟨k, hk, he⟩), zuR_ne (by omega)]
    · rw [r3 3408 (by omega) (by decide) (by decide), ia 3408 (by omega)]
    · rw [r3 3632 (by omega) (by decide) (by decide), ia 3632 (by omega)]
    · rw [r3 3440 (by omega) (by decide) (by decide), ia 3440 (by omega)]
    · rw [r3 3600 (by omega) (by decide) (by decide), ia 3600 (by omega)]
    · rw [r3 3472 (by omega) (by decide) (by decide), ia 3472 (by omega)]
    · rw [r3j 3505 (by omega) (by decide), ja 3505 (by omega)]
    · rw [r3j 3537 (by omega) (by decide), ja 3537 (by omega)]
    · rw [r3 3567 (by omega) (by decide) (by decide), ia 3567 (by omega)]
    · rw [c1 _ (by omega), hIc, zuR_ne (by omega), zuR_ne (by omega), (a1.2 k hk).2, r64, zuR_ne (by decide), ia 3664 (by omega)]
end
