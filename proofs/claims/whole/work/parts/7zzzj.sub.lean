-- needs: 01 02.names 03 04 05 18 19 20 22 23 24 25 30 31 32 33 35 36 37 40 42 43 44 45 46 47 60 61 62 63 64 65 66 67 68 69 79f 79g 79h 79i 79j 79k 79l 79m 79n 79o 79p 79q 79r 79s 79t 79u 79v 79w 79x 79y 79z. 79za 79zb 79zc 79zd 79ze 79zf 79zg 79zh 79zi 79zj 79zk 79zl 79zm 79zn 79zo 79zp 79zq 79zr 79zs 79zt 79zu 79zv 7a 7b 7c 7d 7e 7f 7g 7zl 7zm 7zn 7zo 7h 7i 7j 7k 7l 7m 7n 7o 7p 7q 7r 7zj 7zk 7zp 7zq 7zr 7zs 7zt 7zu 79zw 7s 7t 7u 7v 7w 7x 7y 7z. 7za 7zb 7zc 7zd 7ze 7zf 7zg 7zh 7zi 7zv 7zw 7zx 7zy 7zz. 7zza 7zzb 7zzc 7zzd 7zze 7zzf 7zzg 7zzh 7zzi 7zzj 7zzk 7zzl 7zzm 7zzn 7zzo 7zzp 7zzq 7zzr 7zzs 7zzt 7zzu 7zzv 7zzw 7zzx 7zzy 7zzz. 7zzza 7zzzb 7zzzc 7zzzd 7zzze 7zzzf 7zzzg 7zzzh 7zzzi
/-! submitTape, both -/
theorem xPk_i {α : Type} {p : α → Prop} {c : Prop} {a b : α} (ha : p a) (hb : p b) : p (xPk c a b) := by
  by_cases h : c
  · rw [xPk_t h]; exact ha
  · rw [xPk_f h]; exact hb
theorem zPk_n {c : Prop} {a b : Int32} (ha : ¬ a < 0) (hb : ¬ b < 0) : ¬ zPk c a b < 0 := by
  by_cases h : c
  · rw [zPk_t h]; exact ha
  · rw [zPk_f h]; exact hb
section
variable {I : zI} {J : zJ} {B ad : Nat → Nat} {tp : Nat → Int32} {g : Nat → Nat → Nat} {t m e hx s : Nat} {R : Nat → Nat → Nat → yM} {l0 : yLt} {T : Nat → Int64} {C Z : Nat → Nat}
theorem zJud_n : ¬ zJud I J T C Z ad g t m e hx < 0 := by
  unfold zJud
  exact zPk_n (by decide) (zPk_n (by decide) (zPk_n (by decide) (zPk_n (by decide) (zPk_n (by decide) (zPk_n (by decide) (zPk_n (by decide) (zPk_n (by decide) (zPk_n (by decide) (by decide)))))))))
theorem xOut_n : ¬ (xOut B t (xO B tp I J g ad t m e hx s R l0) l0).2.1 < 0 := by
  have l6 := zdr_6 (B := B) (t := t) 201 0
  refine xPk_i (p := fun r : xr => ¬ r.2.1 < 0) ?_ (xPk_i (p := fun r : xr => ¬ r.2.1 < 0) (show ¬ (6 : Int32) < 0 by decide) (xPk_i (p := fun r : xr => ¬ r.2.1 < 0) (show ¬ (7 : Int32) < 0 by decide) (xPk_i (p := fun r : xr => ¬ r.2.1 < 0) zJud_n (xPk_i (p := fun r : xr => ¬ r.2.1 < 0) (show ¬ (0 : Int32) < 0 by decide) (xPk_i (p := fun r : xr => ¬ r.2.1 < 0) (show ¬ (0 : Int32) < 0 by decide) (show ¬ (20 : Int32) < 0 by decide))))))
  show ¬ nI (zdr B t 201 0).1 < 0
  rw [Int32.lt_iff_toInt_lt, nI_toInt (by omega)]
  have e0 : (0 : Int32).toInt = 0 := rfl
  omega
end
section
variable {L i : Nat} {xs : Nat → Int32} {I : zI} {J : zJ} {P : zP} {N : Nat → Nat} {n z : Nat} {a b c : Int32}
set_option maxRecDepth 20000 in
set_option maxHeartbeats 4000000 in
theorem c_4 (hi : i < 2050) (hI : zInv L xs i (I, J, P, N, n, z)) : zCall 4 a b c L xs (I, J, P, N, n, z) (zInv L xs (i + 4)) := by
  obtain ⟨hs, hS, hk, hr, t, m, e, h, u, s, d, g, f, X⟩ := id hI
  obtain ⟨V, Su, Ta, La, O, Wf, Sc, Co, Be⟩ := id X
  have hm := V.2.2.1.2.1
  have r1 := hr.1
  have hi' : i < 4200 := by omega
  obtain ⟨zq, lq, wq, hq⟩ := yqs (f := f) (s := s) Sc.1
  obtain ⟨B, hB⟩ : ∃ B : Nat → Nat, B = fun j => zby' (I 239 j) := ⟨_, rfl⟩
  obtain ⟨ad, hda⟩ : ∃ ad : Nat → Nat, ad = fun k => (I 3408 k).toInt.toNat := ⟨_, rfl⟩
  obtain ⟨R, hR⟩ : ∃ R, R = xR B (I 239) I J g (yqK I) zq (yqW J) (yqV J) (yqY I) (f 5) := ⟨_, rfl⟩
  have hs32 : s ≤ 32 := V.2.2.1.2.2.2.2.2.2.2
  have had : ∀ k, k < m → I 3408 k = nI (ad k) ∧ ad k < 256 + s := fun k hk => by
    obtain ⟨x, x1, x2⟩ := (Wf k hk).2.2.1
    have e1 : ad k = x := by
      rw [hda]
      show (I 3408 k).toInt.toNat = x
      rw [x2, nI_toInt (by omega)]
      rfl
    rw [e1]
    exact ⟨x2, x1⟩
  show zTwoI _ _ _ _ _ _ _
  refine zC_of (fun Q hQ => ?_)
  refine e161 (Kq := yqK I) (zq := zq) (lq := lq) (wq := wq) (Wq := yqW J) (Pq := yqP I f) (Vq := yqV J) (Yq := yqY I) (B := B) (ad := ad) (R := R) hS hr.1 hk X hi' had (fun k hk => (hq k hk).1) hB hR ?_ ?_ ?_
  · intro I' J' q pl hx xa
    have nn : ¬ q < 0 := by
      have := xOut_n (B := B) (t := t) (tp := I 239) (I := I) (J := J) (g := g) (ad := ad) (m := m) (e := e) (hx := h) (s := s) (R := R) (l0 := xl0 I J)
      rw [hx] at this
      exact this
    refine hQ _ _ ⟨_, rfl, ⟨hs.1, fun j => ?_, hs.2.2⟩, ?_⟩
    · show zu (zu I' 3088 0 q) 11 9 0 22 j = xs j
      rw [zuR_ne (by decide), zuR_ne (by decide), xa.1.1 22 (by omega)]
      exact hs.2.1 j
    · refine zC_of (fun Q hQ => ?_)
      refine f302 (Kq := yqK I) (zq := zq) (lq := lq) (wq := wq) (Wq := yqW J) (Pq := yqP I f) (Vq := yqV J) (Yq := yqY I) (B := B) (ad := ad) (R := R) hS X hi' had hq hB hR (fun c hc => by rw [zuR_ne (by omega), zuR_ne (by omega)]; exact xa.1.1 c (by omega)) (fun c hc => xa.2.1 c (by omega)) ?_ ?_ ?_
      · intro I'' J'' q' pl' hx' xe h30
        have eq := hx.symm.trans hx'
        have e1 : q = q' := congrArg (fun r : xr => r.2.1) eq
        have e2 : pl = pl' := congrArg (fun r : xr => r.2.2.1) eq
        subst e1
        subst e2
        exact hQ _ _ ⟨rfl, fin4r hs hS hk hr X nn xa xe h30⟩
      · intro I'' J'' l hx'
        have e0 : 0 = 1 := congrArg (fun r : xr => r.1) (hx.symm.trans hx')
        omega
      · intro I'' J'' l hx'
        have e0 : 0 = 2 := congrArg (fun r : xr => r.1) (hx.symm.trans hx')
        omega
  · intro I' J' l K hx hK hat hI' tx hj hlu xa I1 I2 J2 P2 N2 z2 a1 a2 a3
    have j0 := zJud_0 hj
    have hia : zNam (I 3664) m (ziv (xT B) (zSz B)) (zia (xT B) (zSz B)) (xC B (zWi (zSz B) 0 0)) := zNam_of hm (fun i hi => (j0.1.1 i hi).1)
    have hid := zIl_d hia j0.1.1
    have hg0 : ∀ k, k < m → 201 ≤ g 0 k ∧ g 0 k < n := fun k hk => (O.1 k hk).2.2.2.2.2.2.2 0 (by decide)
    have ws : ∀ c, c < 6432 → I1 c = I' c := fun c hc => a1.1 c (fun k hk => by have := hg0 k hk; omega)
    have hS2 : zStat P2 N2 := zStat_c hS (fun a j x1 x2 x3 x4 => by rw [(a2.1 a (by omega)).2.2.1 x2]) (fun a x1 x2 => (a2.1 a (by omega)).2.2.2)
    refine hQ _ _ ⟨_, rfl, ⟨(a2.1 22 (by omega)).2.2.2.trans hs.1, fun j => ?_, (a2.1 6417 (by omega)).2.2.2.trans hs.2.2⟩, ?_⟩
    · show zu (zu (zu I2 2115 7 (I' 2115 7 + 1)) 3088 0 0) 11 9 0 22 j = xs j
      rw [zuR_ne (by decide), zuR_ne (by decide), zuR_ne (by decide), (a2.1 22 (by omega)).1 (by decide), ws 22 (by omega), xa.1.1 22 (by omega)]
      exact hs.2.1 j
    · refine zC_of (fun Q hQ => ?_)
      refine f302 (Kq := yqK I) (zq := zq) (lq := lq) (wq := wq) (Wq := yqW J) (Pq := yqP I f) (Vq := yqV J) (Yq := yqY I) (B := B) (ad := ad) (R := R) hS2 X hi' had hq hB hR (fun c hc => by rw [zuR_ne (by omega), zuR_ne (by omega), zuR_ne (by omega), (a2.1 c (by omega)).1 (by omega), ws c (by omega)]; exact xa.1.1 c (by omega)) (fun c hc => by rw [zuR_ne (by omega), (a2.1 c (by omega)).2.1]; exact xa.2.1 c (by omega)) ?_ ?_ ?_
      · intro I'' J'' q' pl' hx'
        have e0 : 1 = 0 := congrArg (fun r : xr => r.1) (hx.symm.trans hx')
        omega
      · intro I'' J'' l' hx' xe h30 I3 I4 J4 b1 b2 b3
        have e1 : l = l' := congrArg (fun r : xr => r.2.2.2) (hx.symm.trans hx')
        subst e1
        exact hQ _ _ ⟨rfl, fin4a hi' hs hS2 hk hr X hlu hB hK hat hI' tx (fun i hi => ⟨(hia i hi).1, (hia i hi).2.2⟩) hid j0.2.1 j0.2.2.2.2.1 xa a1 a2 a3 rfl rfl xe h30 b1 b2 b3⟩
      · intro I'' J'' l' hx'
        have e0 : 1 = 2 := congrArg (fun r : xr => r.1) (hx.symm.trans hx')
        omega
  · intro I' J' l K hx hK hat hI' tx hj hru hlu xa I1 a1
    have j0 := zJud_0 hj
    have hca : zNam (I 3664) m (zcv (xT B) (zSz B)) (zca (xT B) (zSz B)) (xC B (zWi (zSz B) 0 1)) := zNam_of hm (fun i hi => (j0.1.2 i hi).1)
    have hcd := zIl_d hca (fun i hi => ⟨(j0.1.2 i hi).1, (j0.1.2 i hi).2.2⟩)
    have hg0 : ∀ k, k < m → 201 ≤ g 0 k ∧ g 0 k < n := fun k hk => (O.1 k hk).2.2.2.2.2.2.2 0 (by decide)
    have ws : ∀ c, c < 6432 → c ≠ 2115 → I1 c = I' c := fun c hc h2 => (a1.1 c (fun k hk => by have := hg0 k hk; omega)).trans (zuR_ne h2)
    refine hQ _ _ ⟨_, rfl, ⟨hs.1, fun j => ?_, hs.2.2⟩, ?_⟩
    · show zu (zu I1 3088 0 20) 11 9 0 22 j = xs j
      rw [zuR_ne (by decide), zuR_ne (by decide), ws 22 (by omega) (by decide), xa.1.1 22 (by omega)]
      exact hs.2.1 j
    · refine zC_of (fun Q hQ => ?_)
      refine f302 (Kq := yqK I) (zq := zq) (lq := lq) (wq := wq) (Wq := yqW J) (Pq := yqP I f) (Vq := yqV J) (Yq := yqY I) (B := B) (ad := ad) (R := R) hS X hi' had hq hB hR (fun c hc => by rw [zuR_ne (by omega), zuR_ne (by omega), ws c (by omega) (by omega)]; exact xa.1.1 c (by omega)) (fun c hc => by rw [zuR_ne (by omega)]; exact xa.2.1 c (by omega)) ?_ ?_ ?_
      · intro I'' J'' q' pl' hx'
        have e0 : 2 = 0 := congrArg (fun r : xr => r.1) (hx.symm.trans hx')
        omega
      · intro I'' J'' l' hx'
        have e0 : 2 = 1 := congrArg (fun r : xr => r.1) (hx.symm.trans hx')
        omega
      · intro I'' J'' l' hx' xe h30 I2 J2 b1 b2 b3 b4 b5 b6 b7
        have e1 : l = l' := congrArg (fun r : xr => r.2.2.2) (hx.symm.trans hx')
        subst e1
        exact hQ _ _ ⟨rfl, fin4t hi' hs hS hk hr X hlu (fun i hi => ⟨(hca i hi).1, (hca i hi).2.2⟩) hcd xa a1 rfl rfl xe h30 b1 b2 b3 b4 b5 b6 b7⟩
end
