-- needs: 01 02.names 03 04 05 18 19 20 22 23 24 25 30 31 32 33 35 36 37 40 42 43 44 45 46 47 60 61 62 63 64 65 66 67 68 69 79f 79g 79h 79i 79j 79k 79l 79m 79n 79o 79p 79q 79r 79s 79t 79u 79v 79w 79x 79y 79z. 79za 79zb 79zc 79zd 79ze 79zf 79zg 79zh 79zi 79zj 79zk 79zl 79zm 79zn 79zo 79zp 79zq 79zr 79zs 79zt 79zu 79zv 7a 7b 7c 7d 7e 7f 7g 7zl 7zm 7zn 7zo 7h 7i 7j 7k 7l 7m 7n 7o 7p 7q 7r 7zj 7zk 7zp 7zq 7zr 7zs 7zt 7zu 79zw 7s 7t 7u 7v 7w 7x 7y 7z. 7za 7zb 7zc 7zd 7ze 7zf 7zg 7zh 7zi 7zv 7zw 7zx 7zy 7zz. 7zza 7zzb 7zzc 7zzd 7zze 7zzf 7zzg 7zzh 7zzi 7zzj 7zzk 7zzl 7zzm 7zzn 7zzo 7zzp 7zzq 7zzr 7zzs 7zzt 7zzu 7zzv 7zzw 7zzx 7zzy 7zzz. 7zzza 7zzzb 7zzzc 7zzzd 7zzze 7zzzf 7zzzg 7zzzh
/-! submitTape: what holds after it; applied -/
/-- the cells of outputs, and of new ones -/
def zg4 (g : Nat → Nat → Nat) (n m : Nat) (C Z H : Nat → Nat) : Nat → Nat → Nat := fun x k => if k < m then g x k else if x < 6 then n + 6 * (k - m) + x else if x = 6 then C (zoc Z (k - m)) else H (zWi Z (zWi Z (zWi Z 0 2) (k - m)) 3) - H (zWi Z (zWi Z (zWi Z 0 2) (k - m)) 2)
section
variable {g : Nat → Nat → Nat} {n m k x o : Nat} {C Z H : Nat → Nat}
theorem zg4_o (h : k < m) : zg4 g n m C Z H x k = g x k := if_pos h
theorem zg4_c (h : x < 6) : zg4 g n m C Z H x (m + o) = n + 6 * o + x := by
  unfold zg4
  rw [if_neg (by omega), if_pos h, show m + o - m = o by omega]
theorem zg4_6 : zg4 g n m C Z H 6 (m + o) = C (zoc Z o) := by
  unfold zg4
  rw [if_neg (by omega), if_neg (by omega), if_pos rfl, show m + o - m = o by omega]
theorem zg4_7 : zg4 g n m C Z H 7 (m + o) = H (zWi Z (zWi Z (zWi Z 0 2) o) 3) - H (zWi Z (zWi Z (zWi Z 0 2) o) 2) := by
  unfold zg4
  rw [if_neg (by omega), if_neg (by omega), if_neg (by omega), show m + o - m = o by omega]
end
section
variable {L i : Nat} {xs : Nat → Int32} {I I' I'' I1 I2 I3 I4 Ic : zI} {J J' J'' J2 J4 Jc : zJ} {P P2 : zP} {N N2 : Nat → Nat} {n z z2 m e h u s d t K : Nat} {f g : Nat → Nat → Nat} {l : yLt} {B : Nat → Nat}
set_option maxHeartbeats 4000000 in
/-- applied -/
theorem fin4a (hi : i < 4200) (hs : zScr L xs (I, J, P, N, n, z)) (hS2 : zStat P2 N2) (hk : I 54 = zTK0 ∧ N 54 = 32) (hr : 201 ≤ n ∧ n + N 31 ≤ 201 + 12 * i ∧ z ≤ 1542900 + 1200 * i) (X : zAll I J P N I J n i t m e h u s d g f) (hl : ∀ k, s ≤ k → l.2.2.2.2.2.1 k = I 3280 k)
    (hB : B = fun j => zby' (I 239 j)) (hK : zdr B t 201 0 = (0, 0, K)) (hat : zat B K = t) (hI : ∀ j, j < K → ∃ a, zIsp B j a ∧ j + a ≤ K) (tx : xTx B s) (hia : ∀ i, i < xC B (zWi (zSz B) 0 0) → zia (xT B) (zSz B) i < m ∧ I 3664 (zia (xT B) (zSz B) i) = -1) (hid : ∀ i j, i < j → j < xC B (zWi (zSz B) 0 0) → ¬ zia (xT B) (zSz B) i = zia (xT B) (zSz B) j) (bm : zBm I J (xT B) (xC B) (zSz B) g (zia (xT B) (zSz B)) (zLVt I J g e h m)) (hmo : m + xC B (zWi (zSz B) 0 2) ≤ 1024)
    (xa : xA I J I' J' f s t (-1) l) (a1 : yWs I' I1 g (zia (xT B) (zSz B)) m h (xC B (zWi (zSz B) 0 0))) (a2 : yMd I1 J' P N n (xT B) (xC B) (zSz B) (xH B) m h (xC B (zWi (zSz B) 0 2)) I2 J2 P2 N2) (a3 : z2 ≤ z + 161 * xC B (zWi (zSz B) 0 2))
    (hIc : Ic = zu (zu (zu I2 2115 7 (I' 2115 7 + 1)) 3088 0 0) 11 9 0) (hJc : Jc = zu J2 2115 6 (J' 2115 6 + xT B (zWi (zSz B) 0 3))) (xe : xE Ic Jc I'' J'' s t l) (h30 : I'' 3118 30 = 0)
    (b1 : ∀ c, c ≠ 3664 → I3 c = I'' c) (b2 : I3 3664 = ySpd (I'' 3664) (zia (xT B) (zSz B)) h (xC B (zWi (zSz B) 0 0))) (b3 : yAo I3 J'' I4 J4 (xT B) (xC B) (zSz B) (xH B) m h (xC B (zWi (zSz B) 0 2))) :
    zInv L xs (i + 4) (zu (zu (zu I4 3728 h (I'' 3728 h + 1)) 3118 31 (-1)) 3118 2 0, zu J4 3697 h (J'' 3697 h + xT B (zWi (zSz B) 0 3)), P2, N2, n + 6 * xC B (zWi (zSz B) 0 2), z2) := by
  obtain ⟨V, Su, Ta, La, O, Wf, Sc, Co, Be⟩ := id X
  have hh : h < 2 ^ 31 := by
    obtain ⟨ap, tk, -, -, -, -, -, h7, -⟩ := Su
    omega
  have hs32 : s ≤ 32 := V.2.2.1.2.2.2.2.2.2.2
  have htt := V.2.2.1.1
  have hem := V.2.2.1.2.2.1
  have hBt : ∀ a, B a < 256 := fun a => by rw [hB]; exact zby_lt
  have D := x_dt hBt hK hI
  have no8 := (zTx_c tx).2.2.1
  have fee : 0 ≤ (xT B (zWi (zSz B) 0 3)).toInt := Int64.le_iff_toInt_le.1 tx.2.2.2.2.1.2.1
  generalize hno : xC B (zWi (zSz B) 0 2) = no at a2 a3 b3 hmo no8 ⊢
  have hg0 : ∀ k, k < m → 201 ≤ g 0 k ∧ g 0 k < n := fun k hk => (O.1 k hk).2.2.2.2.2.2.2 0 (by decide)
  have ws : ∀ c, c % 32 ≠ 6 ∨ c < 6432 → I1 c = I' c := fun c hc => a1.1 c (fun k hk => by have := hg0 k hk; omega)
  obtain ⟨m1, ⟨m2, m3⟩, m4, m5⟩ := a2
  obtain ⟨⟨o1, o2⟩, ⟨o3, o4⟩, o5, o6, o7, o8⟩ := b3
  have U : xU I J P N n f s t 0 (-1) l Ic Jc P2 N2 := by
    rw [hIc]
    refine xU_g hr.1 (fun k hk => ((Sc.1 k hk).1.2.2.2.2.2 0 (by decide)).2) xa (fun c x1 x2 x3 => by rw [zuR_ne x3, (m1 c x1).1 x3, ws c x2]) (fun j hj => by rw [zu_nj (by omega), m2 j (by omega), ws 2115 (by omega)]) (fun c x1 x2 => by rw [hJc, zuR_ne x2, (m1 c x1).2.1]) (fun c x1 => (m1 c x1).2.2)
  have W : xV Ic Jc s t 0 (-1) l (zu (zu (zu I4 3728 h (I'' 3728 h + 1)) 3118 31 (-1)) 3118 2 0) (zu J4 3697 h (J'' 3697 h + xT B (zWi (zSz B) 0 3))) := xV_g xe h30 (fun c hc => by rw [zuR_ne (by omega), o1 c (by omega) (by omega) (by omega) (by omega) (by omega) (by omega) (by omega) (by omega), b1 c (by omega)]) (fun j hj => by rw [zuR_ne (by decide), o3 j hj, b1 3118 (by decide)]) (fun c hc => by rw [zuR_ne (by omega), o2 c (by omega) (by omega)])
  obtain ⟨Ir, hIr⟩ : ∃ Ir, Ir = zu (zu (zu I4 3728 h (I'' 3728 h + 1)) 3118 31 (-1)) 3118 2 0 := ⟨_, rfl⟩
  obtain ⟨Jr, hJr⟩ : ∃ Jr, Jr = zu J4 3697 h (J'' 3697 h + xT B (zWi (zSz B) 0 3)) := ⟨_, rfl⟩
  have g4 : ∀ c, c ≠ 3118 → c ≠ 3728 → Ir c = I4 c := fun c x1 x2 => by rw [hIr, zuR_ne x1, zuR_ne x1, zuR_ne x2]
  have g4j : ∀ c, c ≠ 3697 → Jr c = J4 c := fun c x1 => by rw [hJr, zuR_ne x1]
  -- rows of the reference
  have r2' : ∀ c, 3160 ≤ c ∧ c < 3780 ∧ c ≠ 3280 → I'' c = I c := fun c hc => (xe.1.1 c (by omega)).trans (U.1.1 c (by omega))
  have r2j : ∀ c, 3160 ≤ c ∧ c < 3780 → J'' c = J c := fun c hc => (xe.2.1 c (by omega)).trans (U.1.2.2.2 c (by omega))
  have ia : ∀ c, 3160 ≤ c ∧ c < 3780 → I' c = I c := fun c hc => xa.1.1 c (by omega)
  have ja : ∀ c, 3160 ≤ c ∧ c < 3780 → J' c = J c := fun c hc => xa.2.1 c (by omega)
  have s5 : ∀ k, k < m → Ir 3408 k = I 3408 k ∧ Ir 3440 k = I 3440 k ∧ Ir 3600 k = I 3600 k ∧ Ir 3632 k = I 3632 k ∧ Ir 3664 k = ySpd (I 3664) (zia (xT B) (zSz B)) h (xC B (zWi (zSz B) 0 0)) k := fun k hk => by
    obtain ⟨y1, y2, y3, y4, y5⟩ := o5 k hk
    rw [g4 3408 (by decide) (by decide), g4 3440 (by decide) (by decide), g4 3600 (by decide) (by decide), g4 3632 (by decide) (by decide), g4 3664 (by decide) (by decide), y1, y2, y3, y4, y5, b1 3408 (by decide), b1 3440 (by decide), b1 3600 (by decide), b1 3632 (by decide), b2, r2' 3408 (by omega), r2' 3440 (by omega), r2' 3600 (by omega), r2' 3632 (by omega), r2' 3664 (by omega)]
    exact ⟨rfl, rfl, rfl, rfl, rfl⟩
  have s6 : ∀ k, k < 8 * m → Ir 3472 k = I 3472 k ∧ Jr 3505 k = J 3505 k ∧ Jr 3537 k = J 3537 k := fun k hk => by
    obtain ⟨y1, y2, y3⟩ := o6 k hk
    rw [g4 3472 (by decide) (by decide), g4j 3505 (by decide), g4j 3537 (by decide), y1, y2, y3, b1 3472 (by decide), r2' 3472 (by omega), r2j 3505 (by omega), r2j 3537 (by omega)]
    exact ⟨rfl, rfl, rfl⟩
  have s7 : ∀ k, k < 128 * m → Ir 3567 k = I 3567 k := fun k hk => by rw [g4 3567 (by decide) (by decide), o7 k hk, b1 3567 (by decide), r2' 3567 (by omega)]
  have h8 : ∀ k, k < m → g 6 k ≤ 8 ∧ g 7 k ≤ 128 := fun k hk => (O.1 k hk).2.2.2.2.1
  -- the tape
  have tpc : ∀ x, x < t → I1 239 x = I 239 x := fun x hx => by rw [ws 239 (by omega), xa.2.2.2.1 x (by omega)]
  have tpr : ∀ x, x < t → I3 3151 x = I 239 x := fun x hx => by rw [b1 3151 (by decide), xe.2.2.1 x hx, U.1.1 3151 (by omega), (Ta x hx).1]
  have nw : ∀ o, o < no → yNo Ir Jr (xT B) (xC B) (zSz B) (xH B) (I3 3151) h (m + o) (zWi (zSz B) (zWi (zSz B) 0 2) o) := fun o ho => by
    have := o8 o ho
    unfold yNo at this ⊢
    rw [g4 3408 (by decide) (by decide), g4 3440 (by decide) (by decide), g4 3600 (by decide) (by decide), g4 3632 (by decide) (by decide), g4 3664 (by decide) (by decide), g4 3472 (by decide) (by decide), g4j 3505 (by decide), g4j 3537 (by decide), g4 3567 (by decide) (by decide)]
    exact this
  have dk : ∀ o, o < no → zDk (Ir 3567) (m + o) (xH B (zWi (zSz B) (zWi (zSz B) (zWi (zSz B) 0 2) o) 3) - xH B (zWi (zSz B) (zWi (zSz B) (zWi (zSz B) 0 2) o) 2)) ∧ xH B (zWi (zSz B) (zWi (zSz B) (zWi (zSz B) 0 2) o) 3) ≤ t := fun o ho => by
    have ho' : o < xC B (zWi (zSz B) 0 2) := by omega
    have h3 := (x_zDk (row := fun x => I 239 (xH B (zWi (zSz B) (zWi (zSz B) (zWi (zSz B) 0 2) o) 2) + x - 128 * 0)) (a := 0) hB hBt hK (by omega) hI tx ho' (fun j hj => by rw [(Ta j hj).1]; exact (Ta j hj).2) (fun j hj => by show I 239 (xH B (zWi (zSz B) (zWi (zSz B) (zWi (zSz B) 0 2) o) 2) + (128 * 0 + j) - 128 * 0) = _; rw [show xH B (zWi (zSz B) (zWi (zSz B) (zWi (zSz B) 0 2) o) 2) + (128 * 0 + j) - 128 * 0 = xH B (zWi (zSz B) (zWi (zSz B) (zWi (zSz B) 0 2) o) 2) + j by omega])).2
    refine x_zDk (tp := I 239) hB hBt hK (by omega) hI tx ho' (fun j hj => by rw [(Ta j hj).1]; exact (Ta j hj).2) (fun j hj => ?_)
    rw [(nw o ho).2.2 j hj, tpr _ (by omega)]
  have Wf' : zWfO Ir Jr (zg4 g n m (xC B) (zSz B) (xH B)) (m + no) e h s := zWfO_4 (no := no) (n := xC B (zWi (zSz B) 0 0)) (ia := zia (xT B) (zSz B)) hh hem Wf h8 (fun k hk => ⟨⟨(s5 k hk).2.2.2.1, (s5 k hk).2.2.2.2, (s5 k hk).1⟩, zg4_o hk, zg4_o hk⟩) s6 s7 (fun o ho => by
    obtain ⟨⟨n1, n2, n3, n4, n5⟩, n6, n7⟩ := nw o ho
    obtain ⟨zo, -⟩ := x_out D tx (show o < xC B (zWi (zSz B) 0 2) by omega)
    rw [zg4_6, zg4_7]
    refine ⟨n4, n5, ?_, fun j hj => ?_, fun a b hab hb => ?_, (dk o ho).1⟩
    · obtain ⟨b, b1, b2⟩ := zAdn_n hs32 zo.2.1
      exact ⟨b, b1, n1.trans b2⟩
    · obtain ⟨y1, y2, y3⟩ := n6 j hj
      rw [y1, y2, y3]
      exact zCns_w4 hs32 zo.2.2.2.1 j hj
    · rw [(n6 a (by have hb : b < xC B (zWi (zSz B) (zWi (zSz B) (zWi (zSz B) 0 2) o) 1) := hb; omega)).1, (n6 a (by have hb : b < xC B (zWi (zSz B) (zWi (zSz B) (zWi (zSz B) 0 2) o) 1) := hb; omega)).2.1, (n6 b hb).1, (n6 b hb).2.1]
      exact zCns_s hs32 zo.2.2.2.1 a b hab hb)
  have b7 : ∀ k, k ≠ h → Jr 3697 k = J 3697 k := fun k hk => by rw [hJr, zu_nj hk, o2 3697 (by decide) (by decide), r2j 3697 (by omega)]
  have b8 : Jr 3697 h = J 3697 h + xT B (zWi (zSz B) 0 3) := by rw [hJr, zu_at, r2j 3697 (by omega)]
  have Co' : zCon Ir Jr (zg4 g n m (xC B) (zSz B) (xH B)) (m + no) e h := by
    rw [← hno] at Wf' ⊢
    exact zCon_a hh hem Wf Wf' (fun k hk => (h8 k hk).1) hia hid Co bm fee (fun k hk => ⟨(s5 k hk).2.2.2.1, (s5 k hk).2.2.2.2, zg4_o hk⟩) s6 (fun o ho => by
      obtain ⟨⟨n1, n2, n3, n4, n5⟩, n6, n7⟩ := nw o (by omega)
      exact ⟨n4, n5, zg4_6, n6⟩) b7 b8
  -- cells of the class
  have c1 : ∀ c, c < 3118 ∨ 6432 ≤ c → Ir c = Ic c := fun c hc => by rw [hIr]; exact W.1.1 c (by omega)
  have c1j : ∀ c, c < 3118 ∨ 6432 ≤ c → Jr c = Jc c := fun c hc => by rw [hJr]; exact W.1.2 c (by omega)
  have c2 : ∀ c, 6432 ≤ c → Ir c = I2 c ∧ Jr c = J2 c := fun c hc => by
    rw [c1 c (by omega), c1j c (by omega), hIc, hJc, zuR_ne (by omega), zuR_ne (by omega), zuR_ne (by omega), zuR_ne (by omega)]
    exact ⟨rfl, rfl⟩
  have i21 : ∀ j, Ir 2115 j = zu I2 2115 7 (I' 2115 7 + 1) 2115 j := fun j => by rw [c1 2115 (by omega), hIc, zuR_ne (by decide), zuR_ne (by decide)]
  have e21 : I' 2115 = I 2115 := xa.1.1 2115 (by omega)
  rw [← hIr, ← hJr] at W ⊢
  refine fin4 (m' := m + no) (n' := n + 6 * no) (z' := z2) (g' := zg4 g n m (xC B) (zSz B) (xH B)) hs hS2 hk hr X U W hmo (by omega) ?_ ?_ (by decide) hl ⟨by omega, by omega⟩ (by omega) (zSum_4 (da := 1) (dt := 0) (v := xT B (zWi (zSz B) 0 3)) ?_ ?_ ?_ ?_ ?_ ?_ b7 b8 (fun k hk => ?_) ?_ (fun k hk => ?_) ?_ (by omega) Su) ⟨fun k hk => ?_, fun a b hab hb => ?_⟩ Wf' Co'
  · rw [← c1 2115 (by omega), i21, zu_nj (by decide), m3]
  · rw [hIr, zu_nj (by decide), zu_nj (by decide), zuR_ne (by decide), o4]
  · rw [c1j 2115 (by omega), hJc, zu_at, xa.2.1 2115 (by omega)]
  · rw [i21, zu_at, e21]
    rfl
  · rw [i21, zu_nj (by decide), m2 8 (by decide), ws 2115 (by omega), e21]
    exact (Int32.add_zero _).symm
  · rw [c1j 2193 (by omega)]; exact U.1.2.2.2 2193 (by omega)
  · rw [c1 2224 (by omega)]; exact U.1.1 2224 (by omega)
  · rw [c1 2256 (by omega)]; exact U.1.1 2256 (by omega)
  · rw [hIr, zuR_ne (by decide), zuR_ne (by decide), zu_nj hk, o1 3728 (by decide) (by decide) (by decide) (by decide) (by decide) (by decide) (by decide) (by decide), b1 3728 (by decide), r2' 3728 (by omega)]
  · rw [hIr, zuR_ne (by decide), zuR_ne (by decide), zu_at, r2' 3728 (by omega)]
    rfl
  · rw [g4 3760 (by decide) (by decide), o1 3760 (by decide) (by decide) (by decide) (by decide) (by decide) (by decide) (by decide) (by decide), b1 3760 (by decide), r2' 3760 (by omega)]
  · rw [g4 3760 (by decide) (by decide), o1 3760 (by decide) (by decide) (by decide) (by decide) (by decide) (by decide) (by decide) (by decide), b1 3760 (by decide), r2' 3760 (by omega)]
    exact (Int32.add_zero _).symm
  · by_cases hkm : k < m
    · have o := (xA_o xa O).1 k hkm
      have gk := hg0 k hkm
      have k8 := h8 k hkm
      refine zO1_g (I := I') (J := J') (A := I') (B := J') (n := n) (g := g) (fun a x1 x2 => ?_) ⟨⟨?_, ?_, ?_, ?_⟩, fun j hj => ⟨?_, ?_, ?_⟩, fun j hj => ?_⟩ (fun _ _ => zg4_o hkm) (by omega) (m4 k hkm) ?_ o
      · obtain ⟨e1, e2⟩ := c2 a x1
        obtain ⟨y1, y2, y3, y4⟩ := m1 a x2
        refine ⟨fun x => by rw [e1, y1 (by omega), ws a (by omega)], fun j hj => ?_, e2.trans y2, y3 (by omega), y4⟩
        by_cases hx : ∃ k, k < m ∧ a = 32 * g 0 k + 6
        · obtain ⟨k', k1, rfl⟩ := hx
          rw [e1, y1 (by omega), (a1.2 k' k1).1 j hj]
        · rw [e1, y1 (by omega), a1.1 a (fun k hk he => hx ⟨k, hk, he⟩)]
      · rw [(s5 k hkm).1, ia 3408 (by omega)]
      · rw [(s5 k hkm).2.2.2.1, ia 3632 (by omega)]
      · rw [(s5 k hkm).2.1, ia 3440 (by omega)]
      · rw [(s5 k hkm).2.2.1, ia 3600 (by omega)]
      · rw [(s6 _ (by omega)).1, ia 3472 (by omega)]
      · rw [(s6 _ (by omega)).2.1, ja 3505 (by omega)]
      · rw [(s6 _ (by omega)).2.2, ja 3537 (by omega)]
      · rw [s7 _ (by omega), ia 3567 (by omega)]
      · rw [(c2 _ (by omega)).1, (m1 _ (by omega)).1 (by omega), (a1.2 k hkm).2, (s5 k hkm).2.2.2.2, ia 3664 (by omega)]
    · obtain ⟨o, rfl⟩ : ∃ o, k = m + o := ⟨k - m, by omega⟩
      have ho : o < no := by omega
      obtain ⟨⟨n1, n2, n3, n4, n5⟩, n6, n7⟩ := nw o ho
      obtain ⟨p1, ⟨q1, q2, q3, q4⟩, p3, p4, p5⟩ := m5 o ho
      obtain ⟨zo, -⟩ := x_out D tx (show o < xC B (zWi (zSz B) 0 2) by omega)
      have dk := (dk o ho).2
      have z1 := zo.2.2.1
      have z2 := zo.2.2.2.2
      have r1 := hr.1
      unfold zO1
      rw [zg4_c (by decide), zg4_c (by decide), zg4_c (by decide), zg4_c (by decide), zg4_c (by decide), zg4_c (by decide), zg4_6, zg4_7, Nat.add_zero (n + 6 * o), (c2 (32 * (n + 6 * o) + 6) (by omega)).1, (c2 (32 * (n + 6 * o + 1) + 1) (by omega)).1, (c2 (32 * (n + 6 * o + 2) + 16) (by omega)).1, (c2 (32 * (n + 6 * o + 5) + 15) (by omega)).1, (c2 (32 * (n + 6 * o + 3) + 17) (by omega)).2, (c2 (32 * (n + 6 * o + 4) + 17) (by omega)).2]
      refine ⟨p1, ⟨q1.trans n1.symm, q2.trans n4.symm, q3.trans n5.symm, q4⟩, ⟨n2, n3⟩, p3, ⟨z1.2.2, by omega⟩, fun j hj => ?_, fun j hj => ?_, fun x hx => ?_⟩
      · obtain ⟨y1, y2, y3⟩ := p4 j hj
        obtain ⟨x1, x2, x3⟩ := n6 j hj
        exact ⟨y1.trans x1.symm, y2.trans x2.symm, y3.trans x3.symm⟩
      · rw [p5 j hj, n7 j hj, tpc _ (by omega), tpr _ (by omega)]
      · rw [zg4_c hx]
        omega
  · have r1 := hr.1
    by_cases hbm : b < m
    · rw [zg4_o hbm, zg4_o (by omega)]
      exact O.2 a b hab hbm
    · obtain ⟨o, rfl⟩ : ∃ o, b = m + o := ⟨b - m, by omega⟩
      rw [zg4_c (by decide)]
      by_cases ham : a < m
      · rw [zg4_o ham]
        have := hg0 a ham
        omega
      · obtain ⟨o', rfl⟩ : ∃ o', a = m + o' := ⟨a - m, by omega⟩
        rw [zg4_c (by decide)]
        omega
end
