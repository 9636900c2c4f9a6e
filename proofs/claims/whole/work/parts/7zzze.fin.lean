-- needs: 01 02.names 03 04 05 18 19 20 22 23 24 25 30 31 32 33 35 36 37 40 42 43 44 45 46 47 60 61 62 63 64 65 66 67 68 69 79f 79g 79h 79i 79j 79k 79l 79m 79n 79o 79p 79q 79r 79s 79t 79u 79v 79w 79x 79y 79z. 79za 79zb 79zc 79zd 79ze 79zf 79zg 79zh 79zi 79zj 79zk 79zl 79zm 79zn 79zo 79zp 79zq 79zr 79zs 79zt 79zu 79zv 7a 7b 7c 7d 7e 7f 7g 7zl 7zm 7zn 7zo 7h 7i 7j 7k 7l 7m 7n 7o 7p 7q 7r 7zj 7zk 7zp 7zq 7zr 7zs 7zt 7zu 79zw 7s 7t 7u 7v 7w 7x 7y 7z. 7za 7zb 7zc 7zd 7ze 7zf 7zg 7zh 7zi 7zv 7zw 7zx 7zy 7zz. 7zza 7zzb 7zzc 7zzd 7zze 7zzf 7zzg 7zzh 7zzi 7zzj 7zzk 7zzl 7zzm 7zzn 7zzo 7zzp 7zzq 7zzr 7zzs 7zzt 7zzu 7zzv 7zzw 7zzx 7zzy 7zzz. 7zzza 7zzzb 7zzzc 7zzzd
/-! submitTape: what holds after both, but for outputs -/
section
variable {I J' : zI} {J : zJ} {P : zP} {N : Nat → Nat} {n c z m e hx t u s d : Nat} {B ad : Nat → Nat} {f g : Nat → Nat → Nat} {Kq zq lq wq Wq Pq : Nat → Nat → Nat} {Vq : Nat → Nat → Int64} {Yq : Nat → Nat → Nat → Int32} {R : Nat → Nat → Nat → yM} {Q : Option Value → zS → Prop}
theorem xO_c {I I' : zI} {J J' : zJ} {tp : Nat → Int32} {l0 : yLt} (h1 : I' 3472 = I 3472) (h2 : I' 3632 = I 3632) (h3 : I' 3664 = I 3664) (h4 : J' 3505 = J 3505) (h5 : J' 3537 = J 3537) (h6 : J' 3697 = J 3697) : xO B tp I' J' g ad t m e hx s R l0 = xO B tp I J g ad t m e hx s R l0 := by
  funext K
  unfold xO xJd
  rw [zJud_c h1 h2 h3 h4 h5 h6]
theorem xR_c {I I' : zI} {J J' : zJ} {tp : Nat → Int32} {fz : Nat → Nat} (h1 : I' 3472 = I 3472) (h2 : I' 3567 = I 3567) (h4 : J' 3505 = J 3505) (h5 : J' 3537 = J 3537) : xR B tp I' J' g Kq zq Wq Vq Yq fz = xR B tp I J g Kq zq Wq Vq Yq fz := by
  have ei : ∀ ia k, zIn I' J' g ia k = zIn I J g ia k := fun ia k => by
    funext q y
    unfold zIn
    congr 1
    funext i
    exact zAmt_c _ (fun j _ => by rw [h1, h4, h5]; exact ⟨rfl, rfl, rfl⟩)
  unfold xR
  rw [ei, h2]
/-- the reference, from where the class has left it -/
theorem f302 {Ic : zI} {Jc : zJ} {Pc : zP} {Nc : Nat → Nat} {nc zc : Nat} (hS : zStat Pc Nc) (X : zAll I J P N I J n c t m e hx u s d g f) (hc : c < 4200) (had : ∀ k, k < m → I 3408 k = nI (ad k) ∧ ad k < 256 + s) (hsf : ∀ k, k < s → ySf I J P N f n (Kq k) (zq k) (lq k) (wq k) (Wq k) (Pq k) (Vq k) (Yq k) k ∧ ySr (Kq k) (Wq k) (Vq k) (Yq k) I J k (f 5 k)) (hB : B = fun j => zby' (I 239 j)) (hR : R = xR B (I 239) I J g Kq zq Wq Vq Yq (f 5)) (rI : ∀ c, 3100 ≤ c ∧ c < 6432 → Ic c = I c) (rJ : ∀ c, 3100 ≤ c ∧ c < 6432 → Jc c = J c)
    (hr : ∀ I' J' q pl, xOut B t (xO B (I 239) I J g ad t m e hx s R (xl0 I J)) (xl0 I J) = (0, q, pl, xl0 I J) → xE Ic Jc I' J' s t (xl0 I J) → I' 3118 30 = q → Q (some (.int q)) (zu (zu I' 3118 31 pl) 3118 2 0, J', Pc, Nc, nc, zc))
    (ha : ∀ I' J' l, xOut B t (xO B (I 239) I J g ad t m e hx s R (xl0 I J)) (xl0 I J) = (1, 0, -1, l) → xE Ic Jc I' J' s t l → I' 3118 30 = 0 → xEa B Pc Nc nc zc m hx I' J' Q)
    (ht : ∀ I' J' l, xOut B t (xO B (I 239) I J g ad t m e hx s R (xl0 I J)) (xl0 I J) = (2, 20, -1, l) → xE Ic Jc I' J' s t l → I' 3118 30 = 20 → xEt B Pc Nc nc zc hx g I' J' Q) : zC 302 [.ref 3118] (Ic, Jc, Pc, Nc, nc, zc) Q := by
  obtain ⟨V, Su, Ta, La, O, W, Sc, Co, Be⟩ := X
  obtain ⟨V1, ⟨w0, w1, w2, w3, w4, w5, w6⟩, ⟨htt, hm, hem, huh, hud, hd1, hd6, hs32⟩, V4⟩ := V
  have hh : hx < 4200 := by
    obtain ⟨ap, tk, -, -, -, -, -, h7, -⟩ := Su
    omega
  have e1 := rI 3118 (by omega)
  have ex : xO B (I 239) Ic Jc g ad t m e hx s R (xl0 I J) = xO B (I 239) I J g ad t m e hx s R (xl0 I J) := xO_c (rI 3472 (by omega)) (rI 3632 (by omega)) (rI 3664 (by omega)) (rJ 3505 (by omega)) (rJ 3537 (by omega)) (rJ 3697 (by omega))
  have mr : zMr I J Ic Jc := fun a ha => by
    unfold zKm at ha
    exact ⟨rI a (by omega), rJ a (by omega)⟩
  refine e302 (B := B) (Kq := Kq) (zq := zq) (Wq := Wq) (Vq := Vq) (Yq := Yq) (tp := I 239) (l0 := xl0 I J) (R := R) (ad := ad) (g := g) (e := e) (m := m) (f := f) (lq := lq) (wq := wq) hS (by rw [e1]; exact w0) (by rw [e1]; exact w1) (by rw [e1]; exact w3) (by rw [e1]; exact w5) htt hm hs32 hh (zWfO_m (zMr_o mr) W) (zCon_m (zMr_o mr) (rJ 3697 (by omega)) Co) (fun k hk => by rw [rI 3440 (by omega)]; exact ⟨(O.1 k hk).2.2.1.1, (O.1 k hk).2.2.2.2.1.1⟩) (fun k hk => by rw [rI 3600 (by omega)]; exact ⟨(O.1 k hk).2.2.1.2, (O.1 k hk).2.2.2.2.1.2⟩) (fun k hk => by rw [rI 3408 (by omega)]; exact had k hk) (fun j hj => by rw [rI 3151 (by omega)]; exact ⟨(Ta j hj).1.symm, (Ta j hj).2⟩) (fun a => by rw [hB]; exact zby_lt) (fun j hj => by rw [hB, rI 3151 (by omega), ← (Ta j hj).1]) (fun k hk => ⟨?_, (hsf k hk).1.1⟩) ?_ ?_ ?_ ?_ ?_
  · have q := (hsf k hk).2
    unfold ySr at q ⊢
    rw [rI 3184 (by omega), rI 3312 (by omega), rI 3375 (by omega), rJ 3345 (by omega)]
    exact q
  · rw [hR]
    exact (xR_c (rI 3472 (by omega)) (rI 3567 (by omega)) (rJ 3505 (by omega)) (rJ 3537 (by omega))).symm
  · rw [rI 3280 (by omega), rJ 3118 (by omega), ← V4.2.2.2]
  · rw [ex]; exact hr
  · rw [ex]; exact ha
  · rw [ex]; exact ht
end
/-- what the class has done -/
def xU (I : zI) (J : zJ) (P : zP) (N : Nat → Nat) (n : Nat) (f : Nat → Nat → Nat) (s t : Nat) (q pl : Int32) (l : yLt) (Ic : zI) (Jc : zJ) (Pc : zP) (Nc : Nat → Nat) : Prop :=
  ((∀ c, c = 22 ∨ c = 54 ∨ c = 2224 ∨ c = 2256 ∨ (3100 ≤ c ∧ c < 6432) → Ic c = I c) ∧ (Ic 11 8 = I 11 8 ∧ Ic 11 9 = 0 ∧ Ic 11 10 = 1 ∧ Ic 11 11 = I 11 11 + 1) ∧ (∀ j, j = 1 ∨ j = 3 ∨ j = 4 ∨ j = 5 → Ic 2115 j = I 2115 j) ∧ ∀ c, c = 2193 ∨ (3100 ≤ c ∧ c < 6432) → Jc c = J c) ∧
  ((∀ c, 6432 ≤ c → c < 32 * n → c % 32 ≠ 6 → (c % 32 ≠ 7 → Ic c = I c) ∧ (∀ j, j ≠ 6 → Ic c j = I c j) ∧ Jc c = J c ∧ Pc c = P c ∧ Nc c = N c) ∧ ∀ c, c < 6432 → (c ≠ 2164 → Pc c = P c) ∧ Nc c = N c) ∧ (Ic 3088 0 = q ∧ Ic 3088 1 = pl ∧ Ic 3088 7 = nI t) ∧ yTc Ic Jc f s l
/-- what the reference has done -/
def xV (I : zI) (J : zJ) (s t : Nat) (q pl : Int32) (l : yLt) (Ir : zI) (Jr : zJ) : Prop :=
  ((∀ c, c < 3118 ∨ 6432 ≤ c ∨ c = 3184 ∨ c = 3216 ∨ c = 3248 ∨ c = 3312 ∨ c = 3375 → Ir c = I c) ∧ (∀ c, c < 3118 ∨ 6432 ≤ c ∨ c = 3345 → Jr c = J c)) ∧ (∀ j, j = 0 ∨ j = 3 ∨ j = 12 ∨ j = 23 ∨ j = 24 → Ir 3118 j = I 3118 j) ∧ (Ir 3118 13 = 1 ∧ Ir 3118 28 = I 3118 28 + 1 ∧ Ir 3118 37 = nI t ∧ Ir 3118 30 = q ∧ Ir 3118 31 = pl ∧ Ir 3118 2 = 0) ∧ yTr Ir Jr s l
section
variable {L i : Nat} {xs : Nat → Int32} {I Ic Ir : zI} {J Jc Jr : zJ} {P Pc : zP} {N Nc : Nat → Nat} {n z m e h u s d t m' n' z' : Nat} {f g g' : Nat → Nat → Nat} {q pl : Int32} {l : yLt}
theorem zVal_4 (U : xU I J P N n f s t q pl l Ic Jc Pc Nc) (W : xV Ic Jc s t q pl l Ir Jr) (hm' : m' ≤ 1024) (he : e ≤ m') (c2 : Ic 2115 2 = nI m') (r2 : Ir 3118 11 = nI m') (V : zVal I J I J t m e h u s d) : zVal Ir Jr Ir Jr 0 m' e h u s d := by
  obtain ⟨⟨u1, ⟨u2, u3, u4, u5⟩, u6, u7⟩, -, -, u8⟩ := U
  obtain ⟨⟨w1, w2⟩, w3, ⟨w4, w5, w6, w7, w8, w9⟩, w10⟩ := W
  obtain ⟨⟨v0, v1, v2, v3, v4, v5, v6⟩, ⟨x0, x1, x2, x3, x4, x5, x6⟩, ⟨b1, b2, b3, b4, b5, b6, b7, b8⟩, y1, y2, y3, y4⟩ := V
  have e3 : Ic 3118 = I 3118 := u1 3118 (by omega)
  obtain ⟨l1, l2, l3, l4, l5, l6, l7⟩ := l
  unfold zVal
  rw [w1 11 (by omega), w1 2115 (by omega), w2 11 (by omega), u2, u3, u4, u5, u6 3 (by omega), u6 4 (by omega), u6 5 (by omega), u6 1 (by omega), c2, r2, w3 12 (by omega), w3 23 (by omega), w3 24 (by omega), w3 3 (by omega), w3 0 (by omega), w4, w5, w9, e3, u8.2.2, w10.2.2]
  exact ⟨⟨rfl, rfl, v2, v3, v4, v5, v6⟩, ⟨rfl, rfl, x2, x3, x4, x5, x6⟩, ⟨by omega, hm', he, b4, b5, b6, b7, b8⟩, rfl, Or.inr rfl, by rw [y3], rfl⟩
theorem zLat_4 (U : xU I J P N n f s t q pl l Ic Jc Pc Nc) (W : xV Ic Jc s t q pl l Ir Jr) (hq : ¬ q < 0) : zLat Ir Ir := by
  obtain ⟨-, -, ⟨u1, u2, u3⟩, u8⟩ := U
  obtain ⟨⟨w1, w2⟩, w3, ⟨w4, w5, w6, w7, w8, w9⟩, w10⟩ := W
  obtain ⟨l1, l2, l3, l4, l5, l6, l7⟩ := l
  obtain ⟨⟨p1, p2, p3, p4, p5⟩, -, -⟩ := u8
  obtain ⟨⟨q1, q2, q3, q4, q5⟩, -, -⟩ := w10
  refine Or.inr ⟨by rw [w7]; exact hq, fun j hj => ?_⟩
  rw [w1 3088 (Or.inl (by omega))]
  have : j = 0 ∨ j = 1 ∨ j = 2 ∨ j = 3 ∨ j = 4 ∨ j = 5 ∨ j = 6 ∨ j = 7 := by omega
  rcases this with rfl | rfl | rfl | rfl | rfl | rfl | rfl | rfl
  · exact u1.trans w7.symm
  · exact u2.trans w8.symm
  · exact p1.trans q1.symm
  · exact p2.trans q2.symm
  · exact p3.trans q3.symm
  · exact p4.trans q4.symm
  · exact p5.trans q5.symm
  · exact u3.trans w6.symm
theorem zScs_4 (U : xU I J P N n f s t q pl l Ic Jc Pc Nc) (W : xV Ic Jc s t q pl l Ir Jr) (hn : n ≤ n') (hl : ∀ k, s ≤ k → l.2.2.2.2.2.1 k = I 3280 k) (S : zScs I J P N I J f n s) : zScs Ir Jr Pc Nc Ir Jr f n' s := by
  obtain ⟨⟨u1, -, -, u4⟩, ⟨u5, u6⟩, -, u8⟩ := U
  obtain ⟨⟨w1, w2⟩, -, -, w10⟩ := W
  obtain ⟨l1, l2, l3, l4, l5, l6, l7⟩ := l
  have hl : ∀ k, s ≤ k → l6 k = I 3280 k := hl
  have uk : ∀ k, Ir 3280 k = l6 k := w10.2.1
  have ck : ∀ k, k < s → Ic (32 * f 0 k + 7) 6 = l6 k := u8.2.1
  have r : ∀ c, c = 3184 ∨ c = 3216 ∨ c = 3248 ∨ c = 3312 ∨ c = 3375 → Ir c = I c := fun c hc => (w1 c (by omega)).trans (u1 c (by omega))
  have rj : Jr 3345 = J 3345 := (w2 3345 (by omega)).trans (u4 3345 (by omega))
  refine ⟨fun k hk => ?_, S.2.1, fun k hk => ?_⟩
  · obtain ⟨⟨p, ⟨i1, i2, i3, i4, i5⟩, l, b, hc, hg⟩, T⟩ := S.1 k hk
    have g0 := hg 0 (by decide)
    have g1 := hg 1 (by decide)
    have g2 := hg 2 (by decide)
    have g3 := hg 3 (by decide)
    have g4 := hg 4 (by decide)
    have cell : ∀ c, 6432 ≤ c → c < 32 * n → c % 32 ≠ 6 → (c % 32 ≠ 7 → Ir c = I c) ∧ (∀ j, j ≠ 6 → Ir c j = I c j) ∧ Jr c = J c ∧ Pc c = P c ∧ Nc c = N c := fun c x1 x2 x3 => by
      obtain ⟨y1, y2, y3, y4, y5⟩ := u5 c x1 x2 x3
      rw [w1 c (by omega), w2 c (by omega)]
      exact ⟨y1, y2, y3, y4, y5⟩
    obtain ⟨-, f2, -, f4, -⟩ := cell (32 * f 0 k + 7) (by omega) (by omega) (by omega)
    obtain ⟨a1, -, -, -, a5⟩ := cell (32 * f 1 k + 15) (by omega) (by omega) (by omega)
    obtain ⟨-, -, b3, -, b5⟩ := cell (32 * f 2 k + 17) (by omega) (by omega) (by omega)
    obtain ⟨c1, -, -, -, c5⟩ := cell (32 * f 3 k + 16) (by omega) (by omega) (by omega)
    obtain ⟨d1, -, -, -, d5⟩ := cell (32 * f 4 k + 15) (by omega) (by omega) (by omega)
    have a1 := a1 (by omega)
    have c1 := c1 (by omega)
    have d1 := d1 (by omega)
    constructor
    · unfold zS1
      rw [f2 4 (by decide), f2 5 (by decide), f4, a1, a5, b3, b5, c1, c5, d1, d5, (u6 3061 (by omega)).1 (by decide), r 3184 (by omega), r 3216 (by omega), r 3248 (by omega), r 3312 (by omega), r 3375 (by omega), rj]
      refine ⟨p, ⟨i1, i2, i3, i4, ?_⟩, l, b, hc, fun x hx => ⟨(hg x hx).1, Nat.lt_of_lt_of_le (hg x hx).2 hn⟩⟩
      rw [uk k, w1 (32 * f 0 k + 7) (by omega)]
      exact ck k hk
    · unfold zTrm at T ⊢
      rw [c1, r 3312 (by omega), rj]
      exact T
  · rw [uk k, hl k hk]
    exact S.2.2 k hk
theorem zb_4 {z z' i : Nat} (h : z ≤ 1542900 + 1200 * i) (h2 : z' ≤ z + 4800) : z' ≤ 1542900 + 1200 * (i + 4) := by
  rw [Nat.mul_add]
  exact Nat.le_trans h2 (Nat.le_trans (Nat.add_le_add_right h 4800) (Nat.le_of_eq (Nat.add_assoc _ _ _)))
/-- all but outputs -/
theorem fin4 (hs : zScr L xs (I, J, P, N, n, z)) (hS' : zStat Pc Nc) (hk : I 54 = zTK0 ∧ N 54 = 32) (hr : 201 ≤ n ∧ n + N 31 ≤ 201 + 12 * i ∧ z ≤ 1542900 + 1200 * i) (X : zAll I J P N I J n i t m e h u s d g f) (U : xU I J P N n f s t q pl l Ic Jc Pc Nc) (W : xV Ic Jc s t q pl l Ir Jr) (hm' : m' ≤ 1024) (hme : m ≤ m') (c2 : Ic 2115 2 = nI m') (r2 : Ir 3118 11 = nI m') (hq : ¬ q < 0) (hl : ∀ k, s ≤ k → l.2.2.2.2.2.1 k = I 3280 k) (hn : n ≤ n' ∧ n' ≤ n + 48) (hz : z' ≤ z + 4800)
    (Su : zSum Ir Jr Ir Jr h u (i + 4)) (O : zOuts Ir Jr Pc Nc Ir Jr g' n' m') (Wf : zWfO Ir Jr g' m' e h s) (Co : zCon Ir Jr g' m' e h) : zInv L xs (i + 4) (Ir, Jr, Pc, Nc, n', z') := by
  obtain ⟨V, -, -, -, -, -, Sc, -, -⟩ := X
  have hem : e ≤ m := V.2.2.1.2.2.1
  obtain ⟨⟨u1, -, -, u4⟩, ⟨u5, u6⟩, -, -⟩ := id U
  obtain ⟨⟨w1, w2⟩, -, w5, -⟩ := id W
  obtain ⟨r1, r2', r3⟩ := hr
  have hz' : z' ≤ 1542900 + 1200 * (i + 4) := zb_4 r3 hz
  have hn' : 201 ≤ n' := by omega
  have e22 : Ir 22 = I 22 := (w1 22 (by omega)).trans (u1 22 (by omega))
  have e54 : Ir 54 = I 54 := (w1 54 (by omega)).trans (u1 54 (by omega))
  refine ⟨⟨?_, fun j => ?_, ?_⟩, hS', ⟨?_, ?_⟩, ⟨hn', ?_, hz'⟩, 0, m', e, h, u, s, d, g', f, zVal_4 U W hm' (by omega) c2 r2 V, Su, fun j hj => by omega, zLat_4 U W hq, O, Wf, zScs_4 U W hn.1 hl Sc, Co, fun x => ?_⟩
  · exact (u6 22 (by omega)).2.trans hs.1
  · show Ir 22 j = xs j
    rw [e22]
    exact hs.2.1 j
  · exact (u6 6417 (by omega)).2.trans hs.2.2
  · rw [e54]; exact hk.1
  · rw [(u6 54 (by omega)).2]; exact hk.2
  · rw [(u6 31 (by omega)).2]; omega
  · rw [w5.1] at x
    exact absurd x (by decide)
end
