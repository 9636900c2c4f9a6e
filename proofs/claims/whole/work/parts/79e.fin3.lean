-- needs: 01 02.names 03 04 05 18 19 20 22 23 24 25 30 31 32 33 36 40 41 42 43 44 46 47 60 61 62 63 64 65 66 67 68 69 70 71 72 73 74 75 76 77 78 79. 79b 79c 79d
/-! registerScript: what holds after it -/
section
variable {I A A' : zI} {J B B' : zJ} {P : zP} {N : Nat → Nat} {n m e h s s' k : Nat} {f f' g : Nat → Nat → Nat}
theorem zWfO_s (hh : s ≤ s') (W : zWfO A B g m e h s) : zWfO A B g m e h s' := by
  intro k hk
  obtain ⟨h1, h2, ⟨a, ha, e3⟩, h4, h5⟩ := W k hk
  refine ⟨h1, h2, ⟨a, by omega, e3⟩, fun j hj => ?_, h5⟩
  obtain ⟨⟨p, hp, e4⟩, h6⟩ := h4 j hj
  exact ⟨⟨p, by omega, e4⟩, h6⟩
/-- the reference's entries of script k -/
def zMk (A : zI) (B : zJ) (A' : zI) (B' : zJ) (k : Nat) : Prop := (A' 3184 k = A 3184 k ∧ A' 3216 k = A 3216 k ∧ A' 3248 k = A 3248 k ∧ A' 3280 k = A 3280 k) ∧ (∀ x, x < 190 → A' 3312 (190 * k + x) = A 3312 (190 * k + x) ∧ B' 3345 (190 * k + x) = B 3345 (190 * k + x)) ∧ ∀ x, x < 190 → ∀ j, j < 64 → A' 3375 (64 * (190 * k + x) + j) = A 3375 (64 * (190 * k + x) + j)
theorem zS1_k (hf : ∀ i, f' i k = f i k) (M : zMk A B A' B' k) (O : zS1 I J P N A B f n k ∧ zTrm I A B f k) : zS1 I J P N A' B' f' n k ∧ zTrm I A' B' f' k := by
  obtain ⟨⟨p, i, l, b, hc, hg⟩, T⟩ := O
  obtain ⟨⟨m1, m2, m3, m4⟩, m5, m6⟩ := M
  constructor
  · unfold zS1
    rw [hf 0, hf 1, hf 2, hf 3, hf 4, hf 5, hf 6, m1, m2, m3, m4]
    refine ⟨p, i, l, b, fun x hx => ?_, fun x hx => ?_⟩
    · rw [(m5 x (by omega)).1, (m5 x (by omega)).2]
      obtain ⟨c1, c2, c3⟩ := hc x hx
      refine ⟨c1, c2, fun h8 => ?_⟩
      obtain ⟨w, q, w1, w2, w3, w4, w5⟩ := c3 h8
      refine ⟨w, q, w1, w2, w3, w4, fun j hj => ?_⟩
      rw [m6 x (by omega) j (by omega)]
      exact w5 j hj
    · rw [hf x]
      exact hg x hx
  · unfold zTrm at T ⊢
    rw [hf 5, hf 3]
    obtain ⟨z, l', w, t1, t2, t3, t4⟩ := T
    refine ⟨z, l', w, t1, t2, t3, fun x hx => ?_⟩
    rw [(m5 x (by omega)).1, (m5 x (by omega)).2]
    exact t4 x hx
end
section
variable {L i : Nat} {xs : Nat → Int32} {I : zI} {J : zJ} {P : zP} {N : Nat → Nat} {n z : Nat} {a b c : Int32}
theorem fin3a {I1 I3 : zI} {J1 J3 : zJ} (hI : zInv L xs i (I, J, P, N, n, z)) (E : zNs (zu I 11 9 0) J I1 J1) (F : zRz I1 J1 I3 J3) : zInv L xs (i + 4) (I3, J3, zu P 424 7 (some 239), N, n, z) := by
  obtain ⟨⟨s1, s2, s3⟩, hS, ⟨k1, k2⟩, ⟨r1, r2, r3⟩, t, m, e, h, u, s, d, g, f, V, Su, T, La, O, W, S, C, G⟩ := hI
  have cI : ∀ c, c ≠ 11 → c ≠ 424 → c ≠ 463 → c ≠ 528 → c ≠ 560 → c ≠ 592 → c ≠ 624 → c ≠ 3118 → ¬ (4301 ≤ c ∧ c < 4900) → I3 c = I c := fun c h0 h1 h2 h3 h4 h5 h6 h7 h8 => by
    rw [F.1 c h7 h8, E.1 c h1 h2 h3 h4 h5 h6, zuR_ne h0]
  have cJ : ∀ c, c ≠ 424 → c ≠ 497 → c ≠ 4401 → J3 c = J c := fun c h1 h2 h3 => by rw [F.2.1 c h3, E.2 c h1 h2]
  have c11 : ∀ j, j ≠ 9 → I3 11 j = I 11 j := fun j hj => by
    rw [F.1 11 (by decide) (by omega), E.1 11 (by decide) (by decide) (by decide) (by decide) (by decide) (by decide), zu_nj hj]
  have c119 : I3 11 9 = 0 := by
    rw [F.1 11 (by decide) (by omega), E.1 11 (by decide) (by decide) (by decide) (by decide) (by decide) (by decide), zu_at]
  have c31 : ∀ j, j ≠ 2 → j ≠ 63 → I3 3118 j = I 3118 j := fun j h1 h2 => by
    rw [F.2.2.1 j h1 h2, E.1 3118 (by decide) (by decide) (by decide) (by decide) (by decide) (by decide), zuR_ne (by decide)]
  have M : zMr I J I3 J3 := by
    intro a ha
    unfold zKm at ha
    exact ⟨cI a (by omega) (by omega) (by omega) (by omega) (by omega) (by omega) (by omega) (by omega) (by omega), cJ a (by omega) (by omega) (by omega)⟩
  have H : zSb I J P N I3 J3 (zu P 424 7 (some 239)) N := ⟨fun a ha => ⟨cI a (by omega) (by omega) (by omega) (by omega) (by omega) (by omega) (by omega) (by omega) (by omega), cJ a (by omega) (by omega) (by omega), zuR_ne (by omega), rfl⟩, zuR_ne (by decide), zuR_ne (by decide)⟩
  have hS' : zStat (zu P 424 7 (some 239)) N := zStat_c hS (fun a j h1 h2 h3 h4 => by unfold zu; rw [if_neg h4]) (fun _ _ _ => rfl)
  have e2115 := cI 2115 (by decide) (by decide) (by decide) (by decide) (by decide) (by decide) (by decide) (by decide) (by omega)
  refine ⟨⟨s1, fun j => ?_, s3⟩, hS', ⟨?_, k2⟩, ⟨r1, by omega, by omega⟩, 0, m, e, h, u, s, d, g, f, ?_, zSum_cm ?_ ?_ ?_ ?_ ?_ ?_ (cJ 3697 (by decide) (by decide) (by decide)) (M 3728 (by unfold zKm; omega)).1 (M 3760 (by unfold zKm; omega)).1 (by omega) Su, fun j hj => by omega, zLat_cm ?_ (fun j hj => ?_) La, zOuts_m (zMr_o M) (zOuts_c H (Nat.le_refl n) O), zWfO_m (zMr_o M) W, zScs_m (zMr_o M) (zScs_c H (Nat.le_refl n) S), zCon_m (zMr_o M) (cJ 3697 (by decide) (by decide) (by decide)) C, zBeg_m (c31 13 (by decide) (by decide)) (cJ 3697 (by decide) (by decide) (by decide)) (M 3664 (by unfold zKm; omega)).1 G⟩
  · show I3 22 j = xs j
    rw [cI 22 (by decide) (by decide) (by decide) (by decide) (by decide) (by decide) (by decide) (by decide) (by omega)]
    exact s2 j
  · rw [cI 54 (by decide) (by decide) (by decide) (by decide) (by decide) (by decide) (by decide) (by decide) (by omega)]
    exact k1
  · obtain ⟨⟨v0, v1, v2, v3, v4, v5, v6⟩, ⟨w0, w1, w2, w3, w4, w5, w6⟩, hb, x⟩ := V
    unfold zVal
    rw [c119, e2115, c11 8 (by decide), c11 10 (by decide), c11 11 (by decide), F.2.2.2, c31 11 (by decide) (by decide), c31 12 (by decide) (by decide), c31 23 (by decide) (by decide), c31 24 (by decide) (by decide), c31 3 (by decide) (by decide), c31 0 (by decide) (by decide), c31 13 (by decide) (by decide), c31 28 (by decide) (by decide), cJ 11 (by decide) (by decide) (by decide), cJ 3118 (by decide) (by decide) (by decide)]
    exact ⟨⟨rfl, v1, v2, v3, v4, v5, v6⟩, ⟨rfl, w1, w2, w3, w4, w5, w6⟩, ⟨by omega, hb.2⟩, x⟩
  · rw [cJ 2115 (by decide) (by decide) (by decide)]
  · rw [e2115]
  · rw [e2115]
  · rw [cJ 2193 (by decide) (by decide) (by decide)]
  · rw [cI 2224 (by decide) (by decide) (by decide) (by decide) (by decide) (by decide) (by decide) (by decide) (by omega)]
  · rw [cI 2256 (by decide) (by decide) (by decide) (by decide) (by decide) (by decide) (by decide) (by decide) (by omega)]
  · rw [cI 3088 (by decide) (by decide) (by decide) (by decide) (by decide) (by decide) (by decide) (by decide) (by omega)]
  · exact c31 (30 + j) (by omega) (by omega)
/-- the cells of scripts, one more -/
def zF3 (f : Nat → Nat → Nat) (n s k t : Nat) : Nat → Nat → Nat := fun x j => if j = s then (if x < 5 then n + x else if x = 5 then k else t) else f x j
set_option maxHeartbeats 4000000 in
theorem fin3b {t m e h u s d k a' dm : Nat} {g f : Nat → Nat → Nat} {K S zz ll ww : Nat → Nat} {V : Nat → Int64} {I1 I2 I4 : zI} {J1 J2 J4 : zJ} {P2 : zP} {N2 : Nat → Nat} (hs : zScr L xs (I, J, P, N, n, z)) (hS : zStat P N) (hk : I 54 = zTK0 ∧ N 54 = 32) (hr : 201 ≤ n ∧ n + N 31 ≤ 201 + 12 * i ∧ z ≤ 1542900 + 1200 * i) (X : zAll I J P N I J n i t m e h u s d g f)
    (hk9 : k ≤ 190) (hs3 : s < 32) (E : zNs (zu I 11 9 0) J I1 J1) (R : zRl I1 J1 t (k, a', dm, [], K, V, S)) (Tt : zTt t k dm K V S zz ll ww) (T : zTc I1 J1 (zu P 424 7 (some 239)) N n k t (nI dm) I2 J2 P2 N2) (F : zRg (zu I2 11 8 (nI (s + 1))) J2 I4 J4 t s k dm K V S) :
    zInv L xs (i + 4) (I4, J4, zu P2 3061 s (some (32 * n + 7)), N2, n + 5, z + 7 + k + k + k + t) := by
  obtain ⟨s1, s2, s3⟩ := hs
  obtain ⟨k1, k2⟩ := hk
  obtain ⟨r1, r2, r3⟩ := hr
  obtain ⟨Va, Su, Ta, La, O, W, Sc, C, G⟩ := X
  obtain ⟨⟨v0, v1, v2, v3, v4, v5, v6⟩, ⟨w0, w1, w2, w3, w4, w5, w6⟩, hb, x⟩ := Va
  obtain ⟨⟨F1, F2, F3, F4, F5⟩, ⟨F6, F7, F8, F9⟩, ⟨F10, F11⟩, F12⟩ := F
  obtain ⟨T1, ⟨T2, T3, T4, T5⟩, ⟨T6, T7, T8⟩, ⟨T9, T10, T11, T12⟩, T13, T14⟩ := T
  obtain ⟨⟨tt1, tt2, tt3, tt4, tt5⟩, tt6, tt7⟩ := Tt
  have R7 : ∀ j, j < k → I1 463 j = nI (K j) ∧ J1 497 j = V j ∧ I1 528 j = nI (S j) := R.2
  have bI : ∀ c, c ≠ 11 → c ≠ 424 → c ≠ 463 → c ≠ 528 → c ≠ 560 → c ≠ 592 → c ≠ 624 → c < 32 * n → zu I2 11 8 (nI (s + 1)) c = I c := fun c h0 h1 h2 h3 h4 h5 h6 h7 => by
    rw [zuR_ne h0, (T1 c h7).1, E.1 c h1 h2 h3 h4 h5 h6, zuR_ne h0]
  have bJ : ∀ c, c ≠ 424 → c ≠ 497 → c < 32 * n → J2 c = J c := fun c h1 h2 h3 => by rw [(T1 c h3).2.1, E.2 c h1 h2]
  have cI : ∀ c, c ≠ 11 → c ≠ 424 → c ≠ 463 → c ≠ 528 → c ≠ 560 → c ≠ 592 → c ≠ 624 → c ≠ 3118 → c ≠ 3184 → c ≠ 3216 → c ≠ 3248 → c ≠ 3312 → c ≠ 3375 → ¬ (4301 ≤ c ∧ c < 4900) → c < 32 * n → I4 c = I c := fun c h0 h1 h2 h3 h4 h5 h6 h7 h8 h9 h10 h11 h12 h13 h14 => by
    rw [F1 c h7 h8 h9 h10 h11 h12 h13]
    exact bI c h0 h1 h2 h3 h4 h5 h6 h14
  have cJ : ∀ c, c ≠ 424 → c ≠ 497 → c ≠ 4401 → c ≠ 3345 → c < 32 * n → J4 c = J c := fun c h1 h2 h3 h4 h5 => by rw [F2 c h4 h3]; exact bJ c h1 h2 h5
  have dI : ∀ c, 32 * n ≤ c → I4 c = I2 c := fun c hc => by rw [F1 c (by omega) (by omega) (by omega) (by omega) (by omega) (by omega) (by omega), zuR_ne (by omega)]
  have dJ : ∀ c, 32 * n ≤ c → J4 c = J2 c := fun c hc => F2 c (by omega) (by omega)
  have cP : ∀ c, c ≠ 424 → c ≠ 3061 → c < 32 * n → zu P2 3061 s (some (32 * n + 7)) c = P c := fun c h1 h2 h3 => by rw [zuR_ne h2, (T1 c h3).2.2.1, zuR_ne h1]
  have cP3 : ∀ j, j ≠ s → zu P2 3061 s (some (32 * n + 7)) 3061 j = P 3061 j := fun j hj => by rw [zu_nj hj, (T1 3061 (by omega)).2.2.1, zuR_ne (by decide)]
  have cN : ∀ c, c < 32 * n → N2 c = N c := fun c hc => (T1 c hc).2.2.2
  have c11 : ∀ j, j ≠ 8 → j ≠ 9 → I4 11 j = I 11 j := fun j h8 h9 => by
    rw [F1 11 (by decide) (by decide) (by decide) (by decide) (by decide) (by decide) (by omega), zu_nj h8, (T1 11 (by omega)).1, E.1 11 (by decide) (by decide) (by decide) (by decide) (by decide) (by decide), zu_nj h9]
  have c119 : I4 11 9 = 0 := by
    rw [F1 11 (by decide) (by decide) (by decide) (by decide) (by decide) (by decide) (by omega), zu_nj (by decide), (T1 11 (by omega)).1, E.1 11 (by decide) (by decide) (by decide) (by decide) (by decide) (by decide), zu_at]
  have c118 : I4 11 8 = nI (s + 1) := by
    rw [F1 11 (by decide) (by decide) (by decide) (by decide) (by decide) (by decide) (by omega), zu_at]
  have c31 : ∀ j, j ≠ 2 → j ≠ 3 → j ≠ 63 → I4 3118 j = I 3118 j := fun j h1 h2 h3 => by
    rw [F3 j h1 h2 h3, bI 3118 (by decide) (by decide) (by decide) (by decide) (by decide) (by decide) (by decide) (by omega)]
  have H : zSg n I J P N I4 J4 (zu P2 3061 s (some (32 * n + 7))) N2 := fun a h1 h2 => by
    have e1 := cI a (by omega) (by omega) (by omega) (by omega) (by omega) (by omega) (by omega) (by omega) (by omega) (by omega) (by omega) (by omega) (by omega) (by omega) h2
    exact ⟨fun _ => e1, fun j _ => by rw [e1], cJ a (by omega) (by omega) (by omega) (by omega) h2, cP a (by omega) (by omega) h2, cN a h2⟩
  have hS' : zStat (zu P2 3061 s (some (32 * n + 7))) N2 := zStat_c hS (fun a j h1 h2 h3 h4 => by
    rw [zuR_ne h3, (T1 a (by omega)).2.2.1]
    unfold zu
    rw [if_neg h4]) (fun a _ h2 => cN a (by omega))
  have e2115 := cI 2115 (by decide) (by decide) (by decide) (by decide) (by decide) (by decide) (by decide) (by decide) (by decide) (by decide) (by decide) (by decide) (by decide) (by omega) (by omega)
  have rw' : ∀ a, a = 3151 ∨ a = 3280 ∨ a = 3408 ∨ a = 3440 ∨ a = 3472 ∨ a = 3567 ∨ a = 3600 ∨ a = 3632 ∨ a = 3664 ∨ a = 3728 ∨ a = 3760 ∨ a = 2224 ∨ a = 2256 ∨ a = 3088 ∨ a = 22 ∨ a = 54 → I4 a = I a := fun a ha => cI a (by omega) (by omega) (by omega) (by omega) (by omega) (by omega) (by omega) (by omega) (by omega) (by omega) (by omega) (by omega) (by omega) (by omega) (by omega)
  have rj' : ∀ a, a = 3505 ∨ a = 3537 ∨ a = 3697 ∨ a = 2193 ∨ a = 2115 ∨ a = 11 ∨ a = 3118 → J4 a = J a := fun a ha => cJ a (by omega) (by omega) (by omega) (by omega) (by omega)
  -- rows of scripts
  have b31 : zu I2 11 8 (nI (s + 1)) 3312 = I 3312 ∧ zu I2 11 8 (nI (s + 1)) 3375 = I 3375 ∧ zu I2 11 8 (nI (s + 1)) 3184 = I 3184 ∧ zu I2 11 8 (nI (s + 1)) 3216 = I 3216 ∧ zu I2 11 8 (nI (s + 1)) 3248 = I 3248 ∧ zu I2 11 8 (nI (s + 1)) 3151 = I 3151 := ⟨bI _ (by decide) (by decide) (by decide) (by decide) (by decide) (by decide) (by decide) (by omega), bI _ (by decide) (by decide) (by decide) (by decide) (by decide) (by decide) (by decide) (by omega), bI _ (by decide) (by decide) (by decide) (by decide) (by decide) (by decide) (by decide) (by omega), bI _ (by decide) (by decide) (by decide) (by decide) (by decide) (by decide) (by decide) (by omega), bI _ (by decide) (by decide) (by decide) (by decide) (by decide) (by decide) (by decide) (by omega), bI _ (by decide) (by decide) (by decide) (by decide) (by decide) (by decide) (by decide) (by omega)⟩
  have b3345 : J2 3345 = J 3345 := bJ 3345 (by decide) (by decide) (by omega)
  have Mk : ∀ q, q < s → zMk I J I4 J4 q := fun q hq => by
    refine ⟨⟨?_, ?_, ?_, ?_⟩, fun x hx => ?_, fun x hx j hj => ?_⟩
    · rw [(F6 q (by omega)).1, b31.2.2.1]
    · rw [(F6 q (by omega)).2.1, b31.2.2.2.1]
    · rw [(F6 q (by omega)).2.2, b31.2.2.2.2.1]
    · rw [rw' 3280 (by omega)]
    · rw [(F10 (190 * q + x) (by omega)).1, (F10 (190 * q + x) (by omega)).2, b31.1, b3345]
      exact ⟨rfl, rfl⟩
    · rw [F11 (64 * (190 * q + x) + j) (by omega), b31.2.1]
  have g0 : ∀ x, x < 5 → zF3 f n s k t x s = n + x := fun x hx => by unfold zF3; rw [if_pos rfl, if_pos hx]
  have g5 : zF3 f n s k t 5 s = k := by unfold zF3; rw [if_pos rfl, if_neg (by omega), if_pos rfl]
  have g6 : zF3 f n s k t 6 s = t := by unfold zF3; rw [if_pos rfl, if_neg (by omega), if_neg (by omega)]
  have gq : ∀ x q, q ≠ s → zF3 f n s k t x q = f x q := fun x q hq => by unfold zF3; rw [if_neg hq]
  have o239 : ∀ j, j < t → I1 239 j = I 3151 j := fun j hj => by
    rw [E.1 239 (by decide) (by decide) (by decide) (by decide) (by decide) (by decide), zuR_ne (by decide)]
    exact (Ta j hj).1
  have row : ∀ x, x < k → I4 (32 * (n + 1) + 15) x = I4 3312 (190 * s + x) ∧ J4 (32 * (n + 2) + 17) x = J4 3345 (190 * s + x) ∧ I4 3312 (190 * s + x) = nI (K x) ∧ J4 3345 (190 * s + x) = V x ∧ I4 (32 * (n + 3) + 16) x = nI (S x) := fun x hx => by
    obtain ⟨q1, q2, q3⟩ := F12 x hx
    obtain ⟨q4, q5, q6⟩ := T13 x hx
    obtain ⟨q7, q8, q9⟩ := R7 x hx
    refine ⟨?_, ?_, q1, q2, ?_⟩
    · rw [dI _ (by omega), q4, q7, q1]
    · rw [dJ _ (by omega), q5, q8, q2]
    · rw [dI _ (by omega), q6, q9]
  have new : zS1 I4 J4 (zu P2 3061 s (some (32 * n + 7))) N2 I4 J4 (zF3 f n s k t) (n + 5) s ∧ zTrm I4 I4 J4 (zF3 f n s k t) s := by
    constructor
    · unfold zS1
      rw [g0 0 (by omega), g0 1 (by omega), g0 2 (by omega), g0 3 (by omega), g0 4 (by omega), g5, g6]
      refine ⟨⟨zu_at, ?_, ?_, ?_, ?_⟩, ⟨?_, F7, ?_, F9, ?_⟩, ⟨T9, T10, T11, T12⟩, ⟨by omega, by omega, hb.1⟩, fun x hx => ?_, fun x hx => ?_⟩
      · rw [zuR_ne (by omega)]; exact T2
      · rw [zuR_ne (by omega)]; exact T3
      · rw [zuR_ne (by omega)]; exact T4
      · rw [zuR_ne (by omega)]; exact T5
      · rw [dI _ (by omega)]; exact T6
      · rw [dI _ (by omega), F8]; exact T7
      · rw [dI _ (by omega), rw' 3280 (by omega), Sc.2.2 s (by omega)]; exact T8
      · obtain ⟨q1, q2, q3, q4, q5⟩ := row x hx
        refine ⟨q1, q2, fun h8 => ?_⟩
        obtain ⟨-, -, nd⟩ := tt6 x hx
        have hK : K x = 8 := by
          rw [q3, wI_eqc (c := 8) (hi := by have := nd.1.2.2.2; omega)] at h8
          exact h8
        obtain ⟨y, y1, y2, y3⟩ := nd.2.2.2.2.2.2.2.2.2 hK
        refine ⟨y, S x, y1, q4.trans y2, q5, y3, fun j hj => ?_⟩
        rw [dI _ (by omega), T14 _ (by omega), o239 _ (by omega), (F12 x hx).2.2 hK y y1 y2 j hj, b31.2.2.2.2.2]
        exact ⟨rfl, (Ta (S x + j) (by omega)).2⟩
      · rw [g0 x hx]
        omega
    · unfold zTrm
      rw [g5, g0 3 (by omega)]
      refine ⟨zz, ll, ww, tt3, tt4, tt5, fun x hx => ?_⟩
      obtain ⟨q1, q2, q3, q4, q5⟩ := row x hx
      obtain ⟨u1, -, ⟨n1, n2, n3, n4⟩, n5, n6, n7, n8, n9, n10, n11, n12, n13⟩ := tt6 x hx
      rw [q3, q4, q5]
      refine ⟨n1, u1, n2, n3, K x, n4, rfl, n5, fun h1 => ?_, fun h1 => ?_, fun h1 => ?_, n9, n10, n11, n12⟩
      · exact n6 h1
      · exact n7 h1
      · obtain ⟨y1, y2, y3, y4, y5, y6, y7, y8, y9⟩ := n8 h1
        exact ⟨y1, y2, y3, y4, y5, y6, y7, y8, by rw [y9]⟩
  refine ⟨⟨?_, fun j => ?_, ?_⟩, hS', ⟨?_, ?_⟩, ⟨by omega, ?_, by omega⟩, 0, m, e, h, u, s + 1, d, g, zF3 f n s k t, ⟨⟨c119, ?_, ?_, ?_, ?_, c118, ?_⟩, ⟨F4, ?_, ?_, ?_, ?_, F5, ?_⟩, ⟨by omega, hb.2.1, hb.2.2.1, hb.2.2.2.1, hb.2.2.2.2.1, hb.2.2.2.2.2.1, hb.2.2.2.2.2.2.1, by omega⟩, ?_⟩, zSum_cm ?_ ?_ ?_ ?_ ?_ ?_ (rj' 3697 (by omega)) (rw' 3728 (by omega)) (rw' 3760 (by omega)) (by omega) Su, fun j hj => by omega, zLat_cm (rw' 3088 (by omega)) (fun j hj => c31 (30 + j) (by omega) (by omega) (by omega)) La, ⟨fun q hq => ?_, O.2⟩, ?_, ⟨fun q hq => ?_, fun p q h1 h2 => ?_, fun q hq => ?_⟩, ?_, zBeg_m (c31 13 (by decide) (by decide) (by decide)) (rj' 3697 (by omega)) (rw' 3664 (by omega)) G⟩
  · exact (cN 22 (by omega)).trans s1
  · show I4 22 j = xs j
    rw [rw' 22 (by omega)]
    exact s2 j
  · exact (cN 6417 (by omega)).trans s3
  · rw [rw' 54 (by omega)]; exact k1
  · rw [cN 54 (by omega)]; exact k2
  · rw [cN 31 (by omega)]; omega
  · rw [e2115]; exact v1
  · rw [e2115]; exact v2
  · rw [e2115]; exact v3
  · rw [e2115]; exact v4
  · rw [e2115]; exact v6
  · rw [c31 11 (by decide) (by decide) (by decide)]; exact w1
  · rw [c31 12 (by decide) (by decide) (by decide)]; exact w2
  · rw [c31 23 (by decide) (by decide) (by decide)]; exact w3
  · rw [c31 24 (by decide) (by decide) (by decide)]; exact w4
  · rw [c31 0 (by decide) (by decide) (by decide)]; exact w6
  · rw [c11 10 (by decide) (by decide), c11 11 (by decide) (by decide), c31 13 (by decide) (by decide) (by decide), c31 28 (by decide) (by decide) (by decide), rj' 11 (by omega), rj' 3118 (by omega)]; exact x
  · rw [rj' 2115 (by omega)]
  · rw [e2115]
  · rw [e2115]
  · rw [rj' 2193 (by omega)]
  · rw [rw' 2224 (by omega)]
  · rw [rw' 2256 (by omega)]
  · have g9 := (O.1 q hq).2.2.2.2.2.2.2 0 (by decide)
    refine zO1_g H ⟨⟨by rw [rw' 3408 (by omega)], by rw [rw' 3632 (by omega)], by rw [rw' 3440 (by omega)], by rw [rw' 3600 (by omega)]⟩, fun j hj => ⟨by rw [rw' 3472 (by omega)], by rw [rj' 3505 (by omega)], by rw [rj' 3537 (by omega)]⟩, fun j hj => by rw [rw' 3567 (by omega)]⟩ (fun _ _ => rfl) (by omega) (by rw [cP 2164 (by decide) (by decide) (by omega)]) ?_ (O.1 q hq)
    rw [rw' 3664 (by omega), cI (32 * g 0 q + 6) (by omega) (by omega) (by omega) (by omega) (by omega) (by omega) (by omega) (by omega) (by omega) (by omega) (by omega) (by omega) (by omega) (by omega) (by omega)]
    exact (O.1 q hq).2.1.2.2.1
  · have W' := zWfO_s (s' := s + 1) (by omega) W
    unfold zWfO
    rw [rw' 3408 (by omega), rw' 3632 (by omega), rw' 3664 (by omega), rw' 3472 (by omega), rw' 3567 (by omega), rj' 3505 (by omega), rj' 3537 (by omega)]
    exact W'
  · by_cases hqs : q = s
    · subst hqs
      exact new
    · exact zS1_k (fun x => gq x q hqs) (Mk q (by omega)) (zS1_g H (by omega) (cP3 q hqs) (Sc.1 q (by omega)))
  · by_cases hqs : q = s
    · subst hqs
      rw [g0 0 (by omega), gq 0 p (by omega)]
      have := ((Sc.1 p h1).1.2.2.2.2.2 0 (by decide)).2
      omega
    · rw [gq 0 p (by omega), gq 0 q hqs]
      exact Sc.2.1 p q h1 (by omega)
  · rw [rw' 3280 (by omega)]
    exact Sc.2.2 q (by omega)
  · unfold zCon
    rw [rj' 3697 (by omega)]
    refine ⟨C.1, fun t ht p x => ?_⟩
    rw [zTot_m (rw' 3632 (by omega)) (rw' 3664 (by omega)) (rw' 3472 (by omega)) (rj' 3505 (by omega)) (rj' 3537 (by omega)), zPts_m (rj' 3697 (by omega))]
    exact C.2 t ht p x
set_option maxRecDepth 20000 in
set_option maxHeartbeats 4000000 in
theorem c_3 (hI : zInv L xs i (I, J, P, N, n, z)) : zCall 3 a b c L xs (I, J, P, N, n, z) (zInv L xs (i + 4)) := by
  obtain ⟨hs, hS, hk, hr, t, m, e, h, u, s, d, g, f, X⟩ := id hI
  have V := X.1
  have Ta := X.2.2.1
  have ht := V.2.2.1.1
  have hs32 : s ≤ 32 := V.2.2.1.2.2.2.2.2.2.2
  show zTwoI _ _ _ _ _ _ _
  refine zC_of (fun Q hQ => ?_)
  refine e160 (t := t) (s := s) (B := fun j => zby' (I 239 j)) rfl hS hr.1 ht V.1.1 V.1.2.2.2.2.2.1 hs32 (fun I1 J1 nk E => hQ _ _ ⟨_, rfl, ⟨hs.1, fun j => ?_, hs.2.2⟩, ?_⟩) (fun ok I1 J1 I2 J2 P2 N2 E R hW hdm T => hQ _ _ ⟨_, rfl, ⟨?_, fun j => ?_, ?_⟩, ?_⟩)
  · show I1 22 j = xs j
    rw [E.1 22 (by decide) (by decide) (by decide) (by decide) (by decide) (by decide), zuR_ne (by decide)]
    exact hs.2.1 j
  · have e3118 : I1 3118 = I 3118 := by rw [E.1 3118 (by decide) (by decide) (by decide) (by decide) (by decide) (by decide), zuR_ne (by decide)]
    have e3151 : I1 3151 = I 3151 := by rw [E.1 3151 (by decide) (by decide) (by decide) (by decide) (by decide) (by decide), zuR_ne (by decide)]
    refine zC_of (fun Q hQ => ?_)
    refine e256 (t := t) (s := s) (B := fun j => zby' (I 239 j)) (zStat_c hS (fun a j h1 h2 h3 h4 => by unfold zu; rw [if_neg h4]) (fun _ _ _ => rfl)) ht (by rw [e3118]; exact V.2.1.1) (by rw [e3118]; exact V.2.1.2.2.2.2.2.1) hs32 (fun j hj => by rw [e3151]; exact (Ta j hj).2) (fun j hj => by rw [e3151, (Ta j hj).1]) (fun I3 J3 _ F => hQ _ _ ⟨rfl, fin3a hI E F⟩) (fun ok => absurd ok nk)
  · exact ((T.1 22 (by have := hr.1; omega)).2.2.2).trans hs.1
  · show zu I2 11 8 (nI (s + 1)) 22 j = xs j
    rw [zuR_ne (by decide), (T.1 22 (by have := hr.1; omega)).1, E.1 22 (by decide) (by decide) (by decide) (by decide) (by decide) (by decide), zuR_ne (by decide)]
    exact hs.2.1 j
  · exact ((T.1 6417 (by have := hr.1; omega)).2.2.2).trans hs.2.2
  · have r1 := hr.1
    have bI : ∀ c, c ≠ 11 → c ≠ 424 → c ≠ 463 → c ≠ 528 → c ≠ 560 → c ≠ 592 → c ≠ 624 → c < 6432 → zu I2 11 8 (nI (s + 1)) c = I c := fun c h0 h1 h2 h3 h4 h5 h6 h7 => by
      rw [zuR_ne h0, (T.1 c (by omega)).1, E.1 c h1 h2 h3 h4 h5 h6, zuR_ne h0]
    have e3118 := bI 3118 (by decide) (by decide) (by decide) (by decide) (by decide) (by decide) (by decide) (by decide)
    have e3151 := bI 3151 (by decide) (by decide) (by decide) (by decide) (by decide) (by decide) (by decide) (by decide)
    have hS' : zStat (zu P2 3061 s (some (32 * n + 7))) N2 := zStat_c hS (fun a j h1 h2 h3 h4 => by
      rw [zuR_ne h3, (T.1 a (by omega)).2.2.1]
      unfold zu
      rw [if_neg h4]) (fun a _ h2 => (T.1 a (by omega)).2.2.2)
    obtain ⟨tt0, zz, ll, ww, Tt⟩ := zTm_t ok.1
    obtain ⟨o1, o2, o3, o4⟩ := id ok
    refine zC_of (fun Q hQ => ?_)
    refine e256 (t := t) (s := s) (B := fun j => zby' (I 239 j)) hS' ht (by rw [e3118]; exact V.2.1.1) (by rw [e3118]; exact V.2.1.2.2.2.2.2.1) hs32 (fun j hj => by rw [e3151]; exact (Ta j hj).2) (fun j hj => by rw [e3151, (Ta j hj).1]) (fun _ _ nk => absurd ok nk) (fun _ I4 J4 F => hQ _ _ ⟨rfl, ?_⟩)
    generalize zTm (fun j => zby' (I 239 j)) t = RR at R hW hdm T Tt o1 o2 o3 F
    obtain ⟨ff, kk, aa, dm, W, K, Vv, S⟩ := RR
    dsimp only at R hW hdm T Tt o1 o2 o3 F
    subst hW
    exact fin3b (k := kk) (s := s) hs hS hk hr X (by omega) (by omega) E R Tt T F
end
