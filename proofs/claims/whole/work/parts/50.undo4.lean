/-! undoBlocks, between two invariants -/
section
variable {L i : Nat} {xs : Nat → Int32} {I : zI} {J : zJ} {P : zP} {N : Nat → Nat} {n z m e h r u s t d : Nat} {g f : Nat → Nat → Nat} {a b c : Int32} {Q : Option Value → zS → Prop}
theorem zUn_made {h' : Nat} (hh : h < 2 ^ 31) (hh' : h' ≤ h) (W : zWfO I J g m e h s) : ∀ q k, e ≤ k → k + 1 + q = zUn (I 3632) e h' m → ∃ x, x < h' ∧ I 3632 k = nI x := by
  have hle := zUn_le (ma := I 3632) (e := e) (h := h') m
  intro q
  induction q with
  | zero =>
    intro k he hk
    have h1 := zUn_last (ma := I 3632) (e := e) (h := h') m k (by omega) he
    obtain ⟨⟨x, hx, e1⟩, -⟩ := W k (by omega)
    rw [e1, wI_le (by omega) (by omega)] at h1
    exact ⟨x, by omega, e1⟩
  | succ q ih =>
    intro k he hk
    obtain ⟨y, hy, e2⟩ := ih (k + 1) (by omega) (by omega)
    obtain ⟨⟨x, hx, e1⟩, -, -, -, -, mo, -⟩ := W k (by omega)
    have := mo (by omega) he x y e1 e2 (by omega) (by omega)
    exact ⟨x, by omega, e1⟩
theorem zsp_wf {h' : Nat} {y : Int32} (hh : h < 2 ^ 31) (hh' : h' ≤ h) (hy : y = -1 ∨ ∃ x, x ≤ h ∧ y = nI x) : (zsp h' y = -1 ∨ ∃ x, x ≤ h' ∧ zsp h' y = nI x) ∧ (∀ t : Int, t ≤ h' → ((zsp h' y).toInt < 0 ∨ t ≤ (zsp h' y).toInt ↔ y.toInt < 0 ∨ t ≤ y.toInt)) ∧ ((zsp h' y).toInt < 0 ∨ (h' : Int) + 1 ≤ (zsp h' y).toInt ↔ y.toInt < 0 ∨ (h' : Int) ≤ y.toInt) := by
  unfold zsp
  rcases hy with rfl | ⟨x, hx, rfl⟩
  · rw [if_neg (by rw [Int32.le_iff_toInt_le, nI_toInt (by omega), wn_toInt]; omega), wn_toInt]
    exact ⟨Or.inl rfl, fun t _ => Iff.rfl, by omega⟩
  · rw [nI_toInt (n := x) (by omega)]
    by_cases hx2 : h' ≤ x
    · rw [if_pos (by rw [wI_le (by omega) (by omega)]; exact hx2), wn_toInt]
      exact ⟨Or.inl rfl, fun t ht => by omega, by omega⟩
    · rw [if_neg (by rw [wI_le (by omega) (by omega)]; exact hx2), nI_toInt (by omega)]
      exact ⟨Or.inr ⟨x, by omega, rfl⟩, fun t _ => Iff.rfl, by omega⟩
set_option maxRecDepth 20000 in
set_option maxHeartbeats 4000000 in
theorem fin6 {I1 I2 : zI} {J1 J2 : zJ} {P1 : zP} {m' h' u' : Nat} (hi : i < 4190) (hs : zScr L xs (I, J, P, N, n, z)) (hS : zStat P N) (hk : I 54 = zTK0 ∧ N 54 = 32) (hr : 201 ≤ n ∧ n + N 31 ≤ 201 + 12 * i ∧ z ≤ 1542900 + 1200 * i) (X : zAll I J P N I J n i t m e h u s d g f)
    (hru : r ≤ u) (em : m' = zUn (I 3632) e h' m) (eh : h' = h - r) (eu : u' = u - r) (U : zUc I J P g m m' h' u' I1 J1 P1) (F : zUm I1 J1 m' h h' u' I2 J2) : zInv L xs (i + 4) (I2, J2, P1, N, n, z) := by
  obtain ⟨s1, s2, s3⟩ := hs
  obtain ⟨k1, k2⟩ := hk
  obtain ⟨r1, r2, r3⟩ := hr
  obtain ⟨⟨⟨v0, v1, v2, v3, v4, v5, v6⟩, ⟨w0, w1, w2, w3, w4, w5, w6⟩, ⟨b1, b2, b3, b4, b5, b6, b7, b8⟩, ⟨x1, x2, x3, x4⟩⟩, ⟨ap, tk, y1, y2, y3, y4, y5, y6, y7, y8⟩, T, La, O, W, S, C, G⟩ := X
  obtain ⟨u1, ⟨u2, u3, u4, u5, u6, u7, u8, u9⟩, u10, u11, u12, u13⟩ := U
  obtain ⟨f1, ⟨f2, f3, f4, f5⟩, f6, f7, f8⟩ := F
  have hle : m' ≤ m := by rw [em]; exact zUn_le m
  have hge : e ≤ m' := by rw [em]; exact zUn_ge m b3
  have gO : ∀ k, k < m → 201 ≤ g 0 k ∧ g 0 k < n := fun k hk => (O.1 k hk).2.2.2.2.2.2.2 0 (by decide)
  have sI : ∀ a j, a < 6432 → a ≠ 2115 → ¬ (a = 11 ∧ j = 10) → I1 a j = I a j := fun a j h1 h2 h3 => u1 a j h2 h3 (fun k hk => by have := gO k (by omega); omega)
  have cI : ∀ a, a < 6432 → a ≠ 2115 → a ≠ 11 → a ≠ 3664 → a ≠ 3728 → a ≠ 3760 → a ≠ 3118 → I2 a = I a := fun a h1 h2 h3 h4 h5 h6 h7 => by
    funext j
    rw [f1 a j (by omega) (by omega) (by omega), sI a j h1 h2 (by omega)]
  have e11 : ∀ j, j ≠ 10 → I2 11 j = I 11 j := fun j hj => by rw [f1 11 j (by omega) (by omega) (by omega), sI 11 j (by decide) (by decide) (by omega)]
  have e11' : I2 11 10 = 1 := by rw [f1 11 10 (by omega) (by omega) (by omega)]; exact u2
  have e2115 : ∀ j, I2 2115 j = I1 2115 j := fun j => f1 2115 j (by omega) (by omega) (by omega)
  have m3118 : ∀ j, ¬ (j = 11 ∨ j = 13 ∨ j = 23 ∨ j = 24 ∨ j = 63) → I2 3118 j = I 3118 j := fun j hj => by rw [f1 3118 j (by omega) (by omega) (by omega), sI 3118 j (by decide) (by decide) (by omega)]
  have cJ : ∀ a, a ≠ 2115 → a ≠ 3697 → J2 a = J a := fun a h1 h2 => by
    funext j
    rw [f7 a j (by omega), u11 a j (by omega)]
  have J3697 : ∀ j, j < h' → J2 3697 j = J 3697 j := fun j hj => by rw [f7 3697 j (by omega), u11 3697 j (by omega)]
  have p3664 : ∀ k, k < m' → I2 3664 k = zsp h' (I 3664 k) := fun k hk => by rw [f6 k hk, sI 3664 k (by decide) (by decide) (by omega)]
  have H : zSg n I J P N I2 J2 P1 N := by
    intro a h1 h2
    have q0 : ∀ j, (∀ k, k < m' → ¬ (a = 32 * g 0 k + 6 ∧ j = 4)) → I2 a j = I a j := fun j hj => by rw [f1 a j (by omega) (by omega) (by omega), u1 a j (by omega) (by omega) hj]
    refine ⟨fun h3 => ?_, fun j hj => q0 j (fun k hk => by omega), cJ a (by omega) (by omega), ?_, rfl⟩
    · funext j
      exact q0 j (fun k hk => by omega)
    · funext j
      exact u13 a j (by omega)
  have hmd : ∀ k, e ≤ k → k < m' → ∃ x, x < h' ∧ I 3632 k = nI x := fun k h1 h2 => by
    rw [em] at h2
    exact zUn_made (by omega) (by omega) W (zUn (I 3632) e h' m - (k + 1)) k h1 (by omega)
  have r3632 := cI 3632 (by decide) (by decide) (by decide) (by decide) (by decide) (by decide) (by decide)
  have r3472 := cI 3472 (by decide) (by decide) (by decide) (by decide) (by decide) (by decide) (by decide)
  have r3505 := cJ 3505 (by decide) (by decide)
  have r3537 := cJ 3537 (by decide) (by decide)
  refine ⟨⟨s1, fun j => ?_, s3⟩, ?_, ⟨?_, k2⟩, ⟨r1, by omega, by omega⟩, t, m', e, h', u', s, d, g, f, ?_, ?_, ?_, ?_, ⟨fun k hk => ?_, fun a b h1 h2 => O.2 a b h1 (by omega)⟩, fun k hk => ?_, ?_, ⟨fun k hk => ?_, fun t' ht p x => ?_⟩, fun h0 => ?_⟩
  · show I2 22 j = xs j
    rw [cI 22 (by decide) (by decide) (by decide) (by decide) (by decide) (by decide) (by decide)]
    exact s2 j
  · exact zStat_c hS (fun a j h1 h2 _ _ => u13 a j (by omega)) (fun _ _ _ => rfl)
  · rw [cI 54 (by decide) (by decide) (by decide) (by decide) (by decide) (by decide) (by decide)]
    exact k1
  · unfold zVal
    rw [e11 9 (by decide), e2115, u3, e2115, u4, e2115, u5, e2115, u6, e11 8 (by decide), e2115, u7, m3118 2 (by decide), f2, m3118 12 (by decide), f4, f5, m3118 3 (by decide), m3118 0 (by decide), e11', f3, e11 11 (by decide), m3118 28 (by decide), cJ 11 (by decide) (by decide), cJ 3118 (by decide) (by decide)]
    exact ⟨⟨v0, rfl, v2, rfl, rfl, v5, v6⟩, ⟨w0, rfl, w2, rfl, rfl, w5, w6⟩, ⟨b1, by omega, hge, by omega, by omega, b6, b7, b8⟩, ⟨rfl, Or.inr rfl, x3, x4⟩⟩
  · have hJ : ∀ q, q ≤ h' → zsJ (J2 3697) q = zsJ (J 3697) q := fun q hq => zsJ_c q (fun k hk => J3697 k (by omega))
    have ha : ∀ q, q ≤ h' → zsN (fun k => if k < h' then ap k else 0) q = zsN ap q := fun q hq => zsN_c q (fun k hk => if_pos (by omega))
    have ht : ∀ q, q ≤ h' → zsN (fun k => if k < h' then tk k else 0) q = zsN tk q := fun q hq => zsN_c q (fun k hk => if_pos (by omega))
    have hJ' : zsJ (J2 3697) (h' + 1) = zsJ (J 3697) h' := by
      show zsJ (J2 3697) h' + J2 3697 h' = _
      rw [hJ h' (Nat.le_refl _), (f8 h' (Nat.le_refl _) (by omega)).2.2]
      exact Int64.add_zero _
    have ha' : zsN (fun k => if k < h' then ap k else 0) (h' + 1) = zsN ap h' := by
      show zsN (fun k => if k < h' then ap k else 0) h' + (if h' < h' then ap h' else 0) = _
      rw [ha h' (Nat.le_refl _), if_neg (by omega)]
      rfl
    have ht' : zsN (fun k => if k < h' then tk k else 0) (h' + 1) = zsN tk h' := by
      show zsN (fun k => if k < h' then tk k else 0) h' + (if h' < h' then tk h' else 0) = _
      rw [ht h' (Nat.le_refl _), if_neg (by omega)]
      rfl
    have o := y4 h' (by omega) (by omega)
    have l1 := zsN_mono (f := ap) (show h' ≤ h + 1 by omega)
    have l2 := zsN_mono (f := tk) (show h' ≤ h + 1 by omega)
    refine ⟨fun k => if k < h' then ap k else 0, fun k => if k < h' then tk k else 0, ?_⟩
    rw [hJ', ha', ht', e2115, e2115, u8, u9, f7 2115 6 (by omega), u12, cJ 2193 (by decide) (by decide), cI 2224 (by decide) (by decide) (by decide) (by decide) (by decide) (by decide) (by decide), cI 2256 (by decide) (by decide) (by decide) (by decide) (by decide) (by decide) (by decide)]
    refine ⟨o.1, o.2.1, o.2.2, fun q h1 h2 => ?_, fun k hk => ?_, by omega, by omega, by omega⟩
    · rw [hJ q h1, ha q h1, ht q h1]
      exact y4 q (by omega) (by omega)
    · dsimp only
      by_cases hk2 : k < h'
      · rw [if_pos hk2, if_pos hk2, f1 3728 k (by omega) (by omega) (by omega), f1 3760 k (by omega) (by omega) (by omega), sI 3728 k (by decide) (by decide) (by omega), sI 3760 k (by decide) (by decide) (by omega)]
        exact y5 k (by omega)
      · rw [if_neg hk2, if_neg hk2, (f8 k (by omega) (by omega)).1, (f8 k (by omega) (by omega)).2.1]
        exact ⟨rfl, rfl⟩
  · refine zTap_cm b1 (fun j _ => ?_) ?_ T
    · rw [cI 239 (by decide) (by decide) (by decide) (by decide) (by decide) (by decide) (by decide)]
    · exact cI 3151 (by decide) (by decide) (by decide) (by decide) (by decide) (by decide) (by decide)
  · refine zLat_cm ?_ (fun j hj => m3118 (30 + j) (by omega)) La
    exact cI 3088 (by decide) (by decide) (by decide) (by decide) (by decide) (by decide) (by decide)
  · have ok := O.1 k (by omega)
    have gk := gO k (by omega)
    refine zO1_g H ⟨⟨?_, ?_, ?_, ?_⟩, fun j _ => ⟨?_, ?_, ?_⟩, fun j _ => ?_⟩ (fun _ _ => rfl) (Nat.le_refl n) (u13 2164 k (by omega)) ?_ ok
    · rw [cI 3408 (by decide) (by decide) (by decide) (by decide) (by decide) (by decide) (by decide)]
    · rw [r3632]
    · rw [cI 3440 (by decide) (by decide) (by decide) (by decide) (by decide) (by decide) (by decide)]
    · rw [cI 3600 (by decide) (by decide) (by decide) (by decide) (by decide) (by decide) (by decide)]
    · rw [r3472]
    · rw [r3505]
    · rw [r3537]
    · rw [cI 3567 (by decide) (by decide) (by decide) (by decide) (by decide) (by decide) (by decide)]
    · rw [p3664 k hk, f1 (32 * g 0 k + 6) 4 (by omega) (by omega) (by omega), u10 k hk, ok.2.1.2.2.1]
  · obtain ⟨z1, z2, z3, z4, z5, z6, z7, z8⟩ := W k (by omega)
    rw [r3632, r3472, r3505, r3537, p3664 k hk, cI 3408 (by decide) (by decide) (by decide) (by decide) (by decide) (by decide) (by decide), cI 3567 (by decide) (by decide) (by decide) (by decide) (by decide) (by decide) (by decide)]
    refine ⟨?_, (zsp_wf (by omega) (by omega) z2).1, z3, z4, z5, fun h1 => z6 (by omega), z7, z8⟩
    by_cases hke : k < e
    · exact ⟨0, Nat.zero_le _, z7 hke⟩
    · obtain ⟨x, hx, e1⟩ := hmd k (by omega) hk
      exact ⟨x, by omega, e1⟩
  · refine zScs_ms ⟨?_, ?_, ?_, ?_, ?_, cJ 3345 (by decide) (by decide), ?_⟩ (zScs_g H (Nat.le_refl n) (by funext j; exact u13 3061 j (by omega)) S)
    · exact cI 3184 (by decide) (by decide) (by decide) (by decide) (by decide) (by decide) (by decide)
    · exact cI 3216 (by decide) (by decide) (by decide) (by decide) (by decide) (by decide) (by decide)
    · exact cI 3248 (by decide) (by decide) (by decide) (by decide) (by decide) (by decide) (by decide)
    · exact cI 3280 (by decide) (by decide) (by decide) (by decide) (by decide) (by decide) (by decide)
    · exact cI 3312 (by decide) (by decide) (by decide) (by decide) (by decide) (by decide) (by decide)
    · exact cI 3375 (by decide) (by decide) (by decide) (by decide) (by decide) (by decide) (by decide)
  · by_cases hk2 : k < h'
    · rw [J3697 k hk2]
      exact C.1 k (by omega)
    · rw [(f8 k (by omega) (by omega)).2.2]
      decide
  · have hA : ∀ k q, k < m' → zAmt I2 J2 k p x q = zAmt I J k p x q := fun k q _ => zAmt_m r3472 r3505 r3537 q
    have hw : ∀ k, k < m' → I 3664 k = -1 ∨ ∃ x, x ≤ h ∧ I 3664 k = nI x := fun k hk => (W k (by omega)).2.1
    by_cases ht2 : t' ≤ h'
    · have e1 : zTot I2 J2 g e t' p x m' = zTot I J g e t' p x m' := by
        refine zTot_c m' (fun k hk => ⟨?_, hA k _ hk⟩)
        unfold zAlv
        rw [r3632, p3664 k hk]
        have := (zsp_wf (h' := h') (by omega) (by omega) (hw k hk)).2.1 t' (by omega)
        exact propext ⟨fun q => ⟨q.1, this.1 q.2⟩, fun q => ⟨q.1, this.2 q.2⟩⟩
      have e2 := (zTot_le (p := p) (x := x) (t := (t' : Int)) W (m - m') m' (by omega)).2
      rw [show m' + (m - m') = m by omega] at e2
      rw [e1, zPts_c t' (fun k hk => J3697 k (by omega))]
      have := C.2 t' (by omega) p x
      omega
    · obtain rfl : t' = h' + 1 := by omega
      have e1 : zTot I2 J2 g e ((h' + 1 : Nat) : Int) p x m' = zTot I J g e (h' : Int) p x m' := by
        refine zTot_c m' (fun k hk => ⟨?_, hA k _ hk⟩)
        unfold zAlv
        rw [r3632, p3664 k hk]
        have q1 := (zsp_wf (h' := h') (by omega) (by omega) (hw k hk)).2.2
        have q2 : (k < e ∨ (I 3632 k).toInt < ((h' + 1 : Nat) : Int)) ↔ (k < e ∨ (I 3632 k).toInt < (h' : Int)) := by
          by_cases hke : k < e
          · exact ⟨fun _ => Or.inl hke, fun _ => Or.inl hke⟩
          · obtain ⟨y, hy, e3⟩ := hmd k (by omega) hk
            rw [e3, nI_toInt (by omega)]
            omega
        exact propext ⟨fun q => ⟨q2.1 q.1, q1.1 q.2⟩, fun q => ⟨q2.2 q.1, q1.2 q.2⟩⟩
      have e2 := (zTot_le (p := p) (x := x) (t := (h' : Int)) W (m - m') m' (by omega)).2
      rw [show m' + (m - m') = m by omega] at e2
      have e3 : zPts J2 (h' + 1) = zPts J h' := by
        show zPts J2 h' + (J2 3697 h').toInt = _
        rw [zPts_c h' (fun k hk => J3697 k (by omega)), (f8 h' (Nat.le_refl _) (by omega)).2.2]
        show zPts J h' + 0 = _
        omega
      rw [e1, e3]
      have := C.2 h' (by omega) p x
      omega
  · rw [f3] at h0
    exact absurd h0 (by decide)
set_option maxRecDepth 20000 in
theorem zInv_beg (h0 : zInv L xs i (I, J, P, N, n, z)) : zInv L xs (i + 4) (zu (zu (zu I 11 10 1) 3118 63 0) 3118 13 1, J, P, N, n, z) := by
  obtain ⟨⟨s1, s2, s3⟩, hS, ⟨k1, k2⟩, ⟨r1, r2, r3⟩, t, m, e, h, u, s, d, g, f, V, Su, T, La, O, W, S, C, G⟩ := h0
  have M : zMr I J (zu (zu (zu I 11 10 1) 3118 63 0) 3118 13 1) J := by
    intro a ha
    unfold zKm at ha
    exact ⟨by rw [zuR_ne (by omega), zuR_ne (by omega), zuR_ne (by omega)], rfl⟩
  have H : zSb I J P N (zu (zu (zu I 11 10 1) 3118 63 0) 3118 13 1) J P N := ⟨fun a ha => ⟨by rw [zuR_ne (by omega), zuR_ne (by omega), zuR_ne (by omega)], rfl, rfl, rfl⟩, rfl, rfl⟩
  refine ⟨⟨s1, fun j => ?_, s3⟩, hS, ⟨?_, k2⟩, ⟨r1, by omega, by omega⟩, t, m, e, h, u, s, d, g, f, ?_, zSum_cm rfl ?_ ?_ rfl ?_ ?_ rfl (M 3728 (by unfold zKm; omega)).1 (M 3760 (by unfold zKm; omega)).1 (by omega) Su, zTap_cm V.2.2.1.1 ?_ (M 3151 (by unfold zKm; omega)).1 T, zLat_cm ?_ (fun j hj => ?_) La, zOuts_m (zMr_o M) (zOuts_c H (Nat.le_refl n) O), zWfO_m (zMr_o M) W, zScs_m (zMr_o M) (zScs_c H (Nat.le_refl n) S), zCon_m (zMr_o M) rfl C, fun h0 => ?_⟩
  · dsimp only
    simp (disch := omega) only [zuR_ne]
    exact s2 j
  · simp (disch := omega) only [zuR_ne]
    exact k1
  · obtain ⟨⟨v0, v1, v2, v3, v4, v5, v6⟩, ⟨w0, w1, w2, w3, w4, w5, w6⟩, hb, ⟨x1, x2, x3, x4⟩⟩ := V
    unfold zVal
    simp (disch := omega) only [zuR_ne, zu_nj, zu_at]
    exact ⟨⟨v0, v1, v2, v3, v4, v5, v6⟩, ⟨w0, w1, w2, w3, w4, w5, w6⟩, hb, ⟨trivial, Or.inr trivial, x3, x4⟩⟩
  · simp (disch := omega) only [zuR_ne]
  · simp (disch := omega) only [zuR_ne]
  · simp (disch := omega) only [zuR_ne]
  · simp (disch := omega) only [zuR_ne]
  · intro j _
    simp (disch := omega) only [zuR_ne]
  · simp (disch := omega) only [zuR_ne]
  · simp (disch := omega) only [zuR_ne, zu_nj]
  · rw [zu_at] at h0
    exact absurd h0 (by decide)
set_option maxRecDepth 20000 in
set_option maxHeartbeats 4000000 in
theorem c_6 (hi : i < 4190) (hI : zInv L xs i (I, J, P, N, n, z)) : zCall 6 a b c L xs (I, J, P, N, n, z) (zInv L xs (i + 4)) := by
  obtain ⟨hs, hS, hk, hr, t, m, e, h, u, s, d, g, f, X⟩ := id hI
  obtain ⟨⟨⟨v0, v1, v2, v3, v4, v5, v6⟩, ⟨w0, w1, w2, w3, w4, w5, w6⟩, ⟨b1, b2, b3, b4, b5, b6, b7, b8⟩, ⟨x1, x2, x3, x4⟩⟩, ⟨ap, tk, y1, y2, y3, y4, y5, y6, y7, y8⟩, T, La, O, W, S, C, G⟩ := id X
  have sc : zScr L xs (zu I 11 10 1, J, P, N, n, z) := ⟨hs.1, fun j => (congrFun (zuR_ne (a := 11) (by decide) : zu I 11 10 1 22 = I 22) j).trans (hs.2.1 j), hs.2.2⟩
  show zTwoI 163 304 [.int a] L xs _ _
  by_cases ha : a < 0
  · refine zC_of (fun Q hQ => ?_)
    simp (decide := true) (disch := omega) only [ha, zi64, zt64, zo64_0, zo64_1, zo64_2, zo64_4, zo64_5, zo64_6, zo64_7, zi163, zt163, zo163_0, zy_ldI, zy_ldL, zy_ldA, zy_stI, zy_stL, zy_stA, zy_cI, zy_cL, zy_nul, zy_inc, zy_bI, zy_bL, zy_sL, zy_un, zy_cmp, zy_dup, zy_dup2, zy_pop, zy_pop2, zy_jn, zy_jnn, zy_go, zy_fal, zy_tsw, zy_lsw, zy_get, zy_put, zy_ald, zy_ast, zy_len, zy_newa, zy_new, zy_cal, zy_ret, zy_tak, zy_cst, zy_acp, zy_oini, zy_cln, zy_thr, zy_bad, zy_lco, zy_if0, zy_ic0, zy_if1, zy_ic1, zy_if2, zy_ic2, zy_if3, zy_ic3, zy_if4, zy_ic4, zy_if5, zy_ic5, zK_go, zK_to, zK_end, zK_callH, zK_iteC, zK_none, zsLd, zsSt, zsInc, zsBI, zsBL, zsSL, zsUn, zsCmp, zsDup, zsDup2, zsPop, zsPop2, zsJn, zsTsw, zsLsw, zsGet, zsPut, zsAld, zsAst, zsLen, zsNewa, zsCal, zsRet, zsCst, zsAcp, zsOini, zsCln, zsLco, zsThr, zxBI, zxBL, zxSL, zxU, zset1, zset2, zclr, zcat, zmake_mk, zcomp, zH_i, zH_l, zH_r, zH_u, zH_n, List.set_cons_zero, List.set_cons_succ, List.getElem?_cons_zero, List.getElem?_cons_succ, List.length_cons, List.length_nil, List.take_succ_cons, List.take_zero, List.drop_succ_cons, List.drop_zero, List.reverse_cons, List.reverse_nil, List.nil_append, List.cons_append, List.map_cons, List.map_nil, List.sum_cons, List.sum_nil, Option.toList_some, Option.toList_none, Value.category, Nat.reduceAdd, Nat.reduceMul, Nat.reduceMod, Nat.reduceDiv, Nat.reduceSub, Nat.reduceLT, Nat.reduceLeDiff, Nat.reduceEqDiff, Nat.zero_le, Nat.le_refl, Int32.reduceToNatClampNeg, Int32.reduceLT, Int32.reduceLE, Int32.reduceAdd, Int32.reduceSub, Int32.reduceMul, ↓reduceIte, reduceCtorEq, Nat.add_zero, Nat.zero_add, true_or, or_true, false_or, or_false, true_and, and_true, false_and, and_false, not_true_eq_false, not_false_eq_true, if_true, if_false, true_implies, false_implies, implies_true, forall_const, false_imp_iff, true_imp_iff, va_rf, zlay, zent, List.replicate_zero, List.append_nil, List.replicate_succ, List.length_append, ne_eq, Option.some.injEq, Value.int.injEq, Value.long.injEq, Int32.reduceOfNat, Int32.reduceToInt, Int.reduceLT, Int.reduceLE, Int.reduceSub, Int.reduceToNat, Int.reduceAdd, Int.reduceNeg, Int32.reduceDiv, Int64.reduceAdd, Int64.reduceSub, lg_cmp_ge, lg_cmp_le, lg_cmp_gt, lg_cmp_lt, lg_cmp_eq, wlt_t, wlt_f, wle_t, wle_f, wmod, wI_lt, wI_le, wI_eq, wI_neg, wI_pos, wI_cl, wI_ge, wI_po, w64_lt, w64_le, w64_eq, w64_lt0, w64_le0, w64_eq0, w64_32, zc317, zc319, wI_add, wI_a1, wI_s1, wI_e0, wI_m8, wI_m128, wI_m64, wI_m190, not_true_eq_false, not_false_eq_true, sP_11_4 hS, sP_2115_0 hS, sP_2115_9 hS, sP_2115_10 hS, sP_2115_11 hS, sN_2164 hS, sN_2193 hS, sN_2224 hS, sN_2256 hS, sN_6417 hS]
    refine hQ _ _ ⟨_, rfl, sc, zC_of (fun Q hQ => ?_)⟩
    simp (decide := true) (disch := omega) only [ha, zi304, zt304, zo304_0, zo304_1, zo304_2, zo304_4, zo304_5, zo304_6, zo304_7, zo304_8, zo304_9, zo304_10, zy_ldI, zy_ldL, zy_ldA, zy_stI, zy_stL, zy_stA, zy_cI, zy_cL, zy_nul, zy_inc, zy_bI, zy_bL, zy_sL, zy_un, zy_cmp, zy_dup, zy_dup2, zy_pop, zy_pop2, zy_jn, zy_jnn, zy_go, zy_fal, zy_tsw, zy_lsw, zy_get, zy_put, zy_ald, zy_ast, zy_len, zy_newa, zy_new, zy_cal, zy_ret, zy_tak, zy_cst, zy_acp, zy_oini, zy_cln, zy_thr, zy_bad, zy_lco, zy_if0, zy_ic0, zy_if1, zy_ic1, zy_if2, zy_ic2, zy_if3, zy_ic3, zy_if4, zy_ic4, zy_if5, zy_ic5, zK_go, zK_to, zK_end, zK_callH, zK_iteC, zK_none, zsLd, zsSt, zsInc, zsBI, zsBL, zsSL, zsUn, zsCmp, zsDup, zsDup2, zsPop, zsPop2, zsJn, zsTsw, zsLsw, zsGet, zsPut, zsAld, zsAst, zsLen, zsNewa, zsCal, zsRet, zsCst, zsAcp, zsOini, zsCln, zsLco, zsThr, zxBI, zxBL, zxSL, zxU, zset1, zset2, zclr, zcat, zmake_mk, zcomp, zH_i, zH_l, zH_r, zH_u, zH_n, List.set_cons_zero, List.set_cons_succ, List.getElem?_cons_zero, List.getElem?_cons_succ, List.length_cons, List.length_nil, List.take_succ_cons, List.take_zero, List.drop_succ_cons, List.drop_zero, List.reverse_cons, List.reverse_nil, List.nil_append, List.cons_append, List.map_cons, List.map_nil, List.sum_cons, List.sum_nil, Option.toList_some, Option.toList_none, Value.category, Nat.reduceAdd, Nat.reduceMul, Nat.reduceMod, Nat.reduceDiv, Nat.reduceSub, Nat.reduceLT, Nat.reduceLeDiff, Nat.reduceEqDiff, Nat.zero_le, Nat.le_refl, Int32.reduceToNatClampNeg, Int32.reduceLT, Int32.reduceLE, Int32.reduceAdd, Int32.reduceSub, Int32.reduceMul, ↓reduceIte, reduceCtorEq, Nat.add_zero, Nat.zero_add, true_or, or_true, false_or, or_false, true_and, and_true, false_and, and_false, not_true_eq_false, not_false_eq_true, if_true, if_false, true_implies, false_implies, implies_true, forall_const, false_imp_iff, true_imp_iff, va_rf, zlay, zent, List.replicate_zero, List.append_nil, List.replicate_succ, List.length_append, ne_eq, Option.some.injEq, Value.int.injEq, Value.long.injEq, Int32.reduceOfNat, Int32.reduceToInt, Int.reduceLT, Int.reduceLE, Int.reduceSub, Int.reduceToNat, Int.reduceAdd, Int.reduceNeg, Int32.reduceDiv, Int64.reduceAdd, Int64.reduceSub, lg_cmp_ge, lg_cmp_le, lg_cmp_gt, lg_cmp_lt, lg_cmp_eq, wlt_t, wlt_f, wle_t, wle_f, wmod, wI_lt, wI_le, wI_eq, wI_neg, wI_pos, wI_cl, wI_ge, wI_po, w64_lt, w64_le, w64_eq, w64_lt0, w64_le0, w64_eq0, w64_32, zc317, zc319, wI_add, wI_a1, wI_s1, wI_e0, wI_m8, wI_m128, wI_m64, wI_m190, not_true_eq_false, not_false_eq_true, sP_3118_21 hS, sP_3118_22 hS, sP_3118_25 hS, sP_3118_26 hS, sP_3118_27 hS, sN_3632 hS, sN_3664 hS, sN_3697 hS, sN_3728 hS, sN_3760 hS, sN_6417 hS]
    exact hQ _ _ ⟨rfl, zInv_beg hI⟩
  · obtain ⟨r, hr0, rfl⟩ := wI_of ha
    by_cases hru : r ≤ u
    · refine zC_of (fun Q hQ => ?_)
      refine e163 (m := m) (e := e) (h := h) (u := u) (g := g) hS b2 (by omega) (by omega) hru b4 v1 v2 v3 v4 (fun k hk => ⟨(O.1 k hk).1.1, (O.1 k hk).2.1.2.1, ((O.1 k hk).2.2.2.2.2.2.2 0 (by decide)).1⟩) O.2 (fun I1 J1 P1 U => hQ _ _ ⟨_, rfl, ⟨hs.1, fun j => ?_, hs.2.2⟩, zC_of (fun Q hQ => ?_)⟩)
      · show I1 22 j = xs j
        rw [U.1 22 j (by decide) (by omega) (fun k hk => by have := zUn_le (ma := I 3632) (e := e) (h := h - r) m; have := ((O.1 k (by omega)).2.2.2.2.2.2.2 0 (by decide)).1; omega)]
        exact hs.2.1 j
      · have hle := zUn_le (ma := I 3632) (e := e) (h := h - r) m
        have st : ∀ a j, a < 6432 → a ≠ 2115 → a ≠ 11 → I1 a j = I a j := fun a j h1 h2 h3 => U.1 a j h2 (by omega) (fun k hk => by have := ((O.1 k (by omega)).2.2.2.2.2.2.2 0 (by decide)).1; omega)
        have hS' : zStat P1 N := zStat_c hS (fun a j _ h2 _ _ => U.2.2.2.2.2 a j (by omega)) (fun _ _ _ => rfl)
        have e1 : I1 3632 = I 3632 := by funext j; exact st 3632 j (by decide) (by decide) (by decide)
        refine e304 (m := m) (e := e) (h := h) (u := u) hS' b2 (by omega) (by omega) hru b4 ?_ ?_ ?_ ?_ (fun I2 J2 F => hQ _ _ ⟨rfl, ?_⟩)
        · rw [st 3118 11 (by decide) (by decide) (by decide)]; exact w1
        · rw [st 3118 12 (by decide) (by decide) (by decide)]; exact w2
        · rw [st 3118 23 (by decide) (by decide) (by decide)]; exact w3
        · rw [st 3118 24 (by decide) (by decide) (by decide)]; exact w4
        · rw [e1] at F
          exact fin6 hi hs hS hk hr X hru rfl rfl rfl U F
    · refine zC_of (fun Q hQ => ?_)
      simp (decide := true) (disch := omega) only [v4, zuR_ne, zi64, zt64, zo64_0, zo64_1, zo64_2, zo64_4, zo64_5, zo64_6, zo64_7, zi163, zt163, zo163_0, zy_ldI, zy_ldL, zy_ldA, zy_stI, zy_stL, zy_stA, zy_cI, zy_cL, zy_nul, zy_inc, zy_bI, zy_bL, zy_sL, zy_un, zy_cmp, zy_dup, zy_dup2, zy_pop, zy_pop2, zy_jn, zy_jnn, zy_go, zy_fal, zy_tsw, zy_lsw, zy_get, zy_put, zy_ald, zy_ast, zy_len, zy_newa, zy_new, zy_cal, zy_ret, zy_tak, zy_cst, zy_acp, zy_oini, zy_cln, zy_thr, zy_bad, zy_lco, zy_if0, zy_ic0, zy_if1, zy_ic1, zy_if2, zy_ic2, zy_if3, zy_ic3, zy_if4, zy_ic4, zy_if5, zy_ic5, zK_go, zK_to, zK_end, zK_callH, zK_iteC, zK_none, zsLd, zsSt, zsInc, zsBI, zsBL, zsSL, zsUn, zsCmp, zsDup, zsDup2, zsPop, zsPop2, zsJn, zsTsw, zsLsw, zsGet, zsPut, zsAld, zsAst, zsLen, zsNewa, zsCal, zsRet, zsCst, zsAcp, zsOini, zsCln, zsLco, zsThr, zxBI, zxBL, zxSL, zxU, zset1, zset2, zclr, zcat, zmake_mk, zcomp, zH_i, zH_l, zH_r, zH_u, zH_n, List.set_cons_zero, List.set_cons_succ, List.getElem?_cons_zero, List.getElem?_cons_succ, List.length_cons, List.length_nil, List.take_succ_cons, List.take_zero, List.drop_succ_cons, List.drop_zero, List.reverse_cons, List.reverse_nil, List.nil_append, List.cons_append, List.map_cons, List.map_nil, List.sum_cons, List.sum_nil, Option.toList_some, Option.toList_none, Value.category, Nat.reduceAdd, Nat.reduceMul, Nat.reduceMod, Nat.reduceDiv, Nat.reduceSub, Nat.reduceLT, Nat.reduceLeDiff, Nat.reduceEqDiff, Nat.zero_le, Nat.le_refl, Int32.reduceToNatClampNeg, Int32.reduceLT, Int32.reduceLE, Int32.reduceAdd, Int32.reduceSub, Int32.reduceMul, ↓reduceIte, reduceCtorEq, Nat.add_zero, Nat.zero_add, true_or, or_true, false_or, or_false, true_and, and_true, false_and, and_false, not_true_eq_false, not_false_eq_true, if_true, if_false, true_implies, false_implies, implies_true, forall_const, false_imp_iff, true_imp_iff, va_rf, zlay, zent, List.replicate_zero, List.append_nil, List.replicate_succ, List.length_append, ne_eq, Option.some.injEq, Value.int.injEq, Value.long.injEq, Int32.reduceOfNat, Int32.reduceToInt, Int.reduceLT, Int.reduceLE, Int.reduceSub, Int.reduceToNat, Int.reduceAdd, Int.reduceNeg, Int32.reduceDiv, Int64.reduceAdd, Int64.reduceSub, lg_cmp_ge, lg_cmp_le, lg_cmp_gt, lg_cmp_lt, lg_cmp_eq, wlt_t, wlt_f, wle_t, wle_f, wmod, wI_lt, wI_le, wI_eq, wI_neg, wI_pos, wI_cl, wI_ge, wI_po, w64_lt, w64_le, w64_eq, w64_lt0, w64_le0, w64_eq0, w64_32, zc317, zc319, wI_add, wI_a1, wI_s1, wI_e0, wI_m8, wI_m128, wI_m64, wI_m190, not_true_eq_false, not_false_eq_true, sP_11_4 hS, sP_2115_0 hS, sP_2115_9 hS, sP_2115_10 hS, sP_2115_11 hS, sN_2164 hS, sN_2193 hS, sN_2224 hS, sN_2256 hS, sN_6417 hS]
      refine hQ _ _ ⟨_, rfl, sc, zC_of (fun Q hQ => ?_)⟩
      simp (decide := true) (disch := omega) only [w4, zuR_ne, zu_nj, zi304, zt304, zo304_0, zo304_1, zo304_2, zo304_4, zo304_5, zo304_6, zo304_7, zo304_8, zo304_9, zo304_10, zy_ldI, zy_ldL, zy_ldA, zy_stI, zy_stL, zy_stA, zy_cI, zy_cL, zy_nul, zy_inc, zy_bI, zy_bL, zy_sL, zy_un, zy_cmp, zy_dup, zy_dup2, zy_pop, zy_pop2, zy_jn, zy_jnn, zy_go, zy_fal, zy_tsw, zy_lsw, zy_get, zy_put, zy_ald, zy_ast, zy_len, zy_newa, zy_new, zy_cal, zy_ret, zy_tak, zy_cst, zy_acp, zy_oini, zy_cln, zy_thr, zy_bad, zy_lco, zy_if0, zy_ic0, zy_if1, zy_ic1, zy_if2, zy_ic2, zy_if3, zy_ic3, zy_if4, zy_ic4, zy_if5, zy_ic5, zK_go, zK_to, zK_end, zK_callH, zK_iteC, zK_none, zsLd, zsSt, zsInc, zsBI, zsBL, zsSL, zsUn, zsCmp, zsDup, zsDup2, zsPop, zsPop2, zsJn, zsTsw, zsLsw, zsGet, zsPut, zsAld, zsAst, zsLen, zsNewa, zsCal, zsRet, zsCst, zsAcp, zsOini, zsCln, zsLco, zsThr, zxBI, zxBL, zxSL, zxU, zset1, zset2, zclr, zcat, zmake_mk, zcomp, zH_i, zH_l, zH_r, zH_u, zH_n, List.set_cons_zero, List.set_cons_succ, List.getElem?_cons_zero, List.getElem?_cons_succ, List.length_cons, List.length_nil, List.take_succ_cons, List.take_zero, List.drop_succ_cons, List.drop_zero, List.reverse_cons, List.reverse_nil, List.nil_append, List.cons_append, List.map_cons, List.map_nil, List.sum_cons, List.sum_nil, Option.toList_some, Option.toList_none, Value.category, Nat.reduceAdd, Nat.reduceMul, Nat.reduceMod, Nat.reduceDiv, Nat.reduceSub, Nat.reduceLT, Nat.reduceLeDiff, Nat.reduceEqDiff, Nat.zero_le, Nat.le_refl, Int32.reduceToNatClampNeg, Int32.reduceLT, Int32.reduceLE, Int32.reduceAdd, Int32.reduceSub, Int32.reduceMul, ↓reduceIte, reduceCtorEq, Nat.add_zero, Nat.zero_add, true_or, or_true, false_or, or_false, true_and, and_true, false_and, and_false, not_true_eq_false, not_false_eq_true, if_true, if_false, true_implies, false_implies, implies_true, forall_const, false_imp_iff, true_imp_iff, va_rf, zlay, zent, List.replicate_zero, List.append_nil, List.replicate_succ, List.length_append, ne_eq, Option.some.injEq, Value.int.injEq, Value.long.injEq, Int32.reduceOfNat, Int32.reduceToInt, Int.reduceLT, Int.reduceLE, Int.reduceSub, Int.reduceToNat, Int.reduceAdd, Int.reduceNeg, Int32.reduceDiv, Int64.reduceAdd, Int64.reduceSub, lg_cmp_ge, lg_cmp_le, lg_cmp_gt, lg_cmp_lt, lg_cmp_eq, wlt_t, wlt_f, wle_t, wle_f, wmod, wI_lt, wI_le, wI_eq, wI_neg, wI_pos, wI_cl, wI_ge, wI_po, w64_lt, w64_le, w64_eq, w64_lt0, w64_le0, w64_eq0, w64_32, zc317, zc319, wI_add, wI_a1, wI_s1, wI_e0, wI_m8, wI_m128, wI_m64, wI_m190, not_true_eq_false, not_false_eq_true, sP_3118_21 hS, sP_3118_22 hS, sP_3118_25 hS, sP_3118_26 hS, sP_3118_27 hS, sN_3632 hS, sN_3664 hS, sN_3697 hS, sN_3728 hS, sN_3760 hS, sN_6417 hS]
      exact hQ _ _ ⟨rfl, zInv_beg hI⟩
end
