/-! calls that only ask, between two invariants -/
theorem zAskI_two {qx qm : Nat} {as : List Value} {L : Nat} {xs : Nat → Int32} {σ : zS} {K : zS → Prop} (h : zAskI qx qm as σ) (hs : zScr L xs σ) (hK : K (zu σ.1 3118 63 0, σ.2)) : zTwoI qx qm as L xs σ K := by
  obtain ⟨y, h1, h2⟩ := h
  exact h1 _ ⟨y, rfl, hs, h2 _ ⟨rfl, hK⟩⟩
theorem zAskJ_two {qx qm : Nat} {as : List Value} {L : Nat} {xs : Nat → Int32} {σ : zS} {K : zS → Prop} (h : zAskJ qx qm as σ) (hs : zScr L xs σ) (hK : K (zu σ.1 3118 63 0, σ.2)) : zTwoJ qx qm as L xs σ K := by
  obtain ⟨y, h1, h2⟩ := h
  exact h1 _ ⟨y, rfl, hs, h2 _ ⟨rfl, hK⟩⟩
section
variable {L i : Nat} {xs : Nat → Int32} {I : zI} {J : zJ} {P : zP} {N : Nat → Nat} {n z : Nat} {a b c : Int32}
theorem zInv_thr {v : Int32} (h : zInv L xs i (I, J, P, N, n, z)) : zInv L xs (i + 4) (zu I 3118 63 v, J, P, N, n, z) := by
  obtain ⟨⟨s1, s2, s3⟩, hS, ⟨k1, k2⟩, ⟨r1, r2, r3⟩, t, m, e, h, u, s, d, g, f, X⟩ := h
  refine ⟨⟨s1, fun j => ?_, s3⟩, hS, ⟨?_, k2⟩, ⟨r1, by omega, by omega⟩, t, m, e, h, u, s, d, g, f, ?_⟩
  · rw [← s2 j]
    show zu I 3118 63 v 22 j = I 22 j
    rw [zuR_ne (by decide)]
  · rw [zuR_ne (by decide)]
    exact k1
  · refine zAll_same ?_ rfl ?_ rfl ?_ rfl ?_ ?_ ?_ ?_ ?_ ?_ (Nat.le_refl n) (by omega) X
    · exact zuR_ne (by decide)
    · exact zuR_ne (by decide)
    · exact zuR_ne (by decide)
    · exact zuR_ne (by decide)
    · exact zuR_ne (by decide)
    · intro j hj; rw [zuR_ne (by decide)]
    · exact ⟨fun a ha => ⟨zuR_ne (by omega), rfl, rfl, rfl⟩, rfl, rfl⟩
    · intro a ha
      unfold zKm at ha
      exact ⟨zuR_ne (by omega), rfl⟩
    · intro j hj
      refine ⟨?_, rfl⟩
      unfold zu
      rw [if_neg (by omega)]
theorem c_7 (hi : i < 4200) (h : zInv L xs i (I, J, P, N, n, z)) : zCall 7 a b c L xs (I, J, P, N, n, z) (zInv L xs (i + 4)) := by
  obtain ⟨hs, hS, -, -, t, m, e, h', u, s, d, g, f, X⟩ := id h
  obtain ⟨-, ⟨-, -, -, -, -, -, -, hh, -, -⟩, -⟩ := id X
  exact zAskI_two (k_outputOf hS X (by omega)) hs (zInv_thr h)
theorem c_9 (h : zInv L xs i (I, J, P, N, n, z)) : zCall 9 a b c L xs (I, J, P, N, n, z) (zInv L xs (i + 4)) := by
  obtain ⟨hs, hS, -, -, t, m, e, h', u, s, d, g, f, X⟩ := id h
  exact zAskI_two (k_datumOf hS X) hs (zInv_thr h)
theorem c_10 (hi : i < 4200) (h : zInv L xs i (I, J, P, N, n, z)) : zCall 10 a b c L xs (I, J, P, N, n, z) (zInv L xs (i + 4)) := by
  obtain ⟨hs, hS, -, -, t, m, e, h', u, s, d, g, f, X⟩ := id h
  exact zAskJ_two (k_totalOf hS X hi) hs (zInv_thr h)
theorem c_11 (hi : i < 4200) (h : zInv L xs i (I, J, P, N, n, z)) : zCall 11 a b c L xs (I, J, P, N, n, z) (zInv L xs (i + 4)) := by
  obtain ⟨hs, hS, -, -, t, m, e, h', u, s, d, g, f, X⟩ := id h
  exact zAskI_two (k_ownedBy hS X (by omega)) hs (zInv_thr h)
theorem c_12 (h : zInv L xs i (I, J, P, N, n, z)) : zCall 12 a b c L xs (I, J, P, N, n, z) (zInv L xs (i + 4)) := by
  obtain ⟨hs, hS, -, -, t, m, e, h', u, s, d, g, f, X⟩ := id h
  exact zAskI_two (k_latestOf hS X) hs (zInv_thr h)
theorem c_13 (h : zInv L xs i (I, J, P, N, n, z)) : zCall 13 a b c L xs (I, J, P, N, n, z) (zInv L xs (i + 4)) := by
  obtain ⟨hs, hS, -, -, t, m, e, h', u, s, d, g, f, X⟩ := id h
  exact zAskI_two (k_scriptOf hS X) hs (zInv_thr h)
theorem c_14 (hi : i < 4200) (h : zInv L xs i (I, J, P, N, n, z)) : zCall 14 a b c L xs (I, J, P, N, n, z) (zInv L xs (i + 4)) := by
  obtain ⟨hs, hS, -, -, t, m, e, h', u, s, d, g, f, X⟩ := id h
  exact zAskJ_two (k_lookAt hS X hi) hs (zInv_thr h)
theorem c_15 (h : zInv L xs i (I, J, P, N, n, z)) : zCall 15 a b c L xs (I, J, P, N, n, z) (zInv L xs (i + 4)) := by
  show zInv L xs (i + 4) (I, J, P, N, n, z)
  have := zInv_thr (v := I 3118 63) h
  have e : zu I 3118 63 (I 3118 63) = I := by
    funext a j
    unfold zu
    split
    · rename_i q; rw [q.1, q.2]
    · rfl
  rw [e] at this
  exact this
theorem zInv_out {y : Int64} (h : zInv L xs i (I, J, P, N, n, z)) : zInv L xs i (I, zu J 6417 0 y, P, N, n, z) := by
  obtain ⟨⟨s1, s2, s3⟩, hS, ⟨k1, k2⟩, ⟨r1, r2, r3⟩, t, m, e, h, u, s, d, g, f, X⟩ := h
  refine ⟨⟨s1, s2, s3⟩, hS, ⟨k1, k2⟩, ⟨r1, r2, r3⟩, t, m, e, h, u, s, d, g, f, ?_⟩
  refine zAll_same rfl ?_ rfl ?_ rfl ?_ rfl rfl (fun _ _ => rfl) ?_ ?_ ?_ (Nat.le_refl n) (Nat.le_refl i) X
  · exact zuR_ne (by decide)
  · exact zuR_ne (by decide)
  · exact zuR_ne (by decide)
  · exact ⟨fun a ha => ⟨rfl, zuR_ne (by omega), rfl, rfl⟩, rfl, rfl⟩
  · intro a ha
    unfold zKm at ha
    exact ⟨rfl, zuR_ne (by omega)⟩
  · intro j hj
    refine ⟨rfl, ?_⟩
    unfold zu
    rw [if_neg (by omega)]
theorem zInv_exc {v : Int32} (h0 : zInv L xs i (I, J, P, N, n, z)) : zInv L xs (i + 4) (zu I 3118 63 v, J, P, zlen1 N 31 (N 31 + 1), n, z + 6) := by
  obtain ⟨⟨s1, s2, s3⟩, hS, ⟨k1, k2⟩, ⟨r1, r2, r3⟩, t, m, e, h, u, s, d, g, f, X⟩ := zInv_thr (v := v) h0
  have q : ∀ a, a ≠ 31 → zlen1 N 31 (N 31 + 1) a = N a := fun a ha => if_neg ha
  have q31 : zlen1 N 31 (N 31 + 1) 31 = N 31 + 1 := if_pos rfl
  obtain ⟨-, -, -, ⟨-, y2, y3⟩, -⟩ := h0
  refine ⟨⟨?_, s2, ?_⟩, zStat_c hS (fun _ _ _ _ _ _ => rfl) (fun a h1 h2 => q a h1), ⟨k1, ?_⟩, ⟨r1, ?_, by omega⟩, t, m, e, h, u, s, d, g, f, ?_⟩
  · rw [← s1]; exact q 22 (by decide)
  · rw [← s3]; exact q 6417 (by decide)
  · rw [q 54 (by decide)]; exact k2
  · show n + zlen1 N 31 (N 31 + 1) 31 ≤ _
    rw [q31]; omega
  · exact zAll_same rfl rfl rfl rfl rfl rfl rfl rfl (fun _ _ => rfl) ⟨fun a ha => ⟨rfl, rfl, rfl, q a (by omega)⟩, rfl, rfl⟩ (fun a _ => ⟨rfl, rfl⟩) (fun j _ => ⟨rfl, rfl⟩) (Nat.le_refl n) (Nat.le_refl _) X
theorem c_8 (h : zInv L xs i (I, J, P, N, n, z)) : zCall 8 a b c L xs (I, J, P, N, n, z) (zInv L xs (i + 4)) := by
  obtain ⟨hs, hS, -, -, t, m, e, h', u, s, d, g, f, X⟩ := id h
  rcases k_coinOf (a := a) (b := b) (c := c) (z := z) hS X with ⟨y, h1, h2⟩ | ⟨h1, y, h2⟩
  · refine h1 _ (Or.inl ⟨y, rfl, hs, h2 _ ⟨rfl, ?_, ?_, ?_, zInv_thr (zInv_out h)⟩⟩)
    · show zu J 6417 0 y 6417 0 = y
      exact if_pos ⟨rfl, rfl⟩
    · exact hs.2.2
    · show zu I 3118 63 0 3118 63 = 0
      exact if_pos ⟨rfl, rfl⟩
  · refine h1 _ (Or.inr ⟨rfl, hs, h2 _ ⟨y, rfl, ?_, zInv_exc h⟩⟩)
    show zu I 3118 63 1 3118 63 = 1
    exact if_pos ⟨rfl, rfl⟩
end
