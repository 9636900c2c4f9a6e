theorem zpure (L : Nat) (xs : Nat → Int32) (hL : L ≤ 2049) : zQ (zGG 328).1 ((zGG 328).1 0) (zent [.ref 22] 8) [] (zs0 L xs) (fun r τ => r = some (.int 1) ∧ τ.2.2.2.2.1 + τ.2.2.2.1 31 ≤ 601024 ∧ τ.2.2.2.2.2 ≤ 7293000) := by
  refine zstart (by omega) (fun τ hF => ?_)
  refine zloop (L := L) (xs := xs) hL (fun i σ => i ≤ 2053 ∧ zInv L xs i σ) ?_ ?_ ?_ 2049 1 none none none τ (by omega) (by omega) ⟨by omega, zInv_1 (d := 0) hF⟩
  · rintro i ⟨I, J, P, N, n, z⟩ ⟨-, h⟩
    exact h.1
  · rintro i ⟨I, J, P, N, n, z⟩ ⟨hi, h⟩ -
    obtain ⟨-, -, -, ⟨r1, r2, r3⟩, -⟩ := h
    exact ⟨rfl, show n + N 31 ≤ 601024 by omega, show z ≤ 7293000 by omega⟩
  · rintro i ⟨I, J, P, N, n, z⟩ k hi ⟨-, h⟩ hk -
    have key : zCall k (xs (i + 1)) (xs (i + 2)) (xs (i + 3)) L xs (I, J, P, N, n, z) (zInv L xs (i + 4)) := by
      have : k = 0 ∨ k = 1 ∨ k = 2 ∨ k = 3 ∨ k = 4 ∨ k = 5 ∨ k = 6 ∨ k = 7 ∨ k = 8 ∨ k = 9 ∨ k = 10 ∨ k = 11 ∨ k = 12 ∨ k = 13 ∨ k = 14 ∨ k = 15 := by omega
      rcases this with rfl | rfl | rfl | rfl | rfl | rfl | rfl | rfl | rfl | rfl | rfl | rfl | rfl | rfl | rfl | rfl
      · exact c_0 h
      · exact c_1 h
      · exact c_2 (by omega) h
      · exact c_3 h
      · exact c_4 (by omega) h
      · exact c_5 (by omega) h
      · exact c_6 (by omega) h
      · exact c_7 (by omega) h
      · exact c_8 h
      · exact c_9 h
      · exact c_10 (by omega) h
      · exact c_11 (by omega) h
      · exact c_12 h
      · exact c_13 h
      · exact c_14 (by omega) h
      · exact c_15 h
    exact zCall.mono key (fun τ h => ⟨by omega, h⟩)
