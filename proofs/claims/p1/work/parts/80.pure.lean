theorem zpure (L : Nat) (xs : Nat → Int32) (hL : L ≤ 5) : zQ (zGG 328).1 ((zGG 328).1 0) (zent [.ref 22] 8) [] (zs0 L xs) (fun r τ => r = some (.int 1) ∧ τ.2.2.2.2.1 + τ.2.2.2.1 31 ≤ 600002 ∧ τ.2.2.2.2.2 ≤ 7302198) := by
  refine zstart (by omega) (fun τ hF => ?_)
  generalize zclamp (if L = 0 then 0 else xs 0) = d at hF
  have hB : ∀ σ, zF d L xs σ → zScr L xs σ ∧ σ.2.2.2.2.1 + σ.2.2.2.1 31 ≤ 600002 ∧ σ.2.2.2.2.2 ≤ 7302198 := by
    rintro ⟨I, J, P, N, n, z⟩ h
    obtain rfl := zF_n h
    obtain rfl := zF_z h
    refine ⟨zF_scr h, ?_, (by decide : (1542900 : Nat) ≤ 7302198)⟩
    show 201 + N 31 ≤ 600002
    rw [zF_31 h]
    decide
  refine zloop (L := L) (xs := xs) (by omega) (fun i σ => (i = 1 ∧ zF d L xs σ) ∨ (i = 5 ∧ zScr L xs σ ∧ σ.2.2.2.2.1 + σ.2.2.2.1 31 ≤ 600002 ∧ σ.2.2.2.2.2 ≤ 7302198)) ?_ ?_ ?_ 5 1 none none none τ (by omega) (by omega) (Or.inl ⟨rfl, hF⟩)
  · rintro i σ (⟨-, h⟩ | ⟨-, h, -⟩)
    · exact (hB σ h).1
    · exact h
  · rintro i σ (⟨-, h⟩ | ⟨-, -, h⟩) -
    · exact ⟨rfl, (hB σ h).2⟩
    · exact ⟨rfl, h⟩
  · rintro i σ k hi (⟨rfl, h⟩ | ⟨rfl, -⟩) hk -
    · have key : zCall k (xs (1 + 1)) (xs (1 + 2)) (xs (1 + 3)) L xs σ (fun τ => zScr L xs τ ∧ τ.2.2.2.2.1 + τ.2.2.2.1 31 ≤ 600002 ∧ τ.2.2.2.2.2 ≤ 7302198) := by
        have hh := hB σ h
        obtain ⟨I, J, P, N, n, z⟩ := σ
        have : k = 0 ∨ k = 1 ∨ k = 2 ∨ k = 3 ∨ k = 4 ∨ k = 5 ∨ k = 6 ∨ k = 7 ∨ k = 8 ∨ k = 9 ∨ k = 10 ∨ k = 11 ∨ k = 12 ∨ k = 13 ∨ k = 14 ∨ k = 15 := by omega
        rcases this with rfl | rfl | rfl | rfl | rfl | rfl | rfl | rfl | rfl | rfl | rfl | rfl | rfl | rfl | rfl | rfl
        · exact p1_0 h
        · exact p1_1 h
        · exact p1_2 h
        · exact p1_3 h
        · exact p1_4 h
        · exact p1_5 h
        · exact p1_6 h
        · exact p1_7 h
        · exact p1_8 h
        · exact p1_9 h
        · exact p1_10 h
        · exact p1_11 h
        · exact p1_12 h
        · exact p1_13 h
        · exact p1_14 h
        · exact hh
      exact zCall.mono key (fun τ h => Or.inr ⟨rfl, h⟩)
    · omega
