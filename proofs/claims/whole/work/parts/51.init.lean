/-! the fresh object -/
theorem zclamp_nI {x : Int32} : ∃ d, 1 ≤ d ∧ d ≤ 64 ∧ zclamp x = nI d := by
  unfold zclamp
  by_cases h1 : x < 1
  · rw [if_pos h1]
    exact ⟨1, by decide, by decide, rfl⟩
  · rw [if_neg h1]
    by_cases h2 : 64 < x
    · rw [if_pos h2]
      exact ⟨64, by decide, by decide, rfl⟩
    · rw [if_neg h2]
      have h0 : ¬ x < 0 := fun h => h1 (Int32.lt_trans h (by decide))
      obtain ⟨k, hk, rfl⟩ := wI_of h0
      rw [show (1 : Int32) = nI 1 from rfl, wI_lt hk (by decide)] at h1
      rw [show (64 : Int32) = nI 64 from rfl, wI_lt (by decide) hk] at h2
      exact ⟨k, by omega, by omega, rfl⟩
theorem zInv_1 {d : Int32} {L : Nat} {xs : Nat → Int32} {σ : zS} {x : Int32} (hF : zF (zclamp x) L xs σ) : zInv L xs 1 σ := by
  obtain ⟨I, J, P, N, n, z⟩ := σ
  obtain ⟨dd, d1, d2, ed⟩ := zclamp_nI (x := x)
  rw [ed] at hF
  obtain rfl := zF_n hF
  obtain rfl := zF_z hF
  refine ⟨zF_scr hF, zF_stat hF, ⟨by funext j; exact (zF_tk hF).2 j, (zF_tk hF).1⟩, ⟨by decide, by rw [zF_31 hF]; decide, by decide⟩, 0, 0, 0, 0, 0, 0, dd, fun _ _ => 0, fun _ _ => 0, ?_, ?_, fun j hj => by omega, Or.inl ⟨?_, fun j hj => ?_⟩, ⟨fun k hk => by omega, fun i k h1 h2 => by omega⟩, fun k hk => by omega, ⟨fun k hk => by omega, fun i k h1 h2 => by omega, fun k _ => iZ_3280 hF⟩, ⟨fun k hk => ?_, fun t ht p y => ?_⟩, fun _ => ⟨rfl, rfl, iZJ_3697 hF, fun k hk => by omega⟩⟩
  · refine ⟨⟨iI_11_9 hF, iI_2115_2 hF, iI_2115_3 hF, iI_2115_4 hF, iI_2115_5 hF, iI_11_8 hF, iD_2115 hF⟩, ⟨iI_3118_2 hF, iI_3118_11 hF, iI_3118_12 hF, iI_3118_23 hF, iI_3118_24 hF, iI_3118_3 hF, iD_3118 hF⟩, ⟨by omega, by omega, by omega, by omega, by omega, d1, d2, by omega⟩, ⟨?_, Or.inl (iI_3118_13 hF), ?_, ?_⟩⟩
    · rw [iI_11_10 hF, iI_3118_13 hF]
    · rw [iI_11_11 hF, iI_3118_28 hF]
    · rw [iJ_11_12 hF, iJ_3118_29 hF]
  · refine ⟨fun _ => 0, fun _ => 0, ?_, ?_, ?_, fun i h1 h2 => ?_, fun k hk => ?_, by omega, ?_, ?_⟩
    · rw [iJ_2115_6 hF]
      show 0 = 0 + J 3697 0
      rw [iZJ_3697 hF]
      rfl
    · exact iI_2115_7 hF
    · exact iI_2115_8 hF
    · obtain rfl : i = 0 := by omega
      exact ⟨iZJ_2193 hF, iZ_2224 hF, iZ_2256 hF⟩
    · exact ⟨iZ_3728 hF, iZ_3760 hF⟩
    · show 0 + 0 ≤ 1
      decide
    · show 0 + 0 ≤ 1
      decide
  · rw [iI_3118_30 hF]
    decide
  · have : j = 0 ∨ j = 1 ∨ j = 2 ∨ j = 3 ∨ j = 4 ∨ j = 5 ∨ j = 6 ∨ j = 7 := by omega
    rcases this with rfl | rfl | rfl | rfl | rfl | rfl | rfl | rfl
    · exact iI_3088_0 hF
    · exact iI_3088_1 hF
    · exact iI_3088_2 hF
    · exact iI_3088_3 hF
    · exact iI_3088_4 hF
    · exact iI_3088_5 hF
    · exact iI_3088_6 hF
    · exact iI_3088_7 hF
  · rw [iZJ_3697 hF]
    decide
  · have : t = 0 ∨ t = 1 := by omega
    have e0 : zPts J t = 0 := by
      rcases this with rfl | rfl
      · rfl
      · show 0 + (J 3697 0).toInt = 0
        rw [iZJ_3697 hF]
        rfl
    rw [e0]
    show 0 + (if p = 0 ∧ y = 0 then (0 : Int) else 0) ≤ _
    split <;> decide
