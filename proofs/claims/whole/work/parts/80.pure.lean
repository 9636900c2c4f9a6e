theorem zpure (L : Nat) (xs : Nat → Int32) (hL : L ≤ 2049) : zQ (zGG 328).1 ((zGG 328).1 0) (zent [.ref 22] 8) [] (zs0 L xs) (fun r τ => r = some (.int 1) ∧ τ.2.2.2.2.1 + τ.2.2.2.1 31 ≤ 601024 ∧ τ.2.2.2.2.2 ≤ 7293000) := by
  sorry
