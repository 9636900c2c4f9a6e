theorem zpure (L : Nat) (xs : Nat → Int32) (hL : L ≤ 5) : zQ (zGG 328).1 ((zGG 328).1 0) (zent [.ref 22] 8) [] (zs0 L xs) (fun r τ => r = some (.int 1) ∧ τ.2.2.2.2.1 + τ.2.2.2.1 31 ≤ 600002 ∧ τ.2.2.2.2.2 ≤ 7302198) := by
  sorry
