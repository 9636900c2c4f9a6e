-- needs: 01 02.names 03 04 05 18 19 20 22 23 24 25 30 31 32 33 35 36 37 40 42 43 44 45 46 47 60 61 62 63 64 65 66 67 68 69 79f 79g 79h 79i 79j 79k 79l 79m 79n 79o 79p 79q 79r 79s 79t 79u 79v 79w 79x 79y 79z. 79za 79zb 79zc 79zd 79ze 79zf 79zg 79zh 79zi 79zj 79zk 79zl 79zm 79zn 79zo 79zp 79zq 79zr 79zs 79zt 79zu 79zv 7a 7b 7c 7d 7e 7f 7g 7zl 7zm 7zn 7zo 7h 7i 7j 7k 7l 7m 7n 7o 7p 7q 7r 7zj 7zk 7zp 7zq 7zr 7zs 7zt 7zu 79zw 7s 7t 7u 7v 7w 7x 7y 7z. 7za 7zb 7zc 7zd 7ze 7zf 7zg 7zh 7zi 7zv 7zw 7zx 7zy 7zz. 7zza 7zzb 7zzc 7zzd 7zze 7zzf 7zzg 7zzh 7zzi 7zzj 7zzk 7zzl 7zzm 7zzn 7zzo 7zzp 7zzq 7zzr 7zzs
/-! Scripts, as both have them -/
def yqK (I : zI) (k j : Nat) : Nat := (I 3312 (190 * k + j)).toInt.toNat
def yqV (J : zJ) (k j : Nat) : Int64 := J 3345 (190 * k + j)
def yqW (J : zJ) (k j : Nat) : Nat := (J 3345 (190 * k + j)).toInt.toNat
def yqY (I : zI) (k j b : Nat) : Int32 := I 3375 (64 * (190 * k + j) + b)
def yqP (I : zI) (f : Nat → Nat → Nat) (k j : Nat) : Nat := (I (32 * f 3 k + 16) j).toInt.toNat
section
variable {I : zI} {J : zJ} {P : zP} {N : Nat → Nat} {n s k : Nat} {f : Nat → Nat → Nat}
set_option maxHeartbeats 2000000 in
theorem yqs_1 (h1 : zS1 I J P N I J f n k) (h2 : zTrm I I J f k) : ∃ y : (Nat → Nat) × (Nat → Nat) × (Nat → Nat), ySf I J P N f n (yqK I k) y.1 y.2.1 y.2.2 (yqW J k) (yqP I f k) (yqV J k) (yqY I k) k ∧ ySr (yqK I k) (yqW J k) (yqV J k) (yqY I k) I J k (f 5 k) := by
  obtain ⟨zs, ls, ws, z0, l0, w0, hz⟩ := h2
  obtain ⟨p1, ⟨i1, i2, -, -, -⟩, n1, ⟨b1, b2, b3⟩, hc, hf⟩ := h1
  have kq : ∀ i, i < f 5 k → ∃ q, q < 12 ∧ yqK I k i = q ∧ I 3312 (190 * k + i) = nI q := fun i hi => by
    obtain ⟨-, -, -, -, q, q1, q2, -⟩ := hz i hi
    exact ⟨q, q1, by unfold yqK; rw [q2, nI_toInt (by omega)]; rfl, q2⟩
  have w8 : ∀ i, i < f 5 k → yqK I k i = 8 → yqW J k i ≤ 64 ∧ yqV J k i = (nI (yqW J k i)).toInt64 ∧ I (32 * f 3 k + 16) i = nI (yqP I f k i) ∧ yqP I f k i + yqW J k i ≤ f 6 k ∧ ∀ j, j < yqW J k i → I (32 * f 4 k + 15) (yqP I f k i + j) = yqY I k i j ∧ (yqY I k i j).toInt8.toInt32 = yqY I k i j := fun i hi h8 => by
    obtain ⟨q, q1, q2, q3⟩ := kq i hi
    rw [h8] at q2
    rw [← q2] at q3
    obtain ⟨w, p, x1, x2, x3, x4, x5⟩ := (hc i hi).2.2 q3
    have e1 : yqW J k i = w := by unfold yqW; rw [x2, w64_toInt (by omega)]; rfl
    have e2 : yqP I f k i = p := by unfold yqP; rw [x3, nI_toInt (by omega)]; rfl
    rw [e1, e2]
    exact ⟨x1, x2, x3, x4, x5⟩
  have sc : ySc (yqK I k) zs ls ws (yqV J k) (yqW J k) (yqY I k) (f 5 k) := by
    refine ⟨⟨b1, b2, z0, l0, w0⟩, fun i hi => ?_⟩
    have w8' := w8 i hi
    obtain ⟨a1, a2, a3, a4, q, q1, q2, c0, c1, c3, c2, c5, c6, c9, cz⟩ := hz i hi
    have ek : yqK I k i = q := by unfold yqK; rw [q2, nI_toInt (by omega)]; rfl
    rw [ek] at w8' ⊢
    refine ⟨⟨a1, a2, a3, a4, q1⟩, c0, fun h => ?_, fun h => ?_, fun h => ?_, c5, c6, c9, fun h => ?_, fun h => ⟨(w8' h).1, (w8' h).2.1, fun j hj => ((w8' h).2.2.2.2 j hj).2⟩⟩
    · obtain ⟨x1, x2, x3, x4, -⟩ := c1 h; exact ⟨x1, x2, x3, x4⟩
    · obtain ⟨x1, x2, x3, x4, -⟩ := c3 h; exact ⟨x1, x2, x3, x4⟩
    · obtain ⟨x1, x2, x3, x4, x5, x6, x7, -⟩ := c2 h; exact ⟨x1, x2, x3, x4, x5, x6, x7⟩
    · show J 3345 (190 * k + i) = 0
      rcases h with h | h | h | h | h | h | h
      · exact (c1 h).2.2.2.2
      · exact (c2 h).2.2.2.2.2.2.2.1
      · exact (c3 (Or.inl h)).2.2.2.2
      · exact (c3 (Or.inr h)).2.2.2.2
      · exact cz (Or.inl h)
      · exact cz (Or.inr (Or.inl h))
      · exact cz (Or.inr (Or.inr h))
  refine ⟨(zs, ls, ws), ⟨sc, p1, i1, n1, b3, fun j hj => ?_, hf⟩, i2, fun j hj => ⟨?_, rfl, fun _ b _ => rfl⟩⟩
  · obtain ⟨x1, x2, x3⟩ := hc j hj
    obtain ⟨q, q1, q2, q3⟩ := kq j hj
    refine ⟨by rw [x1, q3, q2], x2, fun h => ?_, fun h => ?_⟩
    · obtain ⟨-, -, -, -, q', q1', q2', -, -, -, c2, -⟩ := hz j hj
      have ek : yqK I k j = q' := by unfold yqK; rw [q2', nI_toInt (by omega)]; rfl
      exact (c2 (ek.symm.trans h)).2.2.2.2.2.2.2.2
    · obtain ⟨y1, y2, y3, y4, y5⟩ := w8 j hj h
      exact ⟨y3, y4, fun i hi => (y5 i hi).1⟩
  · obtain ⟨q, q1, q2, q3⟩ := kq j hj
    rw [q3, q2]
/-- all scripts -/
theorem yqs (h : ∀ k, k < s → zS1 I J P N I J f n k ∧ zTrm I I J f k) : ∃ zq lq wq : Nat → Nat → Nat, ∀ k, k < s → ySf I J P N f n (yqK I k) (zq k) (lq k) (wq k) (yqW J k) (yqP I f k) (yqV J k) (yqY I k) k ∧ ySr (yqK I k) (yqW J k) (yqV J k) (yqY I k) I J k (f 5 k) := by
  have key : ∀ k, ∃ y : (Nat → Nat) × (Nat → Nat) × (Nat → Nat), k < s → ySf I J P N f n (yqK I k) y.1 y.2.1 y.2.2 (yqW J k) (yqP I f k) (yqV J k) (yqY I k) k ∧ ySr (yqK I k) (yqW J k) (yqV J k) (yqY I k) I J k (f 5 k) := fun k => by
    by_cases hk : k < s
    · obtain ⟨y, hy⟩ := yqs_1 (h k hk).1 (h k hk).2
      exact ⟨y, fun _ => hy⟩
    · exact ⟨(fun _ => 0, fun _ => 0, fun _ => 0), fun h => absurd h hk⟩
  obtain ⟨y, hy⟩ := Classical.skolem.1 key
  exact ⟨fun k => (y k).1, fun k => (y k).2.1, fun k => (y k).2.2, hy⟩
end
