-- needs: 01 02.names 03 04 05 18 19 20 22 23 24 25 30 31 32 33 35 36 37 40 42 43 44 45 46 47 60 61 62 63 64 65 66 67 68 69 79f 79g 79h 79i 79j 79k 79l 79m 79n 79o 79p 79q 79r 79s 79t 79u 79v 79w 79x 79y 79z. 79za 79zb 79zc 79zd 79ze 79zf 79zg 79zh 79zi 79zj 79zk 79zl 79zm 79zn 79zo 79zp 79zq 79zr 79zs 79zt 79zu 79zv 7a 7b 7c 7d 7e 7f 7g 7zl 7zm 7zn 7zo 7h 7i 7j 7k 7l 7m 7n 7o 7p 7q 7r 7zj 7zk 7zp 7zq 7zr 7zs 7zt 7zu 79zw 7s 7t 7u 7v 7w 7x 7y 7z. 7za 7zb 7zc 7zd 7ze 7zf 7zg 7zh 7zi 7zv 7zw 7zx 7zy 7zz. 7zza 7zzb 7zzc 7zzd 7zze 7zzf 7zzg 7zzh 7zzi 7zzj 7zzk 7zzl 7zzm 7zzn 7zzo 7zzp 7zzq 7zzr 7zzs 7zzt 7zzu 7zzv 7zzw 7zzx 7zzy 7zzz.
/-! never more of a kind than there can be: after what is applied, after what is taken -/
theorem ySpd_y {f : Nat → Int32} {ia : Nat → Nat} {hx k : Nat} : ∀ n, (∃ i, i < n ∧ ia i = k) → ySpd f ia hx n k = nI hx := by
  intro n
  induction n with
  | zero =>
    rintro ⟨i, hi, -⟩
    omega
  | succ n ih =>
    rintro ⟨i, hi, he⟩
    show (if k = ia n then nI hx else ySpd f ia hx n k) = nI hx
    by_cases h : k = ia n
    · rw [if_pos h]
    · rw [if_neg h]
      have ne : i ≠ n := fun x => h (by rw [← he, x])
      exact ih ⟨i, by omega, he⟩
section
variable {A A' : zI} {B B' : zJ} {g g' : Nat → Nat → Nat} {m e h s n no : Nat} {ia : Nat → Nat} {p : Int32} {x : Int64} {C Z : Nat → Nat} {T : Nat → Int64}
theorem zTot_sp (hh : h < 2 ^ 31) (W : zWfO A B g m e h s) (h8 : ∀ k, k < m → g 6 k ≤ 8) (hl : ∀ i, i < n → A 3664 (ia i) = -1) (r1 : ∀ k, k < m → A' 3632 k = A 3632 k ∧ A' 3664 k = ySpd (A 3664) ia h n k ∧ g' 6 k = g 6 k) (r2 : ∀ k, k < 8 * m → A' 3472 k = A 3472 k ∧ B' 3505 k = B 3505 k ∧ B' 3537 k = B 3537 k) : ∀ k, k ≤ m → (∀ t : Int, t ≤ h → zTot A' B' g' e t p x k = zTot A B g e t p x k) ∧ zTot A' B' g' e ((h : Int) + 1) p x k = zTot A B g e ((h : Int) + 1) p x k - zsM (fun k => zAmt A B k p x (g 6 k)) ia n k := by
  intro k
  induction k with
  | zero => intro _; exact ⟨fun _ _ => rfl, rfl⟩
  | succ k ih =>
    intro hk
    obtain ⟨i1, i2⟩ := ih (by omega)
    obtain ⟨a1, a2, a3⟩ := r1 k (by omega)
    have k8 := h8 k (by omega)
    have am : zAmt A' B' k p x (g' 6 k) = zAmt A B k p x (g 6 k) := by rw [a3]; exact zAmt_c _ (fun j hj => r2 _ (by omega))
    obtain ⟨⟨y, hy, e1⟩, -⟩ := W k (by omega)
    have y1 : (A 3632 k).toInt = y := by rw [e1, nI_toInt (by omega)]
    by_cases hin : ∃ i, i < n ∧ ia i = k
    · have sp : A 3664 k = -1 := by
        obtain ⟨i, hi, he⟩ := hin
        rw [← he]
        exact hl i hi
      have sp' : A' 3664 k = nI h := a2.trans (ySpd_y n hin)
      constructor
      · intro t ht
        have al : zAlv A' e k t = zAlv A e k t := propext (by
          unfold zAlv
          rw [a1, sp, sp', nI_toInt hh, wn_toInt]
          constructor
          · rintro ⟨u1, -⟩
            exact ⟨u1, Or.inl (by decide)⟩
          · rintro ⟨u1, -⟩
            exact ⟨u1, Or.inr ht⟩)
        unfold zTot
        rw [i1 t ht, am, al]
      · have al : zAlv A e k ((h : Int) + 1) := by
          refine ⟨Or.inr ?_, Or.inl (by rw [sp]; decide)⟩
          rw [y1]
          omega
        have nal : ¬ zAlv A' e k ((h : Int) + 1) := by
          rintro ⟨-, u2⟩
          rw [sp', nI_toInt hh] at u2
          omega
        unfold zTot zsM
        rw [i2, if_pos al, if_neg nal, if_pos hin]
        omega
    · have sp' : A' 3664 k = A 3664 k := a2.trans (ySpd_n n (fun j hj he => hin ⟨j, hj, he⟩))
      have al : ∀ t, zAlv A' e k t = zAlv A e k t := fun t => by unfold zAlv; rw [a1, sp']
      constructor
      · intro t ht
        unfold zTot
        rw [i1 t ht, am, al t]
      · unfold zTot zsM
        rw [i2, am, al, if_neg hin]
        omega
theorem zTot_nw (hh : h < 2 ^ 31) (he : e ≤ m) (r : ∀ o, o < no → A' 3632 (m + o) = nI h ∧ A' 3664 (m + o) = -1 ∧ g' 6 (m + o) = C (zoc Z o) ∧ ∀ j, j < C (zoc Z o) → A' 3472 (8 * (m + o) + j) = zpo T (zoc Z o) j ∧ B' 3505 (8 * (m + o) + j) = zkx T (zoc Z o) j ∧ B' 3537 (8 * (m + o) + j) = zka T (zoc Z o) j) : ∀ i, i ≤ no → (∀ t : Int, t ≤ h → zTot A' B' g' e t p x (m + i) = zTot A' B' g' e t p x m) ∧ zTot A' B' g' e ((h : Int) + 1) p x (m + i) = zTot A' B' g' e ((h : Int) + 1) p x m + zsI (fun o => zKt T (zoc Z o) p x (C (zoc Z o))) i := by
  intro i
  induction i with
  | zero => intro _; exact ⟨fun _ _ => rfl, (Int.add_zero _).symm⟩
  | succ i ih =>
    intro hi
    obtain ⟨i1, i2⟩ := ih (by omega)
    obtain ⟨r1, r2, r3, r4⟩ := r i (by omega)
    have am : zAmt A' B' (m + i) p x (g' 6 (m + i)) = zKt T (zoc Z i) p x (C (zoc Z i)) := by
      rw [r3, ← zKs_amt]
      exact zKs_c r4 _ (Nat.le_refl _)
    have al : ∀ t, zAlv A' e (m + i) t = ((h : Int) < t) := fun t => propext (by
      unfold zAlv
      rw [r1, r2, nI_toInt hh, wn_toInt]
      constructor
      · rintro ⟨u1, -⟩
        omega
      · intro u
        exact ⟨Or.inr u, Or.inl (by decide)⟩)
    have st : ∀ t, zTot A' B' g' e t p x (m + (i + 1)) = zTot A' B' g' e t p x (m + i) + @ite Int (zAlv A' e (m + i) t) (Classical.propDecidable _) (zAmt A' B' (m + i) p x (g' 6 (m + i))) 0 := fun _ => rfl
    constructor
    · intro t ht
      rw [st, al t, if_neg (by omega), i1 t ht, Int.add_zero]
    · have e1 : zsI (fun o => zKt T (zoc Z o) p x (C (zoc Z o))) (i + 1) = zsI (fun o => zKt T (zoc Z o) p x (C (zoc Z o))) i + zKt T (zoc Z i) p x (C (zoc Z i)) := rfl
      rw [e1, st, al, if_pos (by omega), i2, am]
      omega
theorem zPts_u (h1 : ∀ k, k ≠ h → B' 3697 k = B 3697 k) : (∀ k, k ≤ h → zPts B' k = zPts B k) ∧ zPts B' (h + 1) = zPts B h + (B' 3697 h).toInt := by
  have e := zPts_c (B := B) (B' := B') h (fun k hk => h1 k (by omega))
  refine ⟨fun k hk => zPts_c k (fun j hj => h1 j (by omega)), ?_⟩
  show zPts B' h + _ = _
  rw [e]
/-- applied -/
theorem zCon_a (hh : h < 2 ^ 31) (he : e ≤ m) (W : zWfO A B g m e h s) (W' : zWfO A' B' g' (m + C (zWi Z 0 2)) e h s) (h8 : ∀ k, k < m → g 6 k ≤ 8) (hl : ∀ i, i < C (zWi Z 0 0) → ia i < m ∧ A 3664 (ia i) = -1) (hd : ∀ i j, i < j → j < C (zWi Z 0 0) → ¬ ia i = ia j) (Co : zCon A B g m e h) (bm : zBm A B T C Z g ia (zLVt A B g e h m)) (fee : 0 ≤ (T (zWi Z 0 3)).toInt)
    (r1 : ∀ k, k < m → A' 3632 k = A 3632 k ∧ A' 3664 k = ySpd (A 3664) ia h (C (zWi Z 0 0)) k ∧ g' 6 k = g 6 k) (r2 : ∀ k, k < 8 * m → A' 3472 k = A 3472 k ∧ B' 3505 k = B 3505 k ∧ B' 3537 k = B 3537 k)
    (r : ∀ o, o < C (zWi Z 0 2) → A' 3632 (m + o) = nI h ∧ A' 3664 (m + o) = -1 ∧ g' 6 (m + o) = C (zoc Z o) ∧ ∀ j, j < C (zoc Z o) → A' 3472 (8 * (m + o) + j) = zpo T (zoc Z o) j ∧ B' 3505 (8 * (m + o) + j) = zkx T (zoc Z o) j ∧ B' 3537 (8 * (m + o) + j) = zka T (zoc Z o) j)
    (b1 : ∀ k, k ≠ h → B' 3697 k = B 3697 k) (b2 : B' 3697 h = B 3697 h + T (zWi Z 0 3)) : zCon A' B' g' (m + C (zWi Z 0 2)) e h := by
  have tot : ∀ p x, (∀ t : Int, t ≤ h → zTot A' B' g' e t p x (m + C (zWi Z 0 2)) = zTot A B g e t p x m) ∧ zTot A' B' g' e ((h : Int) + 1) p x (m + C (zWi Z 0 2)) = zTot A B g e ((h : Int) + 1) p x m - zIn A B g ia (C (zWi Z 0 0)) p x + zsI (fun o => zKt T (zoc Z o) p x (C (zoc Z o))) (C (zWi Z 0 2)) := fun p x => by
    obtain ⟨q1, q2⟩ := zTot_sp (p := p) (x := x) (g' := g') (A' := A') (B' := B') hh W h8 (fun i hi => (hl i hi).2) r1 r2 m (Nat.le_refl m)
    obtain ⟨q3, q4⟩ := zTot_nw (p := p) (x := x) (B' := B') hh he r (C (zWi Z 0 2)) (Nat.le_refl _)
    have q5 := zsM_e (f := fun k => zAmt A B k p x (g 6 k)) (ia := ia) (m := m) (C (zWi Z 0 0)) (fun i hi => (hl i hi).1) hd
    refine ⟨fun t ht => (q3 t ht).trans (q1 t ht), ?_⟩
    rw [q4, q2, q5]
    rfl
  have bm' : ∀ p x, zTot A' B' g' e ((h : Int) + 1) p x (m + C (zWi Z 0 2)) + (if p = 0 ∧ x = 0 then zPts B (h + 1) + (T (zWi Z 0 3)).toInt else 0) ≤ 4611686018427387904 := fun p x => by
    have q := (tot p x).2
    obtain ⟨u1, u2⟩ := bm p x
    unfold zLVt at u1
    unfold zOu at u2
    by_cases h0 : p = 0 ∧ x = 0
    · have h0' : (0 : Int32) = p ∧ (0 : Int64) = x := ⟨h0.1.symm, h0.2.symm⟩
      rw [if_pos h0] at u1 ⊢
      rw [if_pos h0'] at u2
      omega
    · have h0' : ¬ ((0 : Int32) = p ∧ (0 : Int64) = x) := fun y => h0 ⟨y.1.symm, y.2.symm⟩
      rw [if_neg h0] at u1 ⊢
      rw [if_neg h0'] at u2
      omega
  have pp := zPts_pos Co
  have ps : zPts B (h + 1) = zPts B h + (B 3697 h).toInt := rfl
  have t0 := (zTot_le (p := 0) (x := 0) (t := (h : Int) + 1) W' 0 (m + C (zWi Z 0 2)) (Nat.le_refl _)).1
  have hb := Co.1 h (Nat.le_refl h)
  have big := bm' 0 0
  rw [if_pos ⟨rfl, rfl⟩] at big
  have p0 := pp h (by omega)
  have bh : (B' 3697 h).toInt = (B 3697 h).toInt + (T (zWi Z 0 3)).toInt := by
    rw [b2, Int64.toInt_add]
    apply Int.bmod_eq_of_le <;> omega
  obtain ⟨z1, z2⟩ := zPts_u b1
  refine ⟨fun k hk => ?_, fun t ht p x => ?_⟩
  · by_cases hkh : k = h
    · rw [hkh, bh]
      omega
    · rw [b1 k hkh]
      exact Co.1 k hk
  · by_cases hth : t = h + 1
    · have e1 : ((t : Nat) : Int) = (h : Int) + 1 := by omega
      rw [e1, hth, z2, bh]
      have q := bm' p x
      rw [ps] at q
      by_cases h0 : p = 0 ∧ x = 0
      · rw [if_pos h0] at q ⊢
        omega
      · rw [if_neg h0] at q ⊢
        omega
    · rw [(tot p x).1 t (by omega), z1 t (by omega)]
      exact Co.2 t ht p x
/-- taken -/
theorem zCon_t (hh : h < 2 ^ 31) (W : zWfO A B g m e h s) (W' : zWfO A' B' g m e h s) (h8 : ∀ k, k < m → g 6 k ≤ 8) (hl : ∀ i, i < n → ia i < m ∧ A 3664 (ia i) = -1) (hd : ∀ i j, i < j → j < n → ¬ ia i = ia j) (Co : zCon A B g m e h)
    (r1 : ∀ k, k < m → A' 3632 k = A 3632 k ∧ A' 3664 k = ySpd (A 3664) ia h n k) (r2 : ∀ k, k < 8 * m → A' 3472 k = A 3472 k ∧ B' 3505 k = B 3505 k ∧ B' 3537 k = B 3537 k)
    (b1 : ∀ k, k ≠ h → B' 3697 k = B 3697 k) (b2 : B' 3697 h = B 3697 h + zsJ (fun i => zHd (A 3472) (B 3505) (B 3537) (g 6) 0 0 (ia i)) n) : zCon A' B' g m e h := by
  have tot : ∀ p x, (∀ t : Int, t ≤ h → zTot A' B' g e t p x m = zTot A B g e t p x m) ∧ zTot A' B' g e ((h : Int) + 1) p x m = zTot A B g e ((h : Int) + 1) p x m - zsI (fun i => zAmt A B (ia i) p x (g 6 (ia i))) n := fun p x => by
    obtain ⟨q1, q2⟩ := zTot_sp (p := p) (x := x) (g' := g) (A' := A') (B' := B') hh W h8 (fun i hi => (hl i hi).2) (fun k hk => ⟨(r1 k hk).1, (r1 k hk).2, rfl⟩) r2 m (Nat.le_refl m)
    have q5 := zsM_e (f := fun k => zAmt A B k p x (g 6 k)) (ia := ia) (m := m) n (fun i hi => (hl i hi).1) hd
    refine ⟨q1, ?_⟩
    rw [q2, q5]
  have pos : ∀ p x, 0 ≤ zsI (fun i => zAmt A B (ia i) p x (g 6 (ia i))) n := fun p x => zsI_pos n (fun i hi => zAmt_pos _ (fun j hj => ((W _ (hl i hi).1).2.2.2.1 j hj).2.1))
  have sj : (zsJ (fun i => zHd (A 3472) (B 3505) (B 3537) (g 6) 0 0 (ia i)) n).toInt = zsI (fun i => zAmt A B (ia i) 0 0 (g 6 (ia i))) n := by
    have ec : ∀ k, k ≤ n → zsI (fun i => (zHd (A 3472) (B 3505) (B 3537) (g 6) 0 0 (ia i)).toInt) k = zsI (fun i => zAmt A B (ia i) 0 0 (g 6 (ia i))) k := by
      intro k
      induction k with
      | zero => intro _; rfl
      | succ k ih =>
        intro hk
        have e1 := ih (by omega)
        have e2 := zHd_toInt (A := A) (B := B) (g := g) (p := 0) (x := 0) (W _ (hl k (by omega)).1).2.2.2.2.1
        show zsI _ k + _ = zsI _ k + _
        rw [e1]
        exact congrArg (fun y => zsI (fun i => zAmt A B (ia i) 0 0 (g 6 (ia i))) k + y) e2
    have le := zsI_t (p := 0) (x := 0) W hh hl hd
    have tb := Co.2 (h + 1) (Nat.le_refl _) 0 0
    rw [if_pos ⟨rfl, rfl⟩] at tb
    have pp := zPts_pos Co (h + 1) (Nat.le_refl _)
    have e1 : (((h + 1 : Nat) : Int)) = (h : Int) + 1 := by omega
    rw [e1] at tb
    rw [zsJ_i (n := n) (fun i hi => ?_) (by rw [ec n (Nat.le_refl n)]; omega) n (Nat.le_refl n)]
    · exact ec n (Nat.le_refl n)
    · show 0 ≤ (zHd (A 3472) (B 3505) (B 3537) (g 6) 0 0 (ia i)).toInt
      rw [zHd_toInt (A := A) (B := B) (g := g) (p := 0) (x := 0) (W _ (hl i hi).1).2.2.2.2.1]
      exact zAmt_pos _ (fun j hj => ((W _ (hl i hi).1).2.2.2.1 j hj).2.1)
  have cb := fun p x => Co.2 (h + 1) (Nat.le_refl _) p x
  have e1 : (((h + 1 : Nat) : Int)) = (h : Int) + 1 := by omega
  rw [e1] at cb
  have pp := zPts_pos Co
  have ps : zPts B (h + 1) = zPts B h + (B 3697 h).toInt := rfl
  have t0 := (zTot_le (p := 0) (x := 0) (t := (h : Int) + 1) W' 0 m (Nat.le_refl _)).1
  have hb := Co.1 h (Nat.le_refl h)
  have big := cb 0 0
  rw [if_pos ⟨rfl, rfl⟩] at big
  have p0 := pp h (by omega)
  have q0 := (tot 0 0).2
  have s0 := pos 0 0
  have bh : (B' 3697 h).toInt = (B 3697 h).toInt + zsI (fun i => zAmt A B (ia i) 0 0 (g 6 (ia i))) n := by
    rw [b2, Int64.toInt_add, sj]
    apply Int.bmod_eq_of_le <;> omega
  obtain ⟨z1, z2⟩ := zPts_u b1
  refine ⟨fun k hk => ?_, fun t ht p x => ?_⟩
  · by_cases hkh : k = h
    · rw [hkh, bh]
      omega
    · rw [b1 k hkh]
      exact Co.1 k hk
  · by_cases hth : t = h + 1
    · have e1 : ((t : Nat) : Int) = (h : Int) + 1 := by omega
      rw [e1, hth, z2, bh]
      have q := (tot p x).2
      have c := cb p x
      have ps' := pos p x
      by_cases h0 : p = 0 ∧ x = 0
      · obtain ⟨rfl, rfl⟩ := h0
        rw [if_pos ⟨rfl, rfl⟩] at c ⊢
        omega
      · rw [if_neg h0] at c ⊢
        omega
    · rw [(tot p x).1 t (by omega), z1 t (by omega)]
      exact Co.2 t ht p x
end
