-- needs: 01 02.names 03 04 05 18 19 20 22 23 24 25 30 31 32 33 35 36 37 40 42 43 44 45 46 47 60 61 62 63 64 65 66 67 68 69 79f 79g 79h 79i 79j 79k 79l 79m 79n 79o 79p 79q 79r 79s 79t 79u 79v 79w 79x 79y 79z. 79za 79zb 79zc 79zd 79ze 79zf 79zg 79zh 79zi 79zj 79zl 79zm 79zn
/-! is a transaction balanced? the class -/
/-- the coins of the list at node c: names, amounts (policies: zpo) -/
def zkx (T : Nat → Int64) (c : Nat) : Nat → Int64 := fun j => T (c + 1 + 4 * j + 2)
def zka (T : Nat → Int64) (c : Nat) : Nat → Int64 := fun j => T (c + 1 + 4 * j + 3)
def zKt (T : Nat → Int64) (c : Nat) (q : Int32) (y : Int64) (k : Nat) : Int := zKs (zpo T c) (zkx T c) (zka T c) q y k
/-- minted; the coins of output i; paid by the first k outputs; spent by the first k inputs -/
def zMin (T : Nat → Int64) (C Z : Nat → Nat) (q : Int32) (y : Int64) : Int := zKt T (zWi Z 0 5) q y (C (zWi Z 0 5))
def zoc (Z : Nat → Nat) (i : Nat) : Nat := zWi Z (zWi Z (zWi Z 0 2) i) 1
def zOu (T : Nat → Int64) (C Z : Nat → Nat) (k : Nat) (q : Int32) (y : Int64) : Int := (if (0 : Int32) = q ∧ (0 : Int64) = y then (T (zWi Z 0 3)).toInt else 0) + zsI (fun i => zKt T (zoc Z i) q y (C (zoc Z i))) k
def zIn (I : zI) (J : zJ) (g : Nat → Nat → Nat) (ia : Nat → Nat) (k : Nat) (q : Int32) (y : Int64) : Int := zsI (fun i => zAmt I J (ia i) q y (g 6 (ia i))) k
def zBa (I : zI) (J : zJ) (T : Nat → Int64) (C Z : Nat → Nat) (g : Nat → Nat → Nat) (ia : Nat → Nat) : Prop := (∀ q y, zOu T C Z (C (zWi Z 0 2)) q y ≤ 4611686018427387904) ∧ ∀ q y, zIn I J g ia (C (zWi Z 0 0)) q y + zMin T C Z q y = zOu T C Z (C (zWi Z 0 2)) q y
/-- only the two tables have changed -/
def zSpf (I : zI) (J : zJ) (I' : zI) (J' : zJ) : Prop := (∀ c, c ≠ 2273 → c ≠ 2320 → c ≠ 2401 → c ≠ 2448 → I' c = I c) ∧ ∀ c, c ≠ 2353 → c ≠ 2385 → c ≠ 2481 → c ≠ 2513 → J' c = J c
theorem zSpf_tr {I I' I'' : zI} {J J' J'' : zJ} (h : zSpf I J I' J') (h' : zSpf I' J' I'' J'') : zSpf I J I'' J'' := ⟨fun c a b d e => (h'.1 c a b d e).trans (h.1 c a b d e), fun c a b d e => (h'.2 c a b d e).trans (h.2 c a b d e)⟩
theorem zSpf_1 {I I' : zI} {J J' : zJ} (h : zCxf I J I' J' 2273 2320 2353 2385) : zSpf I J I' J' := ⟨fun c a b _ _ => h.1 c a b, fun c a b _ _ => h.2.2 c a b⟩
theorem zSpf_2 {I I' : zI} {J J' : zJ} (h : zCxf I J I' J' 2401 2448 2481 2513) : zSpf I J I' J' := ⟨fun c _ _ a b => h.1 c a b, fun c _ _ a b => h.2.2 c a b⟩
section
variable {I I' : zI} {J J' : zJ} {P : zP} {N : Nat → Nat} {n z m K s e hx : Nat} {F C Z X H L ad ia ca : Nat → Nat} {g : Nat → Nat → Nat} {T : Nat → Int64} {Q : Option Value → zS → Prop}
theorem zHas_x (e : ∀ c, c < 2115 → I' c = I c ∧ J' c = J c) (h : zHas I J F T C Z H X L K s) : zHas I' J' F T C Z H X L K s := by
  obtain ⟨D, hv, ⟨⟨s1, s2⟩, s3, ⟨s4, s5⟩, s6, s7, s8⟩, t⟩ := h
  have hc := t.2.2.2.1.1.2.2
  refine ⟨D, zCv_x (e 79 (by omega)).1 (e 112 (by omega)).1 (e 144 (by omega)).1 (e 209 (by omega)).2 (e 176 (by omega)).1 hv, ⟨⟨fun i hi => ?_, fun i hi => ?_⟩, fun i hi => ?_, ⟨?_, fun k hk => ?_⟩, ?_, fun q hq => ?_, fun q hq => ?_⟩, t⟩
  · rw [(e 688 (by omega)).1]; exact s1 i hi
  · rw [(e 720 (by omega)).1]; exact s2 i hi
  · obtain ⟨⟨a1, a2, a3, a4⟩, a5, a6⟩ := s3 i hi
    refine ⟨⟨?_, ?_, ?_, ?_⟩, ?_, fun k hk => ?_⟩
    · rw [(e 752 (by omega)).1]; exact a1
    · rw [(e 784 (by omega)).1]; exact a2
    · rw [(e 848 (by omega)).1]; exact a3
    · rw [(e 880 (by omega)).1]; exact a4
    · rw [(e (1089 + 128 * i) (by omega)).1]; exact a5
    · rw [(e (1136 + 128 * i) (by omega)).1, (e (1169 + 128 * i) (by omega)).2, (e (1201 + 128 * i) (by omega)).2]; exact a6 k hk
  · rw [(e 897 (by omega)).1]; exact s4
  · rw [(e 944 (by omega)).1, (e 977 (by omega)).2, (e 1009 (by omega)).2]; exact s5 k hk
  · rw [(e 649 (by omega)).1]; exact s6
  · rw [(e 1040 (by omega)).1]; exact s7 q hq
  · rw [(e 1072 (by omega)).1]; exact s8 q hq
theorem zSpf_h (f : zSpf I J I' J') (h : zHas I J F T C Z H X L K s) : zHas I' J' F T C Z H X L K s := zHas_x (fun c hc => ⟨f.1 c (by omega) (by omega) (by omega) (by omega), f.2 c (by omega) (by omega) (by omega) (by omega)⟩) h
theorem zSpf_o (f : zSpf I J I' J') (O : zOuts I J P N I J g n m) : zOuts I' J' P N I' J' g n m := by
  refine zOuts_m (A := I) (B := J) (fun a ha _ _ _ _ => ?_) (zOuts_c (I := I) (J := J) (P := P) (N := N) ⟨fun a ha => ⟨f.1 a (by omega) (by omega) (by omega) (by omega), f.2 a (by omega) (by omega) (by omega) (by omega), rfl, rfl⟩, rfl, rfl⟩ (Nat.le_refl _) O)
  have : 3151 ≤ a := by unfold zKm at ha; omega
  exact ⟨f.1 a (by omega) (by omega) (by omega) (by omega), f.2 a (by omega) (by omega) (by omega) (by omega)⟩
theorem zTb_x {c rp rn ra w : Nat} {V : Int32 → Int64 → Int} (h1 : I' c = I c) (h2 : I' rp = I rp) (h3 : J' rn = J rn) (h4 : J' ra = J ra) (hT : zTb I J P N c rp rn ra w V) : zTb I' J' P N c rp rn ra w V := by
  unfold zTb zCo at *
  rw [h1, h2, h3, h4]
  exact hT
theorem zAm_or {po : Nat → Int32} {nm am : Nat → Int64} {w : Nat} {q : Int32} {y : Int64} : zAm po nm am w q y = 0 ∨ ∃ i, i < w ∧ zAm po nm am w q y = am i := by
  unfold zAm
  by_cases h : zPl po nm q y w 0 < w ∧ po (zPl po nm q y w 0) = q ∧ nm (zPl po nm q y w 0) = y
  · rw [if_pos h]; exact Or.inr ⟨_, h.1, rfl⟩
  · rw [if_neg h]; exact Or.inl rfl
theorem zEq3 {u v w : Int64} (u1 : 0 ≤ u.toInt) (u2 : u.toInt ≤ 4611686018427387904) (v1 : -4611686018427387904 ≤ v.toInt) (v2 : v.toInt ≤ 4611686018427387904) (w1 : 0 ≤ w.toInt) (w2 : w.toInt ≤ 4611686018427387904) : (u + v = w) ↔ u.toInt + v.toInt = w.toInt := by
  rw [← Int64.toInt_inj, Int64.toInt_add]
  by_cases h : u.toInt + v.toInt < 9223372036854775808
  · rw [Int.bmod_eq_of_le (by omega) (by omega)]
  · have hu : u.toInt = 4611686018427387904 := by omega
    have hv : v.toInt = 4611686018427387904 := by omega
    rw [hu, hv]
    have : Int.bmod (4611686018427387904 + 4611686018427387904) (2 ^ 64) = -9223372036854775808 := by decide
    rw [this]
    omega
/-- a list of coins lies in order -/
theorem zCns_s {mi : Prop} [Decidable mi] {c : Nat} (hs32 : s ≤ 32) (h : zCns F T C s mi c) : zSrt (zpo T c) (zkx T c) (C c) := by
  have num : ∀ j, j < C c → ∃ a, T (c + 1 + 4 * j + 1) = (nI a).toInt64 := fun j hj => by
    obtain ⟨-, ⟨a1, a2, -⟩, -, -⟩ := h j hj
    have h0 : (0 : Int64) ≤ T (c + 1 + 4 * j + 1) := by
      refine Int64.le_trans ?_ a1
      unfold zlP
      split <;> decide
    have i0 := Int64.le_iff_toInt_le.1 h0
    have i1 := Int64.le_iff_toInt_le.1 a2
    have e0 : (0 : Int64).toInt = 0 := rfl
    have e1 : (nI s).toInt64.toInt = s := by rw [Int32.toInt_toInt64, nI_toInt (by omega)]
    rw [e0] at i0
    rw [e1] at i1
    refine ⟨(T (c + 1 + 4 * j + 1)).toInt.toNat, ?_⟩
    rw [← Int64.toInt_inj, Int32.toInt_toInt64, nI_toInt (by omega)]
    omega
  have con : ∀ j, j + 1 < C c → zAhd (zpo T c j) (zkx T c j) (zpo T c (j + 1)) (zkx T c (j + 1)) := fun j hj => by
    obtain ⟨-, -, -, hb⟩ := h (j + 1) hj
    obtain ⟨a, ha⟩ := num j (by omega)
    obtain ⟨b, hb'⟩ := num (j + 1) hj
    rcases hb with hb | hb
    · exact absurd hb (by omega)
    · have x1 : c + 1 + 4 * (j + 1) - 3 = c + 1 + 4 * j + 1 := by omega
      have x2 : c + 1 + 4 * (j + 1) - 2 = c + 1 + 4 * j + 2 := by omega
      rw [x1, x2, ← zBf_i ha hb'] at hb
      exact hb
  have gen : ∀ d i, i + d + 1 < C c → zAhd (zpo T c i) (zkx T c i) (zpo T c (i + d + 1)) (zkx T c (i + d + 1)) := by
    intro d
    induction d with
    | zero => intro i hi; exact con i hi
    | succ d ih => intro i hi; exact zAhd_tr (ih i (by omega)) (con (i + d + 1) hi)
  intro i j hij hj
  have := gen (j - i - 1) i (by omega)
  have e : i + (j - i - 1) + 1 = j := by omega
  rw [e] at this
  exact this
/-- amounts of coins -/
theorem zCns_a {mi : Prop} [Decidable mi] {c : Nat} (h : zCns F T C s mi c) : ∀ j, j < C c → -4611686018427387904 ≤ (zka T c j).toInt ∧ (zka T c j).toInt ≤ 4611686018427387904 ∧ ¬ (zka T c j).toInt = 0 := fun j hj => by
  obtain ⟨-, -, ⟨a1, a2, a3⟩, -⟩ := h j hj
  have i0 := Int64.le_iff_toInt_le.1 a1
  have i1 := Int64.le_iff_toInt_le.1 a2
  have e1 : (4611686018427387904 : Int64).toInt = 4611686018427387904 := rfl
  rw [e1] at i1
  refine ⟨?_, i1, fun h0 => a3 (Int64.toInt_inj.1 h0)⟩
  have : -4611686018427387904 ≤ (zlA mi).toInt := by
    unfold zlA
    split <;> decide
  show -4611686018427387904 ≤ (T (c + 1 + 4 * j + 3)).toInt
  omega
theorem zCns_f {c : Nat} (h : zCns F T C s False c) : ∀ j, j < C c → 1 ≤ (zka T c j).toInt ∧ (zka T c j).toInt ≤ 4611686018427387904 := fun j hj => by
  obtain ⟨-, -, ⟨a1, a2, a3⟩, -⟩ := h j hj
  have i0 := Int64.le_iff_toInt_le.1 a1
  have i1 := Int64.le_iff_toInt_le.1 a2
  have e0 : (zlA False).toInt = 1 := rfl
  have e1 : (4611686018427387904 : Int64).toInt = 4611686018427387904 := rfl
  rw [e0] at i0
  rw [e1] at i1
  exact ⟨i0, i1⟩
end
