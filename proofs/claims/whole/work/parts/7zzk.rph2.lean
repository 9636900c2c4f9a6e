-- needs: 01 02.names 03 04 05 18 19 20 22 23 24 25 30 31 32 33 35 36 37 40 42 43 44 45 46 47 60 61 62 63 64 65 66 67 68 69 79f 79g 79h 79i 79j 79k 79l 79m 79n 79o 79p 79q 79r 79s 79t 79u 79v 79w 79x 79y 79z. 79za 79zb 79zc 79zd 79ze 79zf 79zg 79zh 79zi 79zj 79zk 79zl 79zm 79zn 79zo 79zp 79zq 79zr 79zs 79zt 79zu 79zv 7a 7b 7c 7d 7e 7f 7g 7zl 7zm 7zn 7zo 7h 7i 7j 7k 7l 7m 7n 7o 7p 7q 7r 7zj 7zk 7zp 7zq 7zr 7zs 7zt 7zu 79zw 7s 7t 7u 7v 7w 7x 7y 7z. 7za 7zb 7zc 7zd 7ze 7zf 7zg 7zh 7zi 7zv 7zw 7zx 7zy 7zz. 7zza 7zzb 7zzc 7zzd 7zze 7zzf 7zzg 7zzh 7zzi 7zzj
/-! PHASE TWO, by the reference: what stands -/
theorem ydm_w {d : yD} (h : ywf d) : ydm d ≤ 12800 := by
  obtain ⟨K, F, C, T, Z, L, Y⟩ := d
  have hD := h.1
  have key : ∀ k, k ≤ K → ysm F C k ≤ 64 * k := by
    intro k
    induction k with
    | zero => intro _; exact Nat.le_refl _
    | succ k ih =>
      intro hk
      have := ih (by omega)
      show ysm F C k + (if F k = 2 then C k else 0) ≤ _
      split
      · rename_i h2
        have := (hD.2 k (by omega)).2.2.1.2.2.1 h2
        omega
      · omega
  have := key K (Nat.le_refl _)
  have := hD.1.2.1
  show ysm F C K ≤ 12800
  omega
theorem ydm_d {row : Nat → Int32} {k t : Nat} (h : zDk row k t) : ydm (yDm row k t) ≤ t := by
  have key : ∀ j, ysm (fun j => znQ (yDb row k t) (zat (yDb row k t) j)) (fun j => znC (yDb row k t) (zat (yDb row k t) j)) j ≤ zat (yDb row k t) j := by
    intro j
    induction j with
    | zero => exact Nat.le_refl _
    | succ j ih =>
      have e : zat (yDb row k t) (j + 1) = znX (yDb row k t) (zat (yDb row k t) j) := rfl
      rw [e]
      show ysm _ _ j + (if znQ (yDb row k t) (zat (yDb row k t) j) = 2 then znC (yDb row k t) (zat (yDb row k t) j) else 0) ≤ _
      have hx : ∀ a, a ≤ zhX (yDb row k t) a := fun a => by unfold zhX; omega
      have x1 := hx (zat (yDb row k t) j)
      split
      · rename_i h2
        have h2' : zhQ (yDb row k t) (zat (yDb row k t) j) = 2 := by
          unfold znQ at h2
          split at h2
          · cases h2
          · exact h2
        unfold znX
        rw [if_pos h2']
        omega
      · unfold znX
        split
        · omega
        · split
          · have := hx (zhX (yDb row k t) (zat (yDb row k t) j))
            omega
          · omega
  have h1 := (zdr_f 201 0 (yDm_r h) (by omega) (by omega)).2
  have := key (yDm row k t).1
  have hs := yDm_s h ((yDm row k t).1 - 1) (by omega)
  obtain ⟨-, -, a3, -⟩ := zn_v (B := yDb row k t) (B' := yDb row k t) (a0 := 0) (e := t) (fun i _ => by rw [Nat.zero_add]) hs
  have e : zat (yDb row k t) (yDm row k t).1 = znX (yDb row k t) (zat (yDb row k t) ((yDm row k t).1 - 1)) := by
    obtain ⟨q, hq⟩ : ∃ q, (yDm row k t).1 = q + 1 := ⟨(yDm row k t).1 - 1, by omega⟩
    rw [hq]
    rfl
  rw [← e] at a3
  exact Nat.le_trans this a3
theorem yGn_l {I I' : zI} {J J' : zJ} {t : Nat} {d : yD} (h1 : I' 5840 t = I 5840 t) (h2 : ∀ i, i < 200 → I' 5872 (200 * t + i) = I 5872 (200 * t + i) ∧ J' 5905 (200 * t + i) = J 5905 (200 * t + i) ∧ I' 5936 (200 * t + i) = I 5936 (200 * t + i) ∧ I' 5968 (200 * t + i) = I 5968 (200 * t + i)) (h3 : ∀ k, k < 4096 → I' 5999 (4096 * t + k) = I 5999 (4096 * t + k)) (g : yGn I J t d) : yGn I' J' t d := by
  obtain ⟨g1, g2, g3⟩ := g
  refine ⟨h1.trans g1, g2, yEt_m (fun p f c x zz y _ hp h => ?_) g3⟩
  obtain ⟨a1, a2, a3, a4⟩ := h
  obtain ⟨b1, b2, b3, b4⟩ := h2 p (by omega)
  refine ⟨b1.trans a1, b2.trans a2, b3.trans a3, fun hf => ?_⟩
  obtain ⟨q, q1, q2, q3⟩ := a4 hf
  exact ⟨q, b4.trans q1, q2, fun i hi => (h3 _ (by omega)).trans (q3 i hi)⟩
/-- phase two leaves, of the reference -/
def yFr (I : zI) (J : zJ) (I' : zI) (J' : zJ) (K sz : Nat) : Prop :=
  ((∀ c, c ≠ 3118 → c ≠ 3151 → c ≠ 3280 → c ≠ 3792 → c ≠ 3856 → c ≠ 3888 → c ≠ 3920 → c ≠ 3952 → c ≠ 3984 → c ≠ 4144 → (c < 4908 ∨ 6432 ≤ c) → I' c = I c) ∧ (∀ j, j ≠ 32 → j ≠ 33 → j ≠ 34 → j ≠ 35 → j ≠ 36 → j ≠ 55 → j ≠ 66 → j ≠ 74 → I' 3118 j = I 3118 j)) ∧ (∀ j, j < K → I' 3792 j = I 3792 j ∧ J' 3825 j = J 3825 j ∧ I' 3856 j = I 3856 j ∧ I' 3888 j = I 3888 j ∧ I' 3920 j = I 3920 j ∧ I' 3952 j = I 3952 j) ∧ (∀ j, j < sz → I' 3151 j = I 3151 j) ∧ (∀ c, c ≠ 3118 → c ≠ 3825 → c ≠ 4017 → c ≠ 4177 → c ≠ 4209 → c ≠ 4241 → c ≠ 4273 → (c < 4908 ∨ 6432 ≤ c) → J' c = J c) ∧ ∀ j, j ≠ 29 → j ≠ 49 → J' 3118 j = J 3118 j
/-- told by the reference -/
def yTr (I : zI) (J : zJ) (s : Nat) : yLt → Prop
  | (r, a, S, W, kk, u, q) => (I 3118 32 = r ∧ I 3118 33 = a ∧ I 3118 34 = S ∧ I 3118 35 = W ∧ I 3118 36 = kk) ∧ (∀ k, I 3280 k = u k) ∧ J 3118 29 = q
/-- what is not told -/
def yNt (I : zI) (J : zJ) (I' : zI) (J' : zJ) : Prop := (∀ j, j = 32 ∨ j = 33 ∨ j = 34 ∨ j = 35 ∨ j = 36 → I' 3118 j = I 3118 j) ∧ I' 3280 = I 3280 ∧ J' 3118 29 = J 3118 29
section
variable {I I' I'' : zI} {J J' J'' : zJ} {K sz s : Nat}
theorem yTr_n {l : yLt} (h : yNt I J I' J') (t : yTr I J s l) : yTr I' J' s l := by
  obtain ⟨r, a, S, W, kk, u, q⟩ := l
  obtain ⟨⟨t1, t2, t3, t4, t5⟩, t6, t7⟩ := t
  obtain ⟨a1, a2, a3⟩ := h
  exact ⟨⟨(a1 32 (by omega)).trans t1, (a1 33 (by omega)).trans t2, (a1 34 (by omega)).trans t3, (a1 35 (by omega)).trans t4, (a1 36 (by omega)).trans t5⟩, fun k => by rw [a2]; exact t6 k, a3.trans t7⟩
theorem yNt_t (h : yNt I J I' J') (h' : yNt I' J' I'' J'') : yNt I J I'' J'' := ⟨fun j hj => (h'.1 j hj).trans (h.1 j hj), h'.2.1.trans h.2.1, h'.2.2.trans h.2.2⟩
theorem yFr_r : yFr I J I J K sz := ⟨⟨fun _ _ _ _ _ _ _ _ _ _ _ _ => rfl, fun _ _ _ _ _ _ _ _ _ => rfl⟩, fun _ _ => ⟨rfl, rfl, rfl, rfl, rfl, rfl⟩, fun _ _ => rfl, fun _ _ _ _ _ _ _ _ _ => rfl, fun _ _ _ => rfl⟩
theorem yFr_t (h : yFr I J I' J' K sz) (h' : yFr I' J' I'' J'' K sz) : yFr I J I'' J'' K sz := by
  obtain ⟨⟨a1, a2⟩, a3, a4, a5, a6⟩ := h
  obtain ⟨⟨b1, b2⟩, b3, b4, b5, b6⟩ := h'
  refine ⟨⟨fun c x1 x2 x3 x4 x5 x6 x7 x8 x9 x10 x11 => (b1 c x1 x2 x3 x4 x5 x6 x7 x8 x9 x10 x11).trans (a1 c x1 x2 x3 x4 x5 x6 x7 x8 x9 x10 x11), fun j x1 x2 x3 x4 x5 x6 x7 x8 => (b2 j x1 x2 x3 x4 x5 x6 x7 x8).trans (a2 j x1 x2 x3 x4 x5 x6 x7 x8)⟩, fun j hj => ?_, fun j hj => (b4 j hj).trans (a4 j hj), fun c x1 x2 x3 x4 x5 x6 x7 x8 => (b5 c x1 x2 x3 x4 x5 x6 x7 x8).trans (a5 c x1 x2 x3 x4 x5 x6 x7 x8), fun j x1 x2 => (b6 j x1 x2).trans (a6 j x1 x2)⟩
  obtain ⟨c1, c2, c3, c4, c5, c6⟩ := a3 j hj
  obtain ⟨d1, d2, d3, d4, d5, d6⟩ := b3 j hj
  exact ⟨d1.trans c1, d2.trans c2, d3.trans c3, d4.trans c4, d5.trans c5, d6.trans c6⟩
/-- nothing below the machine but 66, 55 and sums -/
theorem yFr_s (h1 : ∀ c, c ≠ 3118 → c ≠ 4144 → (c < 4908 ∨ 6432 ≤ c) → I' c = I c) (h2 : ∀ j, j ≠ 55 → j ≠ 66 → I' 3118 j = I 3118 j) (h3 : ∀ c, c ≠ 4177 → c ≠ 4209 → c ≠ 4241 → c ≠ 4273 → (c < 4908 ∨ 6432 ≤ c) → J' c = J c) : yFr I J I' J' K sz ∧ yNt I J I' J' := by
  have e : ∀ c, c = 3792 ∨ c = 3856 ∨ c = 3888 ∨ c = 3920 ∨ c = 3952 ∨ c = 3151 ∨ c = 3280 → I' c = I c := fun c hc => h1 c (by omega) (by omega) (by omega)
  refine ⟨⟨⟨fun c x1 x2 x3 x4 x5 x6 x7 x8 x9 x10 x11 => h1 c x1 x10 x11, fun j x1 x2 x3 x4 x5 x6 x7 x8 => h2 j x6 x7⟩, fun j hj => ?_, fun j hj => ?_, fun c x1 x2 x3 x4 x5 x6 x7 x8 => h3 c x4 x5 x6 x7 x8, fun j _ _ => ?_⟩, fun j hj => h2 j (by omega) (by omega), e 3280 (by omega), ?_⟩
  · rw [e 3792 (by omega), e 3856 (by omega), e 3888 (by omega), e 3920 (by omega), e 3952 (by omega), h3 3825 (by decide) (by decide) (by decide) (by decide) (by omega)]
    exact ⟨rfl, rfl, rfl, rfl, rfl, rfl⟩
  · rw [e 3151 (by omega)]
  · rw [h3 3118 (by decide) (by decide) (by decide) (by decide) (by omega)]
  · rw [h3 3118 (by decide) (by decide) (by decide) (by decide) (by omega)]
theorem yFr_d (h : yDr I J I' J' K sz) : yFr I J I' J' K sz ∧ yNt I J I' J' := by
  obtain ⟨a1, a2, a3, a4, a5, a6⟩ := h
  refine ⟨⟨⟨fun c x1 x2 x3 x4 x5 x6 x7 x8 x9 x10 x11 => a1 c x1 x2 x4 x5 x6 x7 x8 x9 (by omega) (by omega) (by omega) (by omega) (by omega) (by omega) (by omega) (by omega) (by omega) (by omega) (by omega), fun j x1 x2 x3 x4 x5 x6 x7 x8 => a2 j x7 x8⟩, a3, a4, fun c x1 x2 x3 x4 x5 x6 x7 x8 => a5 c x1 x2 x3 (by omega) (by omega), fun j _ x => a6 j x⟩, fun j hj => a2 j (by omega) (by omega), a1 3280 (by decide) (by decide) (by decide) (by decide) (by decide) (by decide) (by decide) (by decide) (by decide) (by decide) (by decide) (by decide) (by decide) (by decide) (by decide) (by decide) (by decide) (by decide) (by decide), a6 29 (by decide)⟩
theorem yFr_g {t gv gv' : Nat} (h : yGg I J I' J' t gv gv') : yFr I J I' J' K sz ∧ yNt I J I' J' := yFr_s (fun c x1 _ x3 => h.1.1 c x1 (by omega) (by omega) (by omega)) (fun j _ x2 => h.1.2.1 j x2) (fun c _ _ _ _ x => h.1.2.2 c (by omega))
theorem yFr_c (h : yGc I J I' J') : yFr I J I' J' K sz ∧ yNt I J I' J' := yFr_s (fun c x1 x2 x3 => h.1 c x1 x2 (by omega) (by omega) (by omega) (by omega) (by omega)) (fun j x1 x2 => h.2.1 j x1 x2) (fun c x1 x2 x3 x4 x5 => h.2.2.1 c x1 x2 x3 x4 (by omega))
/-- only the machine's cells have changed -/
theorem yFr_m (h1 : ∀ c, c < 4908 ∨ 6432 ≤ c → I' c = I c) (h3 : ∀ c, c < 4908 ∨ 6432 ≤ c → J' c = J c) : yFr I J I' J' K sz ∧ yNt I J I' J' := yFr_s (fun c _ _ x => h1 c x) (fun j _ _ => by rw [h1 3118 (by omega)]) (fun c _ _ _ _ x => h3 c x)
end
/-- what phase two rests on, of the reference -/
def yHr (I : zI) (J : zJ) (g : Nat → Nat → Nat) (F : Nat → Nat) (T : Nat → Int64) (C Z H X L : Nat → Nat) (Y : Nat → Nat → Int32) (ia ca : Nat → Nat) (K s m e hx sz : Nat) : Prop :=
  (zHam I J F T C Z H X L K s ∧ zInm I C Z ia ca ∧ zWfO I J g m e hx s ∧ (∀ k, k < m → I 3440 k = nI (g 6 k) ∧ g 6 k ≤ 8) ∧ (∀ q y, zIn I J g ia (C (zWi Z 0 0)) q y ≤ 4611686018427387904) ∧ ∀ w, zNkd (zIn I J g ia (C (zWi Z 0 0))) w → zCtn C Z w ≤ 200) ∧
  (I 3118 2 = nI sz ∧ (∀ k, k < sz → (I 3151 k).toInt8.toInt32 = I 3151 k) ∧ ∀ j, j < K → F j = 2 → X j + C j ≤ sz ∧ ∀ i, i < C j → I 3151 (X j + i) = Y j i) ∧ (I 3118 38 = nI K ∧ I 3118 31 = -1 ∧ I 3118 48 = 0) ∧ ∀ a, a < m → I 3600 a = nI (g 7 a) ∧ g 7 a ≤ 128
section
variable {I I' : zI} {J J' : zJ} {K s m e hx sz : Nat} {F C Z X H L ia ca : Nat → Nat} {g : Nat → Nat → Nat} {T : Nat → Int64} {Y : Nat → Nat → Int32}
theorem zIn_r (h : yFr I J I' J' K sz) {k : Nat} : zIn I' J' g ia k = zIn I J g ia k := by
  funext q y
  unfold zIn
  congr 1
  funext i
  refine zAmt_c _ (fun j _ => ?_)
  rw [h.1.1 3472 (by decide) (by decide) (by decide) (by decide) (by decide) (by decide) (by decide) (by decide) (by decide) (by decide) (by omega), h.2.2.2.1 3505 (by decide) (by decide) (by decide) (by decide) (by decide) (by decide) (by decide) (by omega), h.2.2.2.1 3537 (by decide) (by decide) (by decide) (by decide) (by decide) (by decide) (by decide) (by omega)]
  exact ⟨rfl, rfl, rfl⟩
theorem yHr_f (f : yFr I J I' J' K sz) (h : yHr I J g F T C Z H X L Y ia ca K s m e hx sz) : yHr I' J' g F T C Z H X L Y ia ca K s m e hx sz := by
  obtain ⟨⟨⟨h1, h2, h3, h4⟩, ⟨i1, i2, i3, i4⟩, wf, h6, h7, h8⟩, ⟨t1, t2, t3⟩, ⟨u1, u2, u3⟩, v⟩ := h
  have q : ∀ c, (3280 < c ∧ c < 3790) ∨ c = 4048 ∨ c = 4080 ∨ c = 4112 → I' c = I c := fun c hc => f.1.1 c (by omega) (by omega) (by omega) (by omega) (by omega) (by omega) (by omega) (by omega) (by omega) (by omega) (by omega)
  have qj : ∀ j, j = 2 ∨ j = 38 ∨ j = 31 ∨ j = 48 ∨ j = 52 ∨ j = 54 → I' 3118 j = I 3118 j := fun j hj => f.1.2 j (by omega) (by omega) (by omega) (by omega) (by omega) (by omega) (by omega) (by omega)
  have j5 : J' 3505 = J 3505 := f.2.2.2.1 3505 (by decide) (by decide) (by decide) (by decide) (by decide) (by decide) (by decide) (by omega)
  have j7 : J' 3537 = J 3537 := f.2.2.2.1 3537 (by decide) (by decide) (by decide) (by decide) (by decide) (by decide) (by decide) (by omega)
  have ei := zIn_r (g := g) (ia := ia) (k := C (zWi Z 0 0)) f
  refine ⟨⟨⟨h1, fun j hj => ?_, fun i hi => by rw [q 4048 (by omega)]; exact h3 i hi, h4⟩, ⟨by rw [qj 52 (by omega)]; exact i1, by rw [qj 54 (by omega)]; exact i2, fun k hk => by rw [q 4080 (by omega)]; exact i3 k hk, fun k hk => by rw [q 4112 (by omega)]; exact i4 k hk⟩, ?_, fun k hk => by rw [q 3440 (by omega)]; exact h6 k hk, by rw [ei]; exact h7, by rw [ei]; exact h8⟩, ⟨by rw [qj 2 (by omega)]; exact t1, fun k hk => by rw [f.2.2.1 k hk]; exact t2 k hk, fun j hj h2' => ⟨(t3 j hj h2').1, fun i hi => by rw [f.2.2.1 _ (by have := (t3 j hj h2').1; omega)]; exact (t3 j hj h2').2 i hi⟩⟩, ⟨by rw [qj 38 (by omega)]; exact u1, by rw [qj 31 (by omega)]; exact u2, by rw [qj 48 (by omega)]; exact u3⟩, fun a ha => by rw [q 3600 (by omega)]; exact v a ha⟩
  · obtain ⟨a1, a2, a3, a4, a5, a6⟩ := h2 j hj
    obtain ⟨b1, b2, b3, b4, b5, b6⟩ := f.2.1 j hj
    exact ⟨b1.trans a1, b2.trans a2, b3.trans a3, b4.trans a4, b5.trans a5, fun h => b6.trans (a6 h)⟩
  · unfold zWfO at wf ⊢
    rw [q 3632 (by omega), q 3664 (by omega), q 3408 (by omega), q 3472 (by omega), q 3567 (by omega), j5, j7]
    exact wf
end
