-- needs: 01 02.names 03 04 05 18 19 20 22 23 24 25 30 31 32 33 35 36 37 40 42 43 44 45 46 47 60 61 62 63 64 65 66 67 68 69 79f 79g 79h 79i 79j 79k 79l 79m 79n 79o 79p 79q 79r 79s 79t 79u 79v 79w 79x 79y 79z. 79za 79zb 79zc 79zd 79ze 79zf 79zg 79zh 79zi 79zj 79zk 79zl 79zm 79zn 79zo 79zp 79zq 79zr 79zs 79zt 79zu 79zv 7a 7b 7c 7d 7e 7f 7g 7zl 7zm 7zn 7zo 7h 7i 7j 7k 7l 7m 7n 7o 7p 7q 7r 7zj 7zk 7zp 7zq 7zr 7zs 7zt 7zu 79zw 7s 7t 7u 7v 7w 7x 7y 7z. 7za 7zb 7zc 7zd 7ze 7zf 7zg 7zh 7zi 7zv 7zw 7zx 7zy 7zz. 7zza 7zzb 7zzc 7zzd 7zze 7zzf 7zzg 7zzh 7zzi 7zzj 7zzk 7zzl 7zzm 7zzn 7zzo 7zzp 7zzq 7zzr 7zzs 7zzt 7zzu 7zzv 7zzw 7zzx 7zzy 7zzz. 7zzza 7zzzb 7zzzc 7zzzd 7zzze
/-! new outputs are as outputs are -/
section
variable {F C Z H L : Nat → Nat} {T : Nat → Int64} {s K : Nat}
theorem z64_n {x : Int64} {n : Nat} (h0 : 0 ≤ x) (h1 : x ≤ (nI n).toInt64) (hn : n < 2 ^ 31) : ∃ a, a ≤ n ∧ x = (nI a).toInt64 := by
  have i0 : 0 ≤ x.toInt := Int64.le_iff_toInt_le.1 h0
  have i1 := Int64.le_iff_toInt_le.1 h1
  rw [w64_toInt hn] at i1
  refine ⟨x.toInt.toNat, by omega, ?_⟩
  rw [← Int64.toInt_inj, w64_toInt (by omega)]
  omega
theorem zAdn_n {a : Nat} (hs32 : s ≤ 32) (h : zAdr F T C s a) : ∃ b, b < 256 + s ∧ zAdn T a = nI b := by
  unfold zAdn
  rcases h with ⟨h1, -, h2, h3⟩ | ⟨h1, -, h2, h3⟩
  · obtain ⟨b, b1, b2⟩ := z64_n (n := 255) h2 h3 (by decide)
    rw [if_pos h1.2.1, b2, w64_32]
    exact ⟨b, by omega, rfl⟩
  · have i0 : 0 ≤ (T (a + 1)).toInt := Int64.le_iff_toInt_le.1 h2
    have i1 := Int64.le_iff_toInt_le.1 h3
    by_cases hs : s = 0
    · subst hs
      have e : ((nI 0).toInt64 - 1).toInt = -1 := by decide
      rw [e] at i1
      omega
    · have e : (nI s).toInt64 - 1 = (nI (s - 1)).toInt64 := w64_sub (b := 1) (by omega) (by omega)
      rw [e] at h3
      obtain ⟨b, b1, b2⟩ := z64_n (n := s - 1) h2 h3 (by omega)
      have n0 : ¬ T a = 0 := by rw [h1.2.1]; decide
      rw [if_neg n0, b2, w64_32]
      exact ⟨256 + b, by omega, wI_add (i := 256)⟩
theorem zCns_w4 {c : Nat} (hs32 : s ≤ 32) (h : zCns F T C s False c) : ∀ j, j < C c → (∃ p, p ≤ s ∧ zpo T c j = nI p) ∧ 1 ≤ zka T c j ∧ zka T c j ≤ 4611686018427387904 ∧ (zpo T c j = 0 → zkx T c j = 0) := fun j hj => by
  obtain ⟨-, ⟨a1, a2, a3⟩, ⟨a4, a5, -⟩, -⟩ := h j hj
  obtain ⟨b, b1, b2⟩ := z64_n (n := s) a1 a2 (by omega)
  have e : zpo T c j = nI b := by
    show (T (c + 1 + 4 * j + 1)).toInt32 = nI b
    rw [b2, w64_32]
  refine ⟨⟨b, b1, e⟩, a4, a5, fun h0 => a3 ?_⟩
  rw [e] at h0
  rw [b2, h0]
  rfl
/-- where an output lies -/
theorem x_out (D : zDt F C Z L K) (tx : zTx F T C Z H s) {o : Nat} (ho : o < C (zWi Z 0 2)) : zOut F T C Z H s (zWi Z (zWi Z 0 2) o) ∧ zWi Z (zWi Z (zWi Z 0 2) o) 2 < K ∧ zWi Z (zWi Z (zWi Z 0 2) o) 3 ≤ K ∧ zWi Z (zWi Z (zWi Z 0 2) o) 2 + Z (zWi Z (zWi Z (zWi Z 0 2) o) 2) = zWi Z (zWi Z (zWi Z 0 2) o) 3 := by
  have z := tx.2.2.2.1.2 o ho
  have k2 := zTx_f D tx 2 (by omega)
  have kk := zDt_ch D k2 (by have := tx.2.2.2.1.1.1; omega) ho
  have c3 := z.1.2.2
  have f6 := z.1.1
  have kd := zDt_ch D kk (by omega) (i := 2) (by omega)
  obtain ⟨⟨z1, z2⟩, -, -, w, -⟩ := D.2 _ kk
  unfold zKc at w
  rw [if_pos (by omega), c3] at w
  exact ⟨z, kd, by rw [w]; exact z2, rfl⟩
end
section
variable {B : Nat → Nat} {tp row : Nat → Int32} {t K s : Nat}
theorem x_zDk (hb : B = fun j => zby' (tp j)) (hB : ∀ a, B a < 256) (hK : zdr B t 201 0 = (0, 0, K)) (hle : zat B K ≤ t) (hI : ∀ j, j < K → ∃ a, zIsp B j a ∧ j + a ≤ K) (tx : xTx B s) {o a : Nat} (ho : o < xC B (zWi (zSz B) 0 2)) (hby : ∀ j, j < t → (tp j).toInt8.toInt32 = tp j)
    (hrow : ∀ j, j < xH B (zWi (zSz B) (zWi (zSz B) (zWi (zSz B) 0 2) o) 3) - xH B (zWi (zSz B) (zWi (zSz B) (zWi (zSz B) 0 2) o) 2) → row (128 * a + j) = tp (xH B (zWi (zSz B) (zWi (zSz B) (zWi (zSz B) 0 2) o) 2) + j)) : zDk row a (xH B (zWi (zSz B) (zWi (zSz B) (zWi (zSz B) 0 2) o) 3) - xH B (zWi (zSz B) (zWi (zSz B) (zWi (zSz B) 0 2) o) 2)) ∧ xH B (zWi (zSz B) (zWi (zSz B) (zWi (zSz B) 0 2) o) 3) ≤ t := by
  have D := x_dt hB hK hI
  obtain ⟨-, kd, k3, e3⟩ := x_out D tx ho
  obtain ⟨d, hd⟩ : ∃ d, d = zWi (zSz B) (zWi (zSz B) (zWi (zSz B) 0 2) o) 2 := ⟨_, rfl⟩
  rw [← hd] at kd e3 hrow ⊢
  rw [← e3] at k3 hrow ⊢
  obtain ⟨a', a1, a2⟩ := hI d kd
  rw [zSz_i a1] at k3 hrow ⊢
  obtain ⟨q1, -, -, q4⟩ := zdr_i (B := B) (t := t) 201 0 K hK (fun h => (by cases h)) (by omega) (by omega)
  have le1 : zat B d ≤ zat B (d + a') := zat_le a'
  have le2 : zat B (d + a') ≤ zat B K := by
    have := zat_le (B := B) (d := d + a') (K - (d + a'))
    rw [show d + a' + (K - (d + a')) = K by omega] at this
    exact this
  unfold xH at hrow ⊢
  refine ⟨?_, by omega⟩
  rcases zsq_top (B := B) d with hn | ⟨l, W, hW⟩
  · exact absurd hn (q1 d (by omega) kd).1
  · exact zDk_n (tp := tp) (t := t) (fun x => by rw [hb]) hW a1 hrow (by omega) (fun j hj => (q1 (d + j) (by omega) (by omega)).2) zat_mn (by omega) (fun j hj => hby _ (by omega))
end
