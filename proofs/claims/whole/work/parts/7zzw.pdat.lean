-- needs: 01 02.names 03 04 05 18 19 20 22 23 24 25 30 31 32 33 35 36 37 40 42 43 44 45 46 47 60 61 62 63 64 65 66 67 68 69 79f 79g 79h 79i 79j 79k 79l 79m 79n 79o 79p 79q 79r 79s 79t 79u 79v 79w 79x 79y 79z. 79za 79zb 79zc 79zd 79ze 79zf 79zg 79zh 79zi 79zj 79zk 79zl 79zm 79zn 79zo 79zp 79zq 79zr 79zs 79zt 79zu 79zv 7a 7b 7c 7d 7e 7f 7g 7zl 7zm 7zn 7zo 7h 7i 7j 7k 7l 7m 7n 7o 7p 7q 7r 7zj 7zk 7zp 7zq 7zr 7zs 7zt 7zu 79zw 7s 7t 7u 7v 7w 7x 7y 7z. 7za 7zb 7zc 7zd 7ze 7zf 7zg 7zh 7zi 7zv 7zw 7zx 7zy 7zz. 7zza 7zzb 7zzc 7zzd 7zze 7zzf 7zzg 7zzh 7zzi 7zzj 7zzk 7zzl 7zzm 7zzn 7zzo 7zzp 7zzq 7zzr 7zzs 7zzt 7zzu 7zzv
/-! The DATUM of a new output is DATA -/
theorem zDk_n {row tp : Nat → Int32} {B : Nat → Nat} {a d m e t l : Nat} {W : List Nat} (hb : ∀ x, B x = zby' (tp x)) (hd : (zsq B d).2 = (l + 1) :: W) (hm : zIsp B d m) (hrow : ∀ j, j < e → row (128 * a + j) = tp (zat B d + j)) (he : zat B (d + m) = zat B d + e) (hf : ∀ j, j < m → zsF B t (d + j) = 0) (hmn : ∀ j, j ≤ m → zat B (d + j) ≤ zat B (d + m)) (h201 : m ≤ 201) (hby : ∀ j, j < e → (tp (zat B d + j)).toInt8.toInt32 = tp (zat B d + j)) : zDk row a e := by
  refine ⟨⟨m, zsub_r hd hm (fun i hi => ?_) he hf hmn h201⟩, fun j hj => ?_⟩
  · unfold ztB
    rw [if_pos hi, hb]
    show zby' (row (128 * a + i)) = _
    rw [hrow i hi]
  · rw [hrow j hj]
    exact hby j hj
/-- places grow -/
theorem zat_le {B : Nat → Nat} {d : Nat} : ∀ j, zat B d ≤ zat B (d + j) := by
  intro j
  induction j with
  | zero => exact Nat.le_refl _
  | succ j ih =>
    have e1 : zat B (d + (j + 1)) = znX B (zat B (d + j)) := rfl
    have hx : ∀ a, a ≤ zhX B a := fun a => by unfold zhX; omega
    have x1 := hx (zat B (d + j))
    have x2 := hx (zhX B (zat B (d + j)))
    rw [e1]
    unfold znX
    split
    · omega
    · split <;> omega
theorem zat_mn {B : Nat → Nat} {d m : Nat} : ∀ j, j ≤ m → zat B (d + j) ≤ zat B (d + m) := fun j hj => by
  have := zat_le (B := B) (d := d + j) (m - j)
  rw [show d + j + (m - j) = d + m by omega] at this
  exact this
