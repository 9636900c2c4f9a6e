-- needs: 01 02.names 03 04 05 18 19 20 22 23 24 25 30 31 32 33 35 36 37 40 42 43 44 45 46 47 60 61 62 63 64 65 66 67 68 69 79f 79g 79h 79i 79j 79k 79l 79m 79n 79o 79p 79q 79r 79s 79t 79u 79v 79w 79x 79y 79z. 79za 79zb 79zc 79zd 79ze 79zf 79zg 79zh 79zi 79zj 79zk 79zl 79zm 79zn 79zo 79zp 79zq 79zr 79zs 79zt 79zu 79zv 7a 7b 7c 7d 7e 7f 7g 7zl 7zm 7zn 7zo 7h 7i 7j 7k 7l 7m 7n 7o 7p 7q 7r 7zj 7zk 7zp 7zq 7zr 7zs 7zt 7zu 79zw 7s 7t 7u 7v 7w 7x 7y 7z. 7za 7zb 7zc 7zd 7ze 7zf 7zg 7zh 7zi 7zv 7zw 7zx 7zy 7zz. 7zza 7zzb 7zzc 7zzd 7zze 7zzf 7zzg 7zzh 7zzi 7zzj 7zzk 7zzl 7zzm 7zzn 7zzo 7zzp 7zzq 7zzr 7zzs 7zzt
/-! Both speak of the same: coins that are spent, what is paid, the verdict -/
theorem ySp_u {po po' : Nat → Int32} {nm nm' am am' : Nat → Int64} {w w' : Nat} {V : Int32 → Int64 → Int} (h1 : zSrt po nm w) (k1 : ∀ q y, (zHsk po nm w q y ↔ 0 < V q y) ∧ (zAm po nm am w q y).toInt = V q y) (h2 : zSrt po' nm' w') (k2 : ∀ q y, (zHsk po' nm' w' q y ↔ 0 < V q y) ∧ (zAm po' nm' am' w' q y).toInt = V q y) : ySp po nm am w = ySp po' nm' am' w' := by
  obtain ⟨rfl, he⟩ := zSrt_u h1 h2 (fun q y => (k1 q y).1.trans (k2 q y).1.symm)
  unfold ySp
  refine List.map_congr_left (fun i hi => ?_)
  have hi := List.mem_range.1 hi
  obtain ⟨e1, e2⟩ := he i hi
  have a1 := (k1 (po i) (nm i)).2
  have a2 := (k2 (po i) (nm i)).2
  rw [zAm_h h1 hi rfl rfl] at a1
  rw [zAm_h h2 hi e1 e2] at a2
  have e3 : am' i = am i := Int64.toInt_inj.1 (a2.trans a1.symm)
  unfold yco1
  rw [e1, e2, e3]
section
variable {I I' : zI} {J J' : zJ} {m K s e hx t : Nat} {F C Z H L ad ia : Nat → Nat} {g : Nat → Nat → Nat} {T : Nat → Int64} {Y : Nat → Nat → Int32}
theorem yba_e (hs32 : s ≤ 32) (tx : zTx F T C Z H s) {i : Nat} (hi : i < C (zWi Z 0 2)) (hl : zLg T Z i) : yba T C Z i = T (zoc Z i + 4) := by
  obtain ⟨-, -, g3, g4, -⟩ := tx.2.2.2.1.2 i hi
  have c0 : 0 < C (zoc Z i) := by have := g3.2.1; show 0 < C (zWi Z (zWi Z (zWi Z 0 2) i) 1); omega
  have so := zCns_s hs32 g4
  have z2 := (g4 0 c0).2.1.2.2
  have e1 : T (zoc Z i + 2) = 0 := hl.1
  have e2 : T (zoc Z i + 3) = 0 := z2 e1
  unfold yba
  refine zAm_h so c0 ?_ ?_
  · show (T (zoc Z i + 1 + 4 * 0 + 1)).toInt32 = 0
    rw [show zoc Z i + 1 + 4 * 0 + 1 = zoc Z i + 2 by omega, e1]
    rfl
  · show T (zoc Z i + 1 + 4 * 0 + 2) = 0
    rw [show zoc Z i + 1 + 4 * 0 + 2 = zoc Z i + 3 by omega, e2]
theorem yPds_e (hs32 : s ≤ 32) (tx : zTx F T C Z H s) (hl : ∀ i, i < C (zWi Z 0 2) → zLg T Z i) (D : yD) : yPds D Z (fun i => T (zoc Z i + 4)) (C (zWi Z 0 2)) = yPds D Z (yba T C Z) (C (zWi Z 0 2)) := by
  unfold yPds
  refine List.map_congr_left (fun i hi => ?_)
  unfold ypd
  rw [yba_e hs32 tx (List.mem_range.1 hi) (hl i (List.mem_range.1 hi))]
/-- the verdict looks at the rows of outputs and at the pot alone -/
theorem zJud_c (h1 : I' 3472 = I 3472) (h2 : I' 3632 = I 3632) (h3 : I' 3664 = I 3664) (h4 : J' 3505 = J 3505) (h5 : J' 3537 = J 3537) (h6 : J' 3697 = J 3697) : zJud I' J' T C Z ad g t m e hx = zJud I J T C Z ad g t m e hx := by
  have am : ∀ k p x c, zAmt I' J' k p x c = zAmt I J k p x c := fun k p x c => zAmt_c c (fun j _ => by rw [h1, h4, h5]; exact ⟨rfl, rfl, rfl⟩)
  have ei : ∀ ia k, zIn I' J' g ia k = zIn I J g ia k := fun ia k => by
    funext q y
    unfold zIn
    congr 1
    funext i
    exact am _ _ _ _
  have pt : ∀ k, zPts J' k = zPts J k := by
    intro k
    induction k with
    | zero => rfl
    | succ k ih => unfold zPts; rw [ih, h6]
  have et : zLVt I' J' g e hx m = zLVt I J g e hx m := by
    funext q y
    unfold zLVt
    rw [pt, zTot_c (A := I) (B := J) (g := g) (e := e) (t := (hx : Int) + 1) m (fun k _ => ⟨by unfold zAlv; rw [h2, h3], am _ _ _ _⟩)]
  unfold zJud zBm
  rw [ei, et, h1, h3, h4, h5]
end
