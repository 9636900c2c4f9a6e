-- needs: 01 02.names 03 04 05 18 19 20 22 23 24 25 30 31 32 33 35 36 37 40 42 43 44 45 46 47 60 61 62 63 64 65 66 67 68 69 79f 79g 79h 79i 79j 79k 79l 79m 79n 79o 79p 79q 79r 79s 79t 79u 79v 79w 79x 79y 79z. 79za 79zb 79zc 79zd 79ze 79zf 79zg 79zh 79zi 79zj 79zk 79zl 79zm 79zn 79zo 79zp 79zq 79zr 79zs 79zt 79zu 79zv 7a 7b 7c 7d 7e 7f 7g 7zl 7zm 7zn 7zo 7h 7i 7j 7k 7l 7m 7n 7o 7p 7q 7r 7zj 7zk 7zp 7zq 7zr 7zs 7zt 7zu 79zw 7s 7t 7u 7v 7w 7x 7y 7z. 7za 7zb 7zc 7zd 7ze 7zf 7zg 7zh 7zi 7zv 7zw 7zx 7zy 7zz. 7zza 7zzb 7zzc 7zzd 7zze 7zzf 7zzg 7zzh 7zzi 7zzj 7zzk 7zzl 7zzm 7zzn 7zzo 7zzp 7zzq 7zzr 7zzs 7zzt 7zzu
/-! A part of what was read reads alike from its place -/
theorem zppx_a (V : List Nat) : ∀ Y : List Nat, zppx (Y ++ V) = if zppx Y = [] then zppx V else zppx Y ++ V := by
  intro Y
  induction Y with
  | nil => rfl
  | cons y Y ih =>
    by_cases hy : y = 0
    · have e1 : zppx ((y :: Y) ++ V) = zppx (Y ++ V) := by
        show (if y = 0 then zppx (Y ++ V) else _) = _
        rw [if_pos hy]
      have e2 : zppx (y :: Y) = zppx Y := by
        show (if y = 0 then zppx Y else _) = _
        rw [if_pos hy]
      rw [e1, e2]
      exact ih
    · have e1 : zppx ((y :: Y) ++ V) = y :: (Y ++ V) := by
        show (if y = 0 then zppx (Y ++ V) else _) = _
        rw [if_neg hy]
        rfl
      have e2 : zppx (y :: Y) = y :: Y := by
        show (if y = 0 then zppx Y else _) = _
        rw [if_neg hy]
      rw [e1, e2, if_neg (fun h => by cases h)]
      rfl
theorem zppx_len : ∀ Y : List Nat, (zppx Y).length ≤ Y.length := by
  intro Y
  induction Y with
  | nil => exact Nat.le_refl _
  | cons y Y ih =>
    unfold zppx
    split
    · exact Nat.le_succ_of_le ih
    · exact Nat.le_refl _
section
variable {B B' : Nat → Nat} {a0 e t d m l : Nat} {W : List Nat}
theorem zhF_t {fc : Prop} {a t' : Nat} (h : zhF B t fc a = 0) (hx : zhX B a ≤ t') : zhF B t' fc a = 0 := by
  obtain ⟨x1, x2⟩ := zhF_xx h
  have hx' : a < zhX B a := by unfold zhX; omega
  unfold zhF at h ⊢
  rw [if_neg (by omega)] at h ⊢
  split at h
  · omega
  · rename_i h1
    rw [if_neg h1, if_neg (by omega)]
    rw [if_neg (by omega)] at h
    exact h
theorem znF_t {a t' l l' k k' : Nat} (h : znF B t l k a = 0) (hx : znX B a ≤ t') (hl : l' ≤ l) (hk : k' ≤ k) : znF B t' l' k' a = 0 := by
  unfold znF at h
  split at h
  · exact absurd h ‹_›
  · rename_i h0
    have h0 : zhF B t False a = 0 := Classical.not_not.1 h0
    split at h
    · cases h
    · split at h
      · cases h
      · split at h
        · rename_i q2
          split at h
          · cases h
          · have e1 : znX B a = zhX B a + znC B a := by unfold znX; rw [if_pos q2]
            unfold znF
            rw [if_neg (fun x => x (zhF_t h0 (by omega))), if_neg (by omega), if_neg (by omega), if_pos q2, if_neg (by omega)]
        · rename_i q2
          split at h
          · rename_i q6
            have e1 : znX B a = zhX B (zhX B a) := by unfold znX; rw [if_neg q2, if_pos q6]
            have e2 : zhX B a < zhX B (zhX B a) := by rw [show zhX B (zhX B a) = zhX B a + 1 + zhM B (zhX B a) from rfl]; omega
            unfold znF
            rw [if_neg (fun x => x (zhF_t h0 (by omega))), if_neg (by omega), if_neg (by omega), if_neg q2, if_pos q6]
            exact zhF_t h (by omega)
          · rename_i q6
            have e1 : znX B a = zhX B a := by unfold znX; rw [if_neg q2, if_neg q6]
            unfold znF
            rw [if_neg (fun x => x (zhF_t h0 (by omega))), if_neg (by omega), if_neg (by omega), if_neg q2, if_neg q6]
theorem zdr_of : ∀ r k, k < m → m ≤ k + r → (∀ j, j < m → zsF B' e j = 0) → (∀ j, 0 < j → j < m → ¬ (zsq B' j).2 = []) → (zsq B' m).2 = [] → zdr B' e r k = (0, 0, m) := by
  intro r
  induction r with
  | zero => intro k h1 h2; omega
  | succ r ih =>
    intro k h1 h2 h3 h4 h5
    unfold zdr
    rw [if_neg (fun x => x (h3 k h1))]
    by_cases hm : k + 1 = m
    · rw [hm, if_pos h5]
    · rw [if_neg (h4 (k + 1) (by omega) (by omega))]
      exact ih (k + 1) (by omega) (by omega) h3 h4 h5
set_option maxHeartbeats 2000000 in
theorem zsub_r (hd : (zsq B d).2 = (l + 1) :: W) (hm : zIsp B d m) (hB : ∀ i, i < e → B' i = B (zat B d + i)) (he : zat B (d + m) = zat B d + e) (hf : ∀ j, j < m → zsF B t (d + j) = 0) (hmn : ∀ j, j ≤ m → zat B (d + j) ≤ zat B (d + m)) (h201 : m ≤ 201) : zdr B' e 201 0 = (0, 0, m) := by
  obtain ⟨m1, m2, m3⟩ := hm
  have lv0 : zlvl B d = W.length + 1 := by show (zsq B d).2.length = _; rw [hd]; rfl
  -- one step of the stacks
  have key : ∀ j, j ≤ m → (zat B (d + j) = zat B d + zat B' j) ∧ (j = 0 ∨ (j < m ∧ ∃ s0 S, (zsq B (d + j)).2 = (s0 :: S) ++ l :: W ∧ (zsq B' j).2 = (s0 :: S) ++ [0]) ∨ (j = m ∧ (zsq B' j).2 = [])) ∧ ∀ i, i < j → zsF B' e i = 0 := by
    intro j
    induction j with
    | zero => exact fun _ => ⟨rfl, Or.inl rfl, fun i hi => by omega⟩
    | succ j ih =>
      intro hj
      obtain ⟨i1, i2, i3⟩ := ih (by omega)
      have fj := hf j (by omega)
      have nx : zat B (d + (j + 1)) = znX B (zat B (d + j)) := rfl
      have mx := hmn (j + 1) hj
      have fj : znF B t (zlvl B (d + j)) (d + j) (zat B (d + j)) = 0 := fj
      -- levels
      have ll : zlvl B' j ≤ zlvl B (d + j) := by
        rcases i2 with rfl | ⟨-, s0, S, x1, x2⟩ | ⟨x1, -⟩
        · show (1 : Nat) ≤ zlvl B d
          omega
        · show (zsq B' j).2.length ≤ (zsq B (d + j)).2.length
          rw [x1, x2, List.length_append, List.length_append]
          simp only [List.length_cons, List.length_nil]
          omega
        · omega
      have f1 : znF B (zat B d + e) (zlvl B' j) j (zat B d + zat B' j) = 0 := by
        rw [← i1]
        exact znF_t fj (by omega) ll (by omega)
      rw [(zn_c hB).1] at f1
      obtain ⟨⟨-, -, -, vH⟩, vX, -⟩ := zn_v hB f1
      have p1 : zat B (d + (j + 1)) = zat B d + zat B' (j + 1) := by
        rw [nx, i1, vX]
        rfl
      refine ⟨p1, ?_, fun i hi => ?_⟩
      · right
        have stk : ∃ Y, (zsq B (d + (j + 1))).2 = zppx (Y ++ l :: W) ∧ (zsq B' (j + 1)).2 = zppx (Y ++ [0]) := by
          have e1 : (zsq B (d + (j + 1))).2 = zppx (zpus (znH B (zat B (d + j))) (zsq B (d + j)).2) := rfl
          have e2 : (zsq B' (j + 1)).2 = zppx (zpus (znH B' (zat B' j)) (zsq B' j).2) := rfl
          rw [i1, vH] at e1
          rw [e1, e2]
          generalize znH B' (zat B' j) = c
          rcases i2 with rfl | ⟨-, s0, S, x1, x2⟩ | ⟨x1, -⟩
          · have x1 : (zsq B (d + 0)).2 = (l + 1) :: W := hd
            have x2 : (zsq B' 0).2 = [1] := rfl
            rw [x1, x2]
            by_cases hc : 0 < c
            · exact ⟨[c], by show zppx (if 0 < c then _ else _) = _; rw [if_pos hc]; rfl, by show zppx (if 0 < c then _ else _) = _; rw [if_pos hc]; rfl⟩
            · exact ⟨[], by show zppx (if 0 < c then _ else _) = _; rw [if_neg hc]; rfl, by show zppx (if 0 < c then _ else _) = _; rw [if_neg hc]; rfl⟩
          · rw [x1, x2]
            by_cases hc : 0 < c
            · exact ⟨c :: (s0 - 1) :: S, by show zppx (if 0 < c then _ else _) = _; rw [if_pos hc]; rfl, by show zppx (if 0 < c then _ else _) = _; rw [if_pos hc]; rfl⟩
            · exact ⟨(s0 - 1) :: S, by show zppx (if 0 < c then _ else _) = _; rw [if_neg hc]; rfl, by show zppx (if 0 < c then _ else _) = _; rw [if_neg hc]; rfl⟩
          · omega
        obtain ⟨Y, y1, y2⟩ := stk
        rw [zppx_a] at y1 y2
        by_cases hY : zppx Y = []
        · rw [if_pos hY] at y1 y2
          have y2 : (zsq B' (j + 1)).2 = [] := y2
          by_cases hjm : j + 1 = m
          · exact Or.inr ⟨hjm, y2⟩
          · exfalso
            have := m2 (j + 1) (by omega) (by omega)
            have q : (zsq B (d + (j + 1))).2.length ≤ W.length + 1 := by rw [y1]; exact zppx_len (l :: W)
            have q' : zlvl B (d + (j + 1)) ≤ W.length + 1 := q
            omega
        · rw [if_neg hY] at y1 y2
          obtain ⟨s0, S, hS⟩ : ∃ s0 S, zppx Y = s0 :: S := by
            cases hz : zppx Y with
            | nil => exact absurd hz hY
            | cons s0 S => exact ⟨s0, S, rfl⟩
          rw [hS] at y1 y2
          by_cases hjm : j + 1 = m
          · exfalso
            have q : zlvl B (d + (j + 1)) = (S.length + 1) + (W.length + 1) := by
              show (zsq B (d + (j + 1))).2.length = _
              rw [y1, List.length_append]
              rfl
            rw [hjm] at q
            omega
          · exact Or.inl ⟨by omega, s0, S, y1, y2⟩
      · by_cases hij : i = j
        · rw [hij]; exact f1
        · exact i3 i (by omega)
  obtain ⟨k1, k2, k3⟩ := key m (Nat.le_refl _)
  refine zdr_of 201 0 (by omega) (by omega) k3 (fun j j0 jm => ?_) ?_
  · obtain ⟨-, x, -⟩ := key j (by omega)
    rcases x with x | ⟨-, s0, S, -, x2⟩ | ⟨x, -⟩
    · omega
    · rw [x2]; exact fun h => by cases h
    · omega
  · rcases k2 with x | ⟨x, -⟩ | ⟨-, x⟩
    · omega
    · omega
    · exact x
end
