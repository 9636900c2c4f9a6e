-- needs: 01 02.names 03 04 05 18 19 20 22 23 24 25 30 31 32 33 35 36 37 40 42 43 44 45 46 47 60 61 62 63 64 65 66 67 68 69 79f 79g 79h 79i 79j 79k 79l 79m 79n 79o 79p 79q 79r 79s 79t 79u 79v 79w 79x 79y 79z. 79za 79zb 79zc 79zd 79ze 79zf 79zg 79zh 79zi 79zj 79zk 79zl 79zm 79zn 79zo 79zp 79zq 79zr 79zs 79zt 79zu 79zv 7a 7b 7c 7d 7e 7f 7g 7zl 7zm 7zn 7zo 7h 7i 7j 7k 7l 7m 7n 7o 7p 7q 7r 7zj 7zk 7zp 7zq 7zr 7zs 7zt 7zu 79zw 7s 7t 7u 7v 7w 7x 7y 7z. 7za 7zb 7zc 7zd 7ze 7zf 7zg 7zh 7zi 7zv 7zw 7zx 7zy 7zz. 7zza 7zzb 7zzc 7zzd 7zze 7zzf 7zzg 7zzh 7zzi 7zzj 7zzk 7zzl 7zzm 7zzn 7zzo 7zzp 7zzq 7zzr 7zzs 7zzt 7zzu 7zzv 7zzw 7zzx
/-! submitTape, the class: frames, the verdict -/
theorem zPk_0 {c : Prop} {a b : Int32} (ha : ¬ a = 0) (h : zPk c a b = 0) : ¬ c ∧ b = 0 := by
  by_cases hc : c
  · rw [zPk_t hc] at h
    exact absurd h ha
  · rw [zPk_f hc] at h
    exact ⟨hc, h⟩
theorem zPk_20 {c : Prop} {a b : Int32} (ha : ¬ a = 20) (hb : ¬ b = 20) : ¬ zPk c a b = 20 := by
  by_cases hc : c
  · rw [zPk_t hc]
    exact ha
  · rw [zPk_f hc]
    exact hb
section
variable {I I' I'' : zI} {J J' J'' : zJ} {P : zP} {N : Nat → Nat} {n z m K s e hx t : Nat} {F C Z X H L ad ia : Nat → Nat} {f g : Nat → Nat → Nat} {T : Nat → Int64} {l l0 : yLt} {pl : Int32}
theorem zJud_20 : ¬ zJud I J T C Z ad g t m e hx = 20 := by
  unfold zJud
  exact zPk_20 (by decide) (zPk_20 (by decide) (zPk_20 (by decide) (zPk_20 (by decide) (zPk_20 (by decide) (zPk_20 (by decide) (zPk_20 (by decide) (zPk_20 (by decide) (zPk_20 (by decide) (by decide)))))))))
/-- what a verdict of 0 says -/
theorem zJud_0 (h : zJud I J T C Z ad g t m e hx = 0) : (zIl (I 3664) m (ziv T Z) (C (zWi Z 0 0)) ∧ zCl (I 3664) m (ziv T Z) (zcv T Z) (C (zWi Z 0 0)) (C (zWi Z 0 1))) ∧ zBm I J T C Z g (zia T Z) (zLVt I J g e hx m) ∧ ¬ (zRuns C Z ad (zia T Z) ∧ ¬ zCov (I 3472) (J 3505) (J 3537) (g 6) ad (zca T Z) (C (zWi Z 0 1)) (T (zWi Z 0 3))) ∧ (∀ i, i < C (zWi Z 0 2) → zLg T Z i) ∧ m + C (zWi Z 0 2) ≤ 1024 ∧ ¬ (zRuns C Z ad (zia T Z) ∧ zBig (zIn I J g (zia T Z) (C (zWi Z 0 0))) C Z) := by
  unfold zJud at h
  obtain ⟨h1, h⟩ := zPk_0 (by decide) h
  obtain ⟨h2, h⟩ := zPk_0 (by decide) h
  obtain ⟨h3, h⟩ := zPk_0 (by decide) h
  obtain ⟨h4, h⟩ := zPk_0 (by decide) h
  obtain ⟨h5, h⟩ := zPk_0 (by decide) h
  obtain ⟨h6, h⟩ := zPk_0 (by decide) h
  obtain ⟨h7, h⟩ := zPk_0 (by decide) h
  obtain ⟨h8, h⟩ := zPk_0 (by decide) h
  obtain ⟨h9, h⟩ := zPk_0 (by decide) h
  exact ⟨Classical.not_not.1 h1, Classical.not_not.1 h4, h6, Classical.not_not.1 h7, by omega, h9⟩
/-- the class, ahead of its scripts -/
def xB (I : zI) (J : zJ) (I' : zI) (J' : zJ) : Prop :=
  (∀ c, c = 22 ∨ c = 54 ∨ c = 239 ∨ c = 2115 ∨ c = 2224 ∨ c = 2256 ∨ 3100 ≤ c → I' c = I c) ∧ ((∀ j, j ≠ 10 → j ≠ 11 → I' 11 j = I 11 j) ∧ I' 11 10 = 1 ∧ I' 11 11 = I 11 11 + 1) ∧ ∀ c, c = 11 ∨ c = 2115 ∨ c = 2193 ∨ 3100 ≤ c → J' c = J c
/-- what it tells, ahead of its scripts -/
def xW (I : zI) (t : Nat) (pl : Int32) : Prop := I 3088 1 = pl ∧ I 3088 7 = nI t ∧ I 3088 2 = 0 ∧ I 3088 3 = -1 ∧ I 3088 4 = -1 ∧ I 3088 5 = -1 ∧ I 3088 6 = -1
theorem xB_k (hI : ∀ c, c = 11 ∨ c = 22 ∨ c = 54 ∨ c = 239 ∨ c = 2115 ∨ c = 2224 ∨ c = 2256 ∨ 3088 ≤ c → I'' c = I' c) (hJ : ∀ c, c = 11 ∨ c = 2115 ∨ c = 2193 ∨ 3100 ≤ c → J'' c = J' c) (h : xB I J I' J') (w : xW I' t pl) : xB I J I'' J'' ∧ xW I'' t pl := by
  obtain ⟨a1, ⟨a2, a3, a4⟩, a5⟩ := h
  refine ⟨⟨fun c hc => (hI c (by omega)).trans (a1 c hc), ?_, fun c hc => (hJ c hc).trans (a5 c hc)⟩, ?_⟩
  · rw [hI 11 (by omega)]
    exact ⟨a2, a3, a4⟩
  · unfold xW
    rw [hI 3088 (by omega)]
    exact w
theorem xB_t (T : zTf I' J' I'' J'') (h : xB I J I' J') (w : xW I' t pl) : xB I J I'' J'' ∧ xW I'' t pl := xB_k (fun c hc => (T.1 c (by omega)).1) (fun c hc => (T.1 c (by omega)).2) h w
theorem xB_s (T : zSpf I' J' I'' J'') (h : xB I J I' J') (w : xW I' t pl) : xB I J I'' J'' ∧ xW I'' t pl := xB_k (fun c hc => T.1 c (by omega) (by omega) (by omega) (by omega)) (fun c hc => T.2 c (by omega) (by omega) (by omega) (by omega)) h w
theorem xB_f (T : zFd (zu I' 37 7 0) J' I'' J'' 0) (h : xB I J I' J') (w : xW I' t pl) : xB I J I'' J'' ∧ xW I'' t pl := xB_k (fun c hc => by rw [T.1 c (by omega) (by omega) (by omega) (by omega) (by omega) (by omega) (by omega) (by omega) (by omega), zuR_ne (by omega)]) (fun c hc => T.2.2.2 c (by omega) (by omega)) h w
/-- outputs and scripts, ahead of the scripts -/
theorem xB_o (h : xB I J I' J') (O : zOuts I J P N I J g n m) : zOuts I' J' P N I' J' g n m := zOuts_m (zMr_o fun a ha => by unfold zKm at ha; exact ⟨h.1 a (by omega), h.2.2 a (by omega)⟩) (zOuts_c ⟨fun a ha => ⟨h.1 a (by omega), h.2.2 a (by omega), rfl, rfl⟩, rfl, rfl⟩ (Nat.le_refl n) O)
theorem xB_w (h : xB I J I' J') (W : zWfO I J g m e hx s) : zWfO I' J' g m e hx s := zWfO_m (zMr_o fun a ha => by unfold zKm at ha; exact ⟨h.1 a (by omega), h.2.2 a (by omega)⟩) W
theorem xB_c (h : xB I J I' J') (C : zCon I J g m e hx) : zCon I' J' g m e hx := zCon_m (zMr_o fun a ha => by unfold zKm at ha; exact ⟨h.1 a (by omega), h.2.2 a (by omega)⟩) (h.2.2 3697 (by omega)) C
theorem xB_j (h : xB I J I' J') : zJud I' J' T C Z ad g t m e hx = zJud I J T C Z ad g t m e hx := zJud_c (h.1 3472 (by omega)) (h.1 3632 (by omega)) (h.1 3664 (by omega)) (h.2.2 3505 (by omega)) (h.2.2 3537 (by omega)) (h.2.2 3697 (by omega))
theorem xB_i (h : xB I J I' J') {k : Nat} : zIn I' J' g ia k = zIn I J g ia k := by
  funext q y
  unfold zIn
  congr 1
  funext i
  refine zAmt_c _ (fun j _ => ?_)
  rw [h.1 3472 (by omega), h.2.2 3505 (by omega), h.2.2 3537 (by omega)]
  exact ⟨rfl, rfl, rfl⟩
/-- the log at the start -/
abbrev xl0 (I : zI) (J : zJ) : yLt := (0, -1, -1, -1, -1, I 3280, J 11 12)
theorem xB_l (h : xB I J I' J') (w : xW I' t pl) (S : zScs I J P N I J f n s) : yTc I' J' f s (xl0 I J) := by
  refine ⟨⟨w.2.2.1, w.2.2.2.1, w.2.2.2.2.1, w.2.2.2.2.2.1, w.2.2.2.2.2.2⟩, fun k hk => ?_, by rw [h.2.2 11 (by omega)]⟩
  have g0 := (S.1 k hk).1.2.2.2.2.2 0 (by decide)
  rw [h.1 (32 * f 0 k + 7) (by omega)]
  exact (S.1 k hk).1.2.1.2.2.2.2
theorem xB_q {Ks zs ls ws Wd Ps : Nat → Nat} {Vs : Nat → Int64} {Yb : Nat → Nat → Int32} {k : Nat} (h : xB I J I' J') (q : ySf I J P N f n Ks zs ls ws Wd Ps Vs Yb k) : ySf I' J' P N f n Ks zs ls ws Wd Ps Vs Yb k := by
  have g := q.2.2.2.2.2.2
  have g0 := g 0 (by decide)
  have g1 := g 1 (by decide)
  have g2 := g 2 (by decide)
  have g3 := g 3 (by decide)
  have g4 := g 4 (by decide)
  unfold ySf at q ⊢
  rw [h.1 (32 * f 0 k + 7) (by omega), h.1 (32 * f 1 k + 15) (by omega), h.2.2 (32 * f 2 k + 17) (by omega), h.1 (32 * f 3 k + 16) (by omega), h.1 (32 * f 4 k + 15) (by omega)]
  exact q
/-- the class, ahead of what is applied or taken -/
def xA (I : zI) (J : zJ) (I' : zI) (J' : zJ) (f : Nat → Nat → Nat) (s t : Nat) (pl : Int32) (l : yLt) : Prop :=
  ((∀ c, c = 22 ∨ c = 54 ∨ c = 2115 ∨ c = 2224 ∨ c = 2256 ∨ (3100 ≤ c ∧ c < 6432) → I' c = I c) ∧ I' 11 8 = I 11 8 ∧ I' 11 10 = 1 ∧ I' 11 11 = I 11 11 + 1) ∧ (∀ c, c = 2115 ∨ c = 2193 ∨ (3100 ≤ c ∧ c < 6432) → J' c = J c) ∧ (∀ c, 6432 ≤ c → (c % 32 ≠ 7 → I' c = I c) ∧ (∀ j, j ≠ 6 → I' c j = I c j) ∧ J' c = J c) ∧ (∀ j, j < 4096 → I' 239 j = I 239 j) ∧ (I' 3088 1 = pl ∧ I' 3088 7 = nI t) ∧ yTc I' J' f s l
theorem xA_b (h : xB I J I' J') (w : xW I' t pl) (S : zScs I J P N I J f n s) : xA I J I' J' f s t pl (xl0 I J) :=
  ⟨⟨fun c hc => h.1 c (by omega), h.2.1.1 8 (by decide) (by decide), h.2.1.2.1, h.2.1.2.2⟩, fun c hc => h.2.2 c (by omega), fun c hc => ⟨fun _ => h.1 c (by omega), fun j _ => by rw [h.1 c (by omega)], h.2.2 c (by omega)⟩, fun j _ => by rw [h.1 239 (by omega)], ⟨w.1, w.2.1⟩, xB_l h w S⟩
theorem xA_e (h : xB I J I' J') (w : xW I' t pl) (E : yFe I' J' I'' J'' K) (q : yTc I'' J'' f s l) : xA I J I'' J'' f s t pl l := by
  obtain ⟨⟨b1, b2, b3, b4⟩, b5, b6, b7⟩ := E
  obtain ⟨a1, ⟨a2, a3, a4⟩, a5⟩ := h
  have e11 : I'' 11 = I' 11 := (b1 11 (by unfold yFx; omega)).1
  refine ⟨⟨fun c hc => ((b1 c (by unfold yFx; omega)).1).trans (a1 c (by omega)), ?_, ?_, ?_⟩, fun c hc => ((b1 c (by unfold yFx; omega)).2 (by omega)).trans (a5 c (by omega)), fun c hc => ?_, fun j hj => ?_, ⟨(b4 1 (by omega)).trans w.1, (b4 7 (by omega)).trans w.2.1⟩, q⟩
  · rw [e11]; exact a2 8 (by decide) (by decide)
  · rw [e11]; exact a3
  · rw [e11]; exact a4
  · obtain ⟨c1, c2, c3⟩ := b5 c hc
    have d1 := a1 c (by omega)
    exact ⟨fun x => (c1 x).trans d1, fun j hj => by rw [c2 j hj, d1], c3.trans (a5 c (by omega))⟩
  · rw [b7 j hj, a1 239 (by omega)]
theorem xA_o (h : xA I J I' J' f s t pl l) (O : zOuts I J P N I J g n m) : zOuts I' J' P N I' J' g n m := by
  have r : ∀ c, 3100 ≤ c ∧ c < 6432 → I' c = I c := fun c hc => h.1.1 c (by omega)
  have rj : ∀ c, 3100 ≤ c ∧ c < 6432 → J' c = J c := fun c hc => h.2.1 c (by omega)
  refine ⟨fun k hk => ?_, O.2⟩
  have o := O.1 k hk
  have gg := o.2.2.2.2.2.2.2
  have g0 := gg 0 (by decide)
  have g1 := gg 1 (by decide)
  have g2 := gg 2 (by decide)
  have g3 := gg 3 (by decide)
  have g4 := gg 4 (by decide)
  have g5 := gg 5 (by decide)
  have rr : ∀ c, 6432 ≤ c → c % 32 ≠ 7 → I' c = I c ∧ J' c = J c := fun c h1 h2 => ⟨(h.2.2.1 c h1).1 h2, (h.2.2.1 c h1).2.2⟩
  unfold zO1 at o ⊢
  rw [(rr (32 * g 0 k + 6) (by omega) (by omega)).1, (rr (32 * g 1 k + 1) (by omega) (by omega)).1, (rr (32 * g 2 k + 16) (by omega) (by omega)).1, (rr (32 * g 5 k + 15) (by omega) (by omega)).1, (rr (32 * g 3 k + 17) (by omega) (by omega)).2, (rr (32 * g 4 k + 17) (by omega) (by omega)).2, r 3408 (by omega), r 3632 (by omega), r 3664 (by omega), r 3440 (by omega), r 3600 (by omega), r 3472 (by omega), r 3567 (by omega), rj 3505 (by omega), rj 3537 (by omega)]
  exact o
theorem xA_w (h : xA I J I' J' f s t pl l) (W : zWfO I J g m e hx s) : zWfO I' J' g m e hx s := by
  refine zWfO_m (zMr_o fun a ha => ?_) W
  unfold zKm at ha
  exact ⟨h.1.1 a (by omega), h.2.1 a (by omega)⟩
theorem zHas_e (E : yFe I J I' J' K) (h : zHas I J F T C Z H X L K s) : zHas I' J' F T C Z H X L K s := zHas_y (fun c h1 h2 => by
  have x := E.1.1 c (by unfold yFx; omega)
  exact ⟨x.1, x.2 (by omega)⟩) (E.1.2.2.1 12 (by decide)) E.2.2.1 h
end
