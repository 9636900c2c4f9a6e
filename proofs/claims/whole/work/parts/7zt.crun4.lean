-- needs: 01 02.names 03 04 05 18 19 20 22 23 24 25 30 31 32 33 35 36 37 40 42 43 44 45 46 47 60 61 62 63 64 65 66 67 68 69 79f 79g 79h 79i 79j 79k 79l 79m 79n 79o 79p 79q 79r 79s 79t 79u 79v 79w 79x 79y 79z. 79za 79zb 79zc 79zd 79ze 79zf 79zg 79zh 79zi 79zj 79zk 79zl 79zm 79zn 79zo 79zp 79zq 79zr 79zs 79zt 79zu 79zv 7a 7b 7c 7d 7e 7f 7g 7zl 7zm 7zn 7zo 7h 7i 7j 7k 7l 7m 7n 7o 7p 7q 7r 7zj 7zk 7zp 7zq 7zr 7zs
/-! PHASE TWO: which scripts run, and what is told of it; by the class -/
/-- the script that is to run for item i: INPUTS first, then POLICIES -/
noncomputable def ysk (T : Nat → Int64) (C Z ad : Nat → Nat) (i : Nat) : Option Nat := if i < C (zWi Z 0 0) then (if ad (zia T Z i) < 256 then none else some (ad (zia T Z i) - 256)) else some ((ypv T C Z (i - C (zWi Z 0 0))).toInt.toNat - 1)
def yxw (C Z : Nat → Nat) (i : Nat) : Int64 := if i < C (zWi Z 0 0) then 0 else 1
noncomputable def yyw (T : Nat → Int64) (C Z : Nat → Nat) (i : Nat) : Int64 := if i < C (zWi Z 0 0) then ziv T Z i else (ypv T C Z (i - C (zWi Z 0 0))).toInt64
/-- how it ends -/
noncomputable def yre (D : yD) (T : Nat → Int64) (C Z : Nat → Nat) (sp pd : List yD) (Kq zq Wq : Nat → Nat → Nat) (Vq : Nat → Nat → Int64) (Yq : Nat → Nat → Nat → Int32) (fz : Nat → Nat) (dmf : Nat → yD) (i k : Nat) : yM := yrn (Kq k) (zq k) (Wq k) (Vq k) (Yq k) (if i < C (zWi Z 0 0) then 3 else 2) (fz k) (yCx D Z sp pd (yxw C Z i) (yyw T C Z i)) (ysub (yrk C Z i) D) (dmf (zia T Z i))
/-- runs; of the last one answer, steps, memory, kind; how often each script ran; all steps -/
abbrev yLt : Type := Int32 × Int32 × Int32 × Int32 × Int32 × (Nat → Int32) × Int64
def ylg1 (k : Nat) : yLt → yM → yLt
  | (r, _, _, _, _, u, q), (tab, _, _, x, _, _, S, W, a) => (r + 1, nI a, nI S, nI W, (if a = 0 then nI (tab x).1 else -1), (fun j => if j = k then u j + 1 else u j), q + (nI S).toInt64)
def ylg (sk : Nat → Option Nat) (R : Nat → Nat → yM) (l0 : yLt) : Nat → yLt
  | 0 => l0
  | i + 1 => match sk i with
    | none => ylg sk R l0 i
    | some k => ylg1 k (ylg sk R l0 i) (R i k)
def yok (sk : Nat → Option Nat) (R : Nat → Nat → yM) (i : Nat) : Prop := ∀ k, sk i = some k → yac (R i k)
theorem ylg_n {sk : Nat → Option Nat} {R : Nat → Nat → yM} {l0 : yLt} {i : Nat} (h : sk i = none) : ylg sk R l0 (i + 1) = ylg sk R l0 i := by
  show (match sk i with | none => ylg sk R l0 i | some k => ylg1 k (ylg sk R l0 i) (R i k)) = _
  rw [h]
theorem ylg_s {sk : Nat → Option Nat} {R : Nat → Nat → yM} {l0 : yLt} {i k : Nat} (h : sk i = some k) : ylg sk R l0 (i + 1) = ylg1 k (ylg sk R l0 i) (R i k) := by
  show (match sk i with | none => ylg sk R l0 i | some k => ylg1 k (ylg sk R l0 i) (R i k)) = _
  rw [h]
/-- told by the class -/
def yTc (I : zI) (J : zJ) (f : Nat → Nat → Nat) (s : Nat) : yLt → Prop
  | (r, a, S, W, kk, u, q) => (I 3088 2 = r ∧ I 3088 3 = a ∧ I 3088 4 = S ∧ I 3088 5 = W ∧ I 3088 6 = kk) ∧ (∀ k, k < s → I (32 * f 0 k + 7) 6 = u k) ∧ J 11 12 = q
/-- phase two leaves -/
def yFc (I : zI) (J : zJ) (I' : zI) (J' : zJ) (K : Nat) : Prop :=
  ((∀ c, yFx c → I' c = I c ∧ (c ≠ 11 → J' c = J c)) ∧ (∀ j, j ≠ 12 → J' 11 j = J 11 j) ∧ I' 649 = I 649 ∧ (∀ j, j < 2 ∨ 6 < j → I' 3088 j = I 3088 j)) ∧ (∀ c, 6432 ≤ c → (c % 32 ≠ 7 → I' c = I c) ∧ (∀ j, j ≠ 6 → I' c j = I c j) ∧ J' c = J c) ∧
  (∀ j, j < K → I' 79 j = I 79 j ∧ I' 112 j = I 112 j ∧ I' 144 j = I 144 j ∧ I' 176 j = I 176 j ∧ J' 209 j = J 209 j) ∧ ∀ j, j < 4096 → I' 239 j = I 239 j
section
variable {I I' I'' : zI} {J J' J'' : zJ} {P : zP} {N : Nat → Nat} {n z m K s i nt bc cx a k : Nat} {F C Z X H L : Nat → Nat} {f g : Nat → Nat → Nat} {T : Nat → Int64}
theorem yFc_r : yFc I J I J K := ⟨⟨fun _ _ => ⟨rfl, fun _ => rfl⟩, fun _ _ => rfl, rfl, fun _ _ => rfl⟩, fun _ _ => ⟨fun _ => rfl, fun _ _ => rfl, rfl⟩, fun _ _ => ⟨rfl, rfl, rfl, rfl, rfl⟩, fun _ _ => rfl⟩
theorem yFc_t (h : yFc I J I' J' K) (h' : yFc I' J' I'' J'' K) : yFc I J I'' J'' K := by
  obtain ⟨⟨a1, a2, a3, a4⟩, a5, a6, a7⟩ := h
  obtain ⟨⟨b1, b2, b3, b4⟩, b5, b6, b7⟩ := h'
  refine ⟨⟨fun c hc => ⟨(b1 c hc).1.trans (a1 c hc).1, fun x => ((b1 c hc).2 x).trans ((a1 c hc).2 x)⟩, fun j hj => (b2 j hj).trans (a2 j hj), b3.trans a3, fun j hj => (b4 j hj).trans (a4 j hj)⟩, fun c hc => ⟨fun x => ((b5 c hc).1 x).trans ((a5 c hc).1 x), fun j hj => ((b5 c hc).2.1 j hj).trans ((a5 c hc).2.1 j hj), (b5 c hc).2.2.trans (a5 c hc).2.2⟩, fun j hj => ?_, fun j hj => (b7 j hj).trans (a7 j hj)⟩
  obtain ⟨c1, c2, c3, c4, c5⟩ := a6 j hj
  obtain ⟨d1, d2, d3, d4, d5⟩ := b6 j hj
  exact ⟨d1.trans c1, d2.trans c2, d3.trans c3, d4.trans c4, d5.trans c5⟩
/-- a run -/
theorem yFc_b {r : Nat} {x y : Int64} {w : yM} (hr : r % 32 = 7) (h1 : K ≤ cx) (h2 : cx ≤ bc) (h : yBf I J I' J' r bc cx x y w) : yFc I J I' J' K := by
  obtain ⟨tab, top, mm, v, e, st, S, W, b⟩ := w
  obtain ⟨⟨a1, a2, a3, a4, a5⟩, ⟨b1, b2, b3, b4⟩, -⟩ := h
  refine ⟨⟨a1, a2, a3, a4⟩, fun c hc => ⟨fun h7 => (a5 c hc).1 (fun e => h7 (by rw [e, hr])), (a5 c hc).2⟩, fun j hj => ?_, b4⟩
  obtain ⟨c1, c2, c3, c4, c5⟩ := b1 j (by omega)
  exact ⟨c1, c2, c3, c4, c5 (by omega) (by omega)⟩
/-- a datum read, with the top set ahead of it -/
theorem yFc_d {v : Int32} (h2 : K ≤ nt) (h : yDf (zu I 37 7 v) J I' J' nt) : yFc I J I' J' K := by
  obtain ⟨a1, a2, a3, a4, a5⟩ := h
  refine ⟨⟨fun c hc => ?_, fun j _ => by rw [a4 11 (by decide) (by decide)], ?_, fun j _ => ?_⟩, fun c hc => ?_, fun j hj => ?_, fun j hj => ?_⟩
  · unfold yFx at hc
    exact ⟨by rw [a1 c (by omega) (by omega) (by omega) (by omega) (by omega) (by omega) (by omega) (by omega) (by omega) (by omega), zuR_ne (by omega)], fun _ => a4 c (by omega) (by omega)⟩
  · rw [a1 649 (by decide) (by decide) (by decide) (by decide) (by decide) (by decide) (by decide) (by decide) (by decide) (by decide), zuR_ne (by decide)]
  · rw [a1 3088 (by decide) (by decide) (by decide) (by decide) (by decide) (by decide) (by decide) (by decide) (by decide) (by decide), zuR_ne (by decide)]
  · have e : I' c = I c := by rw [a1 c (by omega) (by omega) (by omega) (by omega) (by omega) (by omega) (by omega) (by omega) (by omega) (by omega), zuR_ne (by omega)]
    exact ⟨fun _ => e, fun j _ => by rw [e], a4 c (by omega) (by omega)⟩
  · have := a3 j (by omega)
    rw [zuR_ne (by decide), zuR_ne (by decide), zuR_ne (by decide), zuR_ne (by decide)] at this
    exact this
  · rw [a5 j hj, zuR_ne (by decide)]
theorem yFc_7 {v : Int32} : yFc I J (zu I 37 7 v) J K := by
  have fr : ∀ c, c ≠ 37 → zu I 37 7 v c = I c := fun c hc => zuR_ne hc
  refine ⟨⟨fun c hc => ?_, fun j _ => rfl, fr 649 (by decide), fun j _ => by rw [fr 3088 (by decide)]⟩, fun c hc => ⟨fun _ => fr c (by omega), fun j _ => by rw [fr c (by omega)], rfl⟩, fun j _ => ⟨by rw [fr 79 (by decide)], by rw [fr 112 (by decide)], by rw [fr 144 (by decide)], by rw [fr 176 (by decide)], rfl⟩, fun j _ => by rw [fr 239 (by decide)]⟩
  unfold yFx at hc
  exact ⟨fr c (by omega), fun _ => rfl⟩
theorem zHas_f2 (h : yFc I J I' J' K) (hs : zHas I J F T C Z H X L K s) : zHas I' J' F T C Z H X L K s :=
  zHas_y (fun c x1 x2 => ⟨(h.1.1 c (by unfold yFx; omega)).1, (h.1.1 c (by unfold yFx; omega)).2 (by omega)⟩) (by rw [h.1.2.2.1]) h.2.2.1 hs
theorem zO1_f2 (h : yFc I J I' J' K) (O : zO1 I J P N I J g n a) : zO1 I' J' P N I' J' g n a := by
  obtain ⟨p, i, aa, l, b, hc, hd, hg⟩ := O
  have g0 := hg 0 (by decide)
  have g1 := hg 1 (by decide)
  have g2 := hg 2 (by decide)
  have g3 := hg 3 (by decide)
  have g4 := hg 4 (by decide)
  have g5 := hg 5 (by decide)
  have r0 := (h.2.1 (32 * g 0 a + 6) (by omega)).1 (by omega)
  have r1 := (h.2.1 (32 * g 1 a + 1) (by omega)).1 (by omega)
  have r2 := (h.2.1 (32 * g 2 a + 16) (by omega)).1 (by omega)
  have r3 := (h.2.1 (32 * g 3 a + 17) (by omega)).2.2
  have r4 := (h.2.1 (32 * g 4 a + 17) (by omega)).2.2
  have r5 := (h.2.1 (32 * g 5 a + 15) (by omega)).1 (by omega)
  have q := fun c (hc : yFx c) => (h.1.1 c hc).1
  unfold zO1
  rw [r0, r1, r2, r3, r4, r5, q 3408 (by unfold yFx; omega), q 3632 (by unfold yFx; omega), q 3664 (by unfold yFx; omega), q 3440 (by unfold yFx; omega), q 3600 (by unfold yFx; omega), q 3472 (by unfold yFx; omega), q 3567 (by unfold yFx; omega), (h.1.1 3505 (by unfold yFx; omega)).2 (by decide), (h.1.1 3537 (by unfold yFx; omega)).2 (by decide)]
  exact ⟨p, i, aa, l, b, hc, hd, hg⟩
theorem ySf_f2 {Ks zs ls ws Wd Ps : Nat → Nat} {Vs : Nat → Int64} {Yb : Nat → Nat → Int32} (h : yFc I J I' J' K) (O : ySf I J P N f n Ks zs ls ws Wd Ps Vs Yb k) : ySf I' J' P N f n Ks zs ls ws Wd Ps Vs Yb k := by
  obtain ⟨f1, f2, f7, f8, f12, f13, f14⟩ := O
  have g0 := f14 0 (by decide)
  have g1 := f14 1 (by decide)
  have g2 := f14 2 (by decide)
  have g3 := f14 3 (by decide)
  have g4 := f14 4 (by decide)
  refine ⟨f1, f2, ?_, f8, f12, ?_, f14⟩
  · rw [(h.2.1 (32 * f 0 k + 7) (by omega)).2.1 4 (by decide)]; exact f7
  · rw [(h.2.1 (32 * f 1 k + 15) (by omega)).1 (by omega), (h.2.1 (32 * f 2 k + 17) (by omega)).2.2, (h.2.1 (32 * f 3 k + 16) (by omega)).1 (by omega), (h.2.1 (32 * f 4 k + 15) (by omega)).1 (by omega)]
    exact f13
/-- nodes of DATA stand -/
theorem yEc_x {bt bt' p ff c zz : Nat} {t : Int64} {y : Nat → Int32} (hb : bt ≤ bt') (hr : I' 79 p = I 79 p ∧ I' 112 p = I 112 p ∧ I' 144 p = I 144 p ∧ I' 176 p = I 176 p ∧ J' 209 p = J 209 p) (hby : ∀ j, j < bt → I' 239 j = I 239 j) (h : yEc I J bt p ff c t zz y) : yEc I' J' bt' p ff c t zz y := by
  obtain ⟨a1, a2, a3, a4, a5⟩ := h
  obtain ⟨b1, b2, b3, b4, b5⟩ := hr
  refine ⟨b1.trans a1, b2.trans a2, b3.trans a3, b5.trans a4, fun h2 => ?_⟩
  obtain ⟨q, q1, q2, q3⟩ := a5 h2
  exact ⟨q, b4.trans q1, by omega, fun i hi => (hby _ (by omega)).trans (q3 i hi)⟩
theorem yTc_x {l : yLt} (h : yFc I J I' J' K) (e1 : I' 3088 = I 3088) (e2 : ∀ c, 6432 ≤ c → I' c = I c) (e3 : J' 11 = J 11) (hf : ∀ k, k < s → 201 ≤ f 0 k) (t : yTc I J f s l) : yTc I' J' f s l := by
  obtain ⟨r, a, S, W, kk, u, q⟩ := l
  obtain ⟨t1, t2, t3⟩ := t
  refine ⟨by rw [e1]; exact t1, fun k hk => ?_, by rw [e3]; exact t3⟩
  have := hf k hk
  rw [e2 _ (by omega)]
  exact t2 k hk
theorem yTc_b {l : yLt} {x y : Int64} {w : yM} (hf : ∀ k, k < s → 201 ≤ f 0 k) (hi : ∀ i k, i < s → k < s → f 0 i = f 0 k → i = k) (hk : k < s) (h : yBf I J I' J' (32 * f 0 k + 7) bc cx x y w) (t : yTc I J f s l) : yTc I' J' f s (ylg1 k l w) := by
  obtain ⟨r, a, S, W, kk, u, q⟩ := l
  obtain ⟨⟨t1, -⟩, t2, t3⟩ := t
  obtain ⟨tab, top, mm, v, e, st, S', W', b⟩ := w
  obtain ⟨⟨-, -, -, -, a5⟩, -, ⟨c1, c2, c3, c4, c5⟩, d1, d2⟩ := h
  refine ⟨⟨by rw [c1, t1], c2, c3, c4, c5⟩, fun j hj => ?_, by rw [d2, t3]⟩
  show _ = if j = k then u j + 1 else u j
  by_cases hjk : j = k
  · rw [if_pos hjk, hjk, d1, t2 k hk]
  · rw [if_neg hjk, (a5 (32 * f 0 j + 7) (by have := hf j hj; omega)).1 (fun e => hjk (hi j k hj hk (by omega))), t2 j hj]
end
theorem zPv_in {po : Nat → Int32} : ∀ w q, q < zPn po w → ∃ m, m < w ∧ zPv po w q = po m := by
  intro w
  induction w with
  | zero => intro q hq; exact absurd hq (Nat.not_lt_zero _)
  | succ w ih =>
    intro q hq
    unfold zPv
    by_cases hn : w = 0 ∨ ¬ po (w - 1) = po w
    · by_cases hq2 : zPn po w = q
      · rw [if_pos ⟨hn, hq2⟩]; exact ⟨w, by omega, rfl⟩
      · rw [if_neg (fun x => hq2 x.2)]
        unfold zPn at hq
        rw [if_pos hn] at hq
        obtain ⟨m, m1, m2⟩ := ih q (by omega)
        exact ⟨m, by omega, m2⟩
    · rw [if_neg (fun x => hn x.1)]
      unfold zPn at hq
      rw [if_neg hn] at hq
      obtain ⟨m, m1, m2⟩ := ih q hq
      exact ⟨m, by omega, m2⟩
/-- the policies are those of scripts -/
theorem ypv_n {F C Z H : Nat → Nat} {T : Nat → Int64} {s q : Nat} (hs : s ≤ 32) (t : zTx F T C Z H s) (hq : q < ynp T C Z) : ∃ p, 1 ≤ p ∧ p ≤ s ∧ ypv T C Z q = nI p := by
  obtain ⟨m, m1, m2⟩ := zPv_in (po := zpo T (zWi Z 0 5)) _ q hq
  obtain ⟨-, ⟨a1, a2, -⟩, -⟩ := t.2.2.2.2.2.2.1.2 m m1
  have i1 : 1 ≤ (T (zWi Z 0 5 + 1 + 4 * m + 1)).toInt := Int64.le_iff_toInt_le.1 a1
  have i2 := Int64.le_iff_toInt_le.1 a2
  rw [w64_toInt (by omega)] at i2
  refine ⟨(T (zWi Z 0 5 + 1 + 4 * m + 1)).toInt.toNat, by omega, by omega, ?_⟩
  show zPv _ _ q = _
  rw [m2]
  show (T (zWi Z 0 5 + 1 + 4 * m + 1)).toInt32 = _
  rw [← Int32.toInt_inj, Int64.toInt_toInt32, nI_toInt (by omega), Int.bmod_eq_of_le (by omega) (by omega)]
  omega
