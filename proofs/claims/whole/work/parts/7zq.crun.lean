-- needs: 01 02.names 03 04 05 18 19 20 22 23 24 25 30 31 32 33 35 36 37 40 42 43 44 45 46 47 60 61 62 63 64 65 66 67 68 69 79f 79g 79h 79i 79j 79k 79l 79m 79n 79o 79p 79q 79r 79s 79t 79u 79v 79w 79x 79y 79z. 79za 79zb 79zc 79zd 79ze 79zf 79zg 79zh 79zi 79zj 79zk 79zl 79zm 79zn 79zo 79zp 79zq 79zr 79zs 79zt 79zu 79zv 7a 7b 7c 7d 7e 7f 7g 7zl 7zm 7zn 7zo 7h 7i 7j 7k 7l 7m 7n 7o 7p 7q 7r 7zj 7zk 7zp
/-! A run of a script: its code and its constants -/
def yKd (Ks : Nat → Nat) (ap K i : Nat) : Nat := if i < ap then 2 else if i < ap + K then Ks (i - ap) else 11
def ySd (Ss : Nat → Nat) (ap K i : Nat) : Nat := if i < ap then ap + K + i else ap + Ss (i - ap)
def yNd (Vs : Nat → Int64) (ap K i : Nat) : Int64 := if ap ≤ i ∧ i < ap + K then Vs (i - ap) else 0
def yLm (ls : Nat → Nat) (ap K i : Nat) : Nat := if ap ≤ i ∧ i < ap + K then ls (i - ap) else 0
def ySs (zs : Nat → Nat) (j : Nat) : Nat := j + 1 + zs (j + 1)
def ycv (k : Nat) (x : Int64) (w : Nat) (y : Nat → Int32) : yV := if k = 7 then yvI x else if k = 8 then yvB (ybyt w y) else if k = 9 then (2, x, 0, [], yint 0) else if k = 10 then yvU else yvD yemp
def ytb (Ks Wd : Nat → Nat) (Vs : Nat → Int64) (Yb : Nat → Nat → Int32) (ap K : Nat) (cx rd dm : yD) (v : Nat) : yV := if v < ap + K then ycv (Ks (v - ap)) (Vs (v - ap)) (Wd (v - ap)) (Yb (v - ap)) else if v = ap + K then yvD cx else if v = ap + K + 1 then yvD rd else yvD dm
/-- where it ends -/
noncomputable def yfin (Kd Sc : Nat → Nat) (Nm : Nat → Int64) (tab : Nat → yV) : yM := @dite yM (∃ k, yend (yit Kd Sc Nm (yini tab) k)) (Classical.propDecidable _) (fun h => yit Kd Sc Nm (yini tab) (Classical.choose h)) (fun _ => yini tab)
theorem yfin_e {Kd Sc : Nat → Nat} {Nm : Nat → Int64} {tab : Nat → yV} {k : Nat} (h : yend (yit Kd Sc Nm (yini tab) k)) : yit Kd Sc Nm (yini tab) k = yfin Kd Sc Nm tab := by
  have hx : ∃ k, yend (yit Kd Sc Nm (yini tab) k) := ⟨k, h⟩
  unfold yfin
  rw [dif_pos hx]
  exact yit_u h (Classical.choose_spec hx)
/-- the end of a run of a script -/
noncomputable def yrn (Ks zs Wd : Nat → Nat) (Vs : Nat → Int64) (Yb : Nat → Nat → Int32) (ap K : Nat) (cx rd dm : yD) : yM := yfin (yKd Ks ap K) (ySd (ySs zs) ap K) (yNd Vs ap K) (ytb Ks Wd Vs Yb ap K cx rd dm)
section
variable {Ks zs ls ws Wd Ps : Nat → Nat} {Vs : Nat → Int64} {Yb : Nat → Nat → Int32} {K ap : Nat} {cx rd dm : yD}
theorem yco_of (h : ySc Ks zs ls ws Vs Wd Yb K) (hap : ap = 2 ∨ ap = 3) : yco (yKd Ks ap K) (ySd (ySs zs) ap K) (yNd Vs ap K) (yLm ls ap K) (ap + K + ap) := by
  obtain ⟨⟨k1, k2, k3, k4, k5⟩, hs⟩ := h
  refine ⟨by omega, fun n hn => ?_⟩
  by_cases h1 : n < ap
  · have e1 : yKd Ks ap K n = 2 := if_pos h1
    have l0 : yLm ls ap K n = 0 := if_neg (by omega)
    have l1 : yLm ls ap K (n + 1) = 0 := by
      unfold yLm
      split
      · rw [show n + 1 - ap = 0 by omega]; exact k4
      · rfl
    have s1 : ySd (ySs zs) ap K n = ap + K + n := if_pos h1
    have l2 : yLm ls ap K (ap + K + n) = 0 := if_neg (by omega)
    rw [e1, l0, l1, s1, l2]
    exact ⟨by omega, by omega, fun h => by omega, fun h => by omega, fun h => by omega, fun _ => ⟨by omega, rfl, by omega, rfl⟩, fun h => by omega⟩
  · by_cases h2 : n < ap + K
    · obtain ⟨j, rfl⟩ : ∃ j, n = ap + j := ⟨n - ap, by omega⟩
      have e1 : yKd Ks ap K (ap + j) = Ks j := by unfold yKd; rw [if_neg h1, if_pos h2, show ap + j - ap = j by omega]
      have l0 : ∀ i, i < K → yLm ls ap K (ap + i) = ls i := fun i hi => by unfold yLm; rw [if_pos ⟨by omega, by omega⟩, show ap + i - ap = i by omega]
      have s1 : ySd (ySs zs) ap K (ap + j) = ap + (j + 1 + zs (j + 1)) := by unfold ySd ySs; rw [if_neg h1, show ap + j - ap = j by omega]
      have v1 : yNd Vs ap K (ap + j) = Vs j := by unfold yNd; rw [if_pos ⟨by omega, h2⟩, show ap + j - ap = j by omega]
      obtain ⟨⟨a1, a2, a3, a4, a5⟩, b0, b1, b3, b2, b5, b6, b9, bz, b8⟩ := hs j (by omega)
      rw [e1, l0 j (by omega), s1, v1]
      refine ⟨a5, by omega, fun h => (b0 h).2, fun h => ?_, fun h => ?_, fun h => ?_, b6⟩
      · obtain ⟨c1, c2, c3, c4⟩ := b1 h
        refine ⟨by omega, ?_⟩
        rw [Nat.add_assoc, l0 (j + 1) (by omega), c3]
      · obtain ⟨c1, c2, c3, c4⟩ := b3 h
        refine ⟨by omega, ?_⟩
        rw [Nat.add_assoc, l0 (j + 1) (by omega), c3]
      · obtain ⟨c1, c2, c3, c4, c5, c6, c7⟩ := b2 h
        refine ⟨by omega, ?_, by omega, ?_⟩
        · rw [Nat.add_assoc, l0 (j + 1) (by omega), c4]
        · rw [l0 (j + 1 + zs (j + 1)) (by omega), c6]
    · have e1 : yKd Ks ap K n = 11 := by unfold yKd; rw [if_neg h1, if_neg h2]
      have l0 : yLm ls ap K n = 0 := if_neg (by omega)
      rw [e1, l0]
      exact ⟨by omega, by omega, fun h => by omega, fun h => by omega, fun h => by omega, fun h => by omega, fun h => by omega⟩
theorem ytb_w {l : Nat → Nat} {M top : Nat} (h : ySc Ks zs ls ws Vs Wd Yb K) (hc : ywf cx) (hr : ywf rd) (hd : ap = 3 → ywf dm) (hap : ap = 2 ∨ ap = 3) (v : Nat) (hv : v < ap + K + ap) (h7 : 7 ≤ yKd Ks ap K v) : ywv (yKd Ks ap K) l M top (ytb Ks Wd Vs Yb ap K cx rd dm v) := by
  have ha : ¬ v < ap := fun h => by unfold yKd at h7; rw [if_pos h] at h7; omega
  unfold ytb
  by_cases h1 : v < ap + K
  · rw [if_pos h1]
    unfold yKd at h7
    rw [if_neg ha, if_pos h1] at h7
    obtain ⟨⟨a1, a2, a3, a4, a5⟩, -, -, -, -, -, -, -, -, b8⟩ := h.2 (v - ap) (by omega)
    unfold ycv
    by_cases k7 : Ks (v - ap) = 7
    · rw [if_pos k7]; exact ywv_I
    · rw [if_neg k7]
      by_cases k8 : Ks (v - ap) = 8
      · rw [if_pos k8]; exact ywv_B (b8 k8).1 (b8 k8).2.2
      · rw [if_neg k8]
        by_cases k9 : Ks (v - ap) = 9
        · rw [if_pos k9]
          exact ⟨by omega, fun h => by omega, fun h => by omega, fun h => by omega, fun h => by omega, fun h => by omega, fun h => by omega⟩
        · rw [if_neg k9]
          by_cases k10 : Ks (v - ap) = 10
          · rw [if_pos k10]
            exact ⟨by omega, fun h => by omega, fun h => by omega, fun h => by omega, fun h => by omega, fun h => by omega, fun h => by omega⟩
          · rw [if_neg k10]; exact ywv_D ywf_emp
  · rw [if_neg h1]
    by_cases h2 : v = ap + K
    · rw [if_pos h2]; exact ywv_D hc
    · rw [if_neg h2]
      by_cases h3 : v = ap + K + 1
      · rw [if_pos h3]; exact ywv_D hr
      · rw [if_neg h3]; exact ywv_D (hd (by omega))
theorem ywm_of (h : ySc Ks zs ls ws Vs Wd Yb K) (hc : ywf cx) (hr : ywf rd) (hd : ap = 3 → ywf dm) (hap : ap = 2 ∨ ap = 3) : ywm (yKd Ks ap K) (yLm ls ap K) (ap + K + ap) (yini (ytb Ks Wd Vs Yb ap K cx rd dm)) := by
  refine ⟨⟨by omega, by omega, by omega, by omega, by show 0 ≤ 400; omega, by omega⟩, fun v hv => ?_, trivial, fun _ => ⟨by omega, (fun v hv => (by cases hv)), ?_⟩, fun h => by omega⟩
  · have : v < ap + K + ap ∧ 7 ≤ yKd Ks ap K v := by unfold yvl at hv; omega
    exact ytb_w h hc hr hd hap v this.1 this.2
  · show 0 = yLm ls ap K 0
    unfold yLm
    rw [if_neg (by omega)]
end
section
variable {I I' : zI} {J J' : zJ} {P : zP} {N : Nat → Nat} {n z nt b0 : Nat} {Q : Option Value → zS → Prop} {Ks zs ls ws Wd Ps : Nat → Nat} {Vs : Nat → Int64} {Yb : Nat → Nat → Int32} {K ap cn rn dn : Nat} {cx rd dm : yD}
/-- DATA that lay there lie there once a script is loaded -/
theorem yLd_d {d : yD} {b : Nat} (L : yLd I J I' J' Ks Wd Ps (ySs zs) Vs Yb nt ap K cn rn dn) (hb : b + d.1 ≤ nt) (he : yEt (yEc I J 4224) b d) : yCd I' J' (nt + 1) 8320 b d := by
  refine yCd_e (by omega) (yEt_m (fun p f c t zz y h1 h2 h => ?_) he)
  obtain ⟨a1, a2, a3, a4, a5⟩ := h
  obtain ⟨⟨-, -, -, l4, l5⟩, -⟩ := L
  obtain ⟨c1, c2, c3, c4, c5⟩ := l4 p (by omega)
  refine ⟨c1.trans a1, c2.trans a2, c3.trans a3, c5.trans a4, fun hf => ?_⟩
  obtain ⟨q, q1, q2, q3⟩ := a5 hf
  exact ⟨q, c4.trans q1, by omega, fun i hi => (l5 _ (by omega)).trans (q3 i hi)⟩
theorem yLd_c (h : ySc Ks zs ls ws Vs Wd Yb K) (hap : ap = 2 ∨ ap = 3) (hps : ∀ j, j < K → Ks j = 8 → Ps j + Wd j ≤ 4096) (L : yLd I J I' J' Ks Wd Ps (ySs zs) Vs Yb nt ap K cn rn dn) (hc : cn + cx.1 ≤ nt ∧ yEt (yEc I J 4224) cn cx) (hr : rn + rd.1 ≤ nt ∧ yEt (yEc I J 4224) rn rd) (hd : ap = 3 → dn + dm.1 ≤ nt ∧ yEt (yEc I J 4224) dn dm) : yCc (yKd Ks ap K) (ySd (ySs zs) ap K) (yNd Vs ap K) (ap + K + ap) I' J' ∧ ∀ v, v < ap + K + ap → 7 ≤ yKd Ks ap K v → yCv I' J' (nt + 1) 8320 200 0 v (ytb Ks Wd Vs Yb ap K cx rd dm v) := by
  have ld := fun (d : yD) (b : Nat) (x : b + d.1 ≤ nt) (y : yEt (yEc I J 4224) b d) => yLd_d (d := d) (b := b) L x y
  obtain ⟨-, -, ⟨e1, e2, e3, e4⟩, ⟨c1, c2, c3⟩, lc, k4, f1, f2, f3⟩ := L
  constructor
  · intro i hi
    by_cases h1 : i < ap
    · have a1 : yKd Ks ap K i = 2 := if_pos h1
      have s1 : ySd (ySs zs) ap K i = ap + K + i := if_pos h1
      rw [a1, s1]
      exact ⟨(c1 i h1).1, fun h => by omega, fun _ => (c1 i h1).2⟩
    · by_cases h2 : i < ap + K
      · obtain ⟨j, rfl⟩ : ∃ j, i = ap + j := ⟨i - ap, by omega⟩
        have a1 : yKd Ks ap K (ap + j) = Ks j := by unfold yKd; rw [if_neg h1, if_pos h2, show ap + j - ap = j by omega]
        have s1 : ySd (ySs zs) ap K (ap + j) = ap + ySs zs j := by unfold ySd; rw [if_neg h1, show ap + j - ap = j by omega]
        have v1 : yNd Vs ap K (ap + j) = Vs j := by unfold yNd; rw [if_pos ⟨by omega, h2⟩, show ap + j - ap = j by omega]
        rw [a1, s1, v1]
        obtain ⟨x1, x2, x3, x4⟩ := c2 j (by omega)
        exact ⟨x1, fun _ => x2, x3⟩
      · have a1 : yKd Ks ap K i = 11 := by unfold yKd; rw [if_neg h1, if_neg h2]
        rw [a1]
        have := c3 (i - (ap + K)) (by omega)
        rw [show ap + K + (i - (ap + K)) = i by omega] at this
        exact ⟨this, fun h => by omega, fun h => by omega⟩
  · intro v hv h7
    have ha : ¬ v < ap := fun h => by unfold yKd at h7; rw [if_pos h] at h7; omega
    unfold ytb
    by_cases h1 : v < ap + K
    · rw [if_pos h1]
      unfold yKd at h7
      rw [if_neg ha, if_pos h1] at h7
      obtain ⟨j, rfl⟩ : ∃ j, v = ap + j := ⟨v - ap, by omega⟩
      rw [show ap + j - ap = j by omega] at h7 ⊢
      obtain ⟨⟨-, -, -, -, a5⟩, -, -, -, -, -, -, -, -, b8⟩ := h.2 j (by omega)
      obtain ⟨l7, l8, l9, l10, l11⟩ := lc j (by omega)
      obtain ⟨-, -, -, y8⟩ := c2 j (by omega)
      unfold ycv
      by_cases k7 : Ks j = 7
      · rw [if_pos k7]
        exact ⟨(l7 k7).1, fun _ => (l7 k7).2, fun h => by omega, fun h => by omega, fun h => by omega, fun h => by omega⟩
      · rw [if_neg k7]
        by_cases k8 : Ks j = 8
        · rw [if_pos k8]
          obtain ⟨w1, w2, w3⟩ := l8 k8
          have := hps j (by omega) k8
          exact ⟨w1, fun h => by omega, fun _ => ⟨4224 + Ps j, w2, w3, by show 4224 + Ps j + Wd j ≤ 8320; omega, fun i hi => y8 k8 i hi⟩, fun h => by omega, fun h => by omega, fun h => by omega⟩
        · rw [if_neg k8]
          by_cases k9 : Ks j = 9
          · rw [if_pos k9]
            exact ⟨(l9 k9).1, fun _ => (l9 k9).2, fun h => by omega, fun h => by omega, fun h => by omega, fun h => by omega⟩
          · rw [if_neg k9]
            by_cases k10 : Ks j = 10
            · rw [if_pos k10]
              exact ⟨l10 k10, fun h => by omega, fun h => by omega, fun h => by omega, fun h => by omega, fun h => by omega⟩
            · rw [if_neg k10]
              have k11 : Ks j = 11 := by omega
              refine ⟨(l11 k11).1, fun h => by omega, fun h => by omega, fun _ => ⟨nt, (l11 k11).2, by omega, fun i hi => ?_⟩, fun h => by omega, fun h => by omega⟩
              obtain rfl : i = 0 := by omega
              exact ⟨⟨e1, e2, e3, e4⟩, fun h => by cases h⟩
    · rw [if_neg h1]
      have kk := k4 (v - (ap + K)) (by omega)
      rw [show ap + K + (v - (ap + K)) = v by omega] at kk
      by_cases h2 : v = ap + K
      · rw [if_pos h2]
        refine ⟨kk, fun h => by omega, fun h => by omega, fun _ => ⟨cn, by rw [h2]; exact f1, ld cx cn hc.1 hc.2⟩, fun h => by omega, fun h => by omega⟩
      · rw [if_neg h2]
        by_cases h3 : v = ap + K + 1
        · rw [if_pos h3]
          refine ⟨kk, fun h => by omega, fun h => by omega, fun _ => ⟨rn, by rw [h3]; exact f2, ld rd rn hr.1 hr.2⟩, fun h => by omega, fun h => by omega⟩
        · rw [if_neg h3]
          have a3 : ap = 3 := by omega
          refine ⟨kk, fun h => by omega, fun h => by omega, fun _ => ⟨dn, by rw [show v = ap + K + 2 by omega]; exact f3 a3, ld dm dn (hd a3).1 (hd a3).2⟩, fun h => by omega, fun h => by omega⟩
/-- the class runs a loaded script -/
theorem e69r (hS : zStat P N) (hT : I 54 = zTK0 ∧ N 54 = 32) (h : ySc Ks zs ls ws Vs Wd Yb K) (hap : ap = 2 ∨ ap = 3) (hps : ∀ j, j < K → Ks j = 8 → Ps j + Wd j ≤ 4096) (L : yLd I J I' J' Ks Wd Ps (ySs zs) Vs Yb nt ap K cn rn dn) (hc : cn + cx.1 ≤ nt ∧ yEt (yEc I J 4224) cn cx) (hr : rn + rd.1 ≤ nt ∧ yEt (yEc I J 4224) rn rd) (hd : ap = 3 → dn + dm.1 ≤ nt ∧ yEt (yEc I J 4224) dn dm) (wc : ywf cx) (wr : ywf rd) (wd : ap = 3 → ywf dm) (hn : nt ≤ 600) (hb : b0 ≤ nt)
    (hQ : ∀ I2 J2, yCf b0 I' J' I2 J2 → yOc I2 J2 (yrn Ks zs Wd Vs Yb ap K cx rd dm) → Q none (I2, J2, P, N, n, z)) : zC 69 [.ref 2532] (I', J', P, N, n, z) Q := by
  obtain ⟨q1, q2⟩ := yLd_c h hap hps L hc hr hd
  obtain ⟨⟨l1, -⟩, ⟨t1, t2, t3, t4⟩, -⟩ := L
  exact e69 (b0 := b0) hS ⟨by rw [l1 54 (by decide) (by decide) (by decide) (by decide) (by decide) (by decide) (by decide) (by decide) (by decide) (by decide) (by decide) (by decide)]; exact hT.1, hT.2⟩ (yco_of h hap) (ywm_of h wc wr wd hap) q1 t1 t2 t3 t4 (by omega) (by omega) q2 (fun I2 J2 k hk f o => hQ I2 J2 f (by rw [yfin_e hk] at o; exact o))
end
