-- needs: 01 02.names 03 04 05 18 19 20 22 23 24 25 30 31 32 33 36 40 42 43 44 46 47 60 61 62 63 64 79f 79g 79h 79i 79j 79k 79l 79m 79n 79o 79p 79q 79r 79s 79t 79u 7a
/-! A machine of its own that EVALUATES: class and reference both go its way. A value: kind, number, body (of a BUILTIN: which), values (of a body: what its variables stand for, of a BUILTIN: what it was applied to, the latest first), DATA (of BYTES: one node) -/
abbrev yV : Type := Nat × Int64 × Nat × List Nat × yD
/-- the values, how many; 0 evaluate, 1 give, 2 over; node or value; what variables stand for; what waits; steps, memory, answer -/
abbrev yM : Type := (Nat → yV) × Nat × Nat × Nat × List Nat × List (Nat × Nat × List Nat) × Nat × Nat × Nat
def yvI (x : Int64) : yV := (0, x, 0, [], yint 0)
def yvB (d : yD) : yV := (1, 0, 0, [], d)
noncomputable def yvT (p : Prop) : yV := (2, (zyn p).toInt64, 0, [], yint 0)
def yvU : yV := (3, 0, 0, [], yint 0)
def yvD (d : yD) : yV := (4, 0, 0, [], d)
def yvF (k b : Nat) (e : List Nat) : yV := (k, 0, b, e, yint 0)
def yvX (op : Nat) (l : List Nat) : yV := (7, (nI op).toInt64, op, l, yint 0)
/-- all bytes -/
def ysm (F C : Nat → Nat) : Nat → Nat
  | 0 => 0
  | k + 1 => ysm F C k + if F k = 2 then C k else 0
def ysz : yV → Nat
  | (k, _, _, _, (K, F, C, _)) => if k = 1 then 1 + C 0 / 8 else if k = 4 then K + ysm F C K / 8 else 1
def yar (op : Nat) : Nat := if op = 13 ∨ op = 16 then 3 else if op < 11 ∨ op = 12 ∨ op = 14 ∨ op = 15 ∨ op = 17 ∨ op = 21 ∨ op = 28 then 2 else 1
def yfm (f : Nat) : yV → Prop
  | (k, _, _, _, (_, F, _)) => k = 4 ∧ F 0 = f
/-- are a BUILTIN's values of its kinds? -/
def yft (op : Nat) (a b c : yV) : Prop := match op with
  | 10 => a.1 = 1 ∧ b.1 = 1
  | 11 => a.1 = 1
  | 12 => a.1 = 1 ∧ b.1 = 0
  | 13 => a.1 = 0 ∧ b.1 = 0 ∧ c.1 = 1
  | 14 => a.1 = 1 ∧ b.1 = 1
  | 15 => a.1 = 1 ∧ b.1 = 1
  | 16 => a.1 = 2
  | 17 => a.1 = 4 ∧ b.1 = 4
  | 18 => a.1 = 4
  | 19 => yfm 6 a
  | 20 => yfm 6 a
  | 21 => a.1 = 0 ∧ yfm 4 b
  | 22 => a.1 = 0
  | 23 => a.1 = 1
  | 24 => yfm 0 a
  | 25 => yfm 2 a
  | 26 => yfm 4 a
  | 27 => yfm 4 a
  | 28 => a.1 = 4 ∧ yfm 4 b
  | 29 => yfm 4 a
  | 30 => yfm 4 a
  | 31 => yfm 5 a
  | _ => a.1 = 0 ∧ b.1 = 0
/-- the order of bytes: r are left from i on -/
def ycb (y y' : Nat → Int32) (n n' : Nat) : Nat → Nat → Int32
  | 0, _ => nI n - nI n'
  | r + 1, i => if (y i &&& 255) - (y' i &&& 255) = 0 then ycb y y' n n' r (i + 1) else (y i &&& 255) - (y' i &&& 255)
def yeq : yD → yD → Prop
  | (K, F, C, T, _, _, Y), (K', F', C', T', _, _, Y') => K = K' ∧ ∀ j, j < K → (F j = F' j ∧ C j = C' j ∧ T j = T' j) ∧ (F j = 2 → ∀ i, i < C j → Y j i = Y' j i)
/-- is it too deep to lie within more? -/
def ydp : yD → Prop
  | (K, _, _, _, _, L, _) => ∃ j, j < K ∧ 12 ≤ L j
noncomputable def yif {α : Type} (p : Prop) (a b : α) : α := @ite α p (Classical.propDecidable p) a b
theorem yif_t {α : Type} {p : Prop} {a b : α} (h : p) : yif p a b = a := if_pos h
theorem yif_f {α : Type} {p : Prop} {a b : α} (h : ¬ p) : yif p a b = b := if_neg h
/-- how much of bytes is left at a place, and from where -/
def yfr (x : Int64) (n : Nat) : Nat := if x.toInt.toNat < n then x.toInt.toNat else n
noncomputable def yin (op : Nat) (x y : Int64) : Option yV := match op with
  | 0 => yif (((x ^^^ (x + y)) &&& (y ^^^ (x + y))) < 0) none (some (yvI (x + y)))
  | 1 => yif (((x ^^^ y) &&& (x ^^^ (x - y))) < 0) none (some (yvI (x - y)))
  | 2 => yif (y = 0 ∨ ¬ (if y = -1 then x = -9223372036854775808 else ¬ x * y / y = x)) (some (yvI (x * y))) none
  | 3 => yif (y = 0 ∨ (x = -9223372036854775808 ∧ y = -1)) none (some (yvI (x / y - yif (¬ x - x / y * y = 0 ∧ ¬ (x < 0 ↔ y < 0)) 1 0)))
  | 4 => yif (y = 0) none (some (yvI (x - x / y * y + yif (¬ x - x / y * y = 0 ∧ ¬ (x < 0 ↔ y < 0)) y 0)))
  | 5 => yif (y = 0 ∨ (x = -9223372036854775808 ∧ y = -1)) none (some (yvI (x / y)))
  | 6 => yif (y = 0) none (some (yvI (x - x / y * y)))
  | 7 => some (yvT (x = y))
  | 8 => some (yvT (x < y))
  | _ => some (yvT (x ≤ y))
noncomputable def ybt (op : Nat) (x y : Int64) : yD → yD → yD → Option yV
  | (_, _, C, _, _, _, Y), (_, _, C', _, _, _, Y'), (_, _, C2, _, _, _, Y2) => match op with
    | 10 => yif (64 < C 0 + C' 0) none (some (yvB (ybyt (C 0 + C' 0) (fun i => if i < C 0 then Y 0 i else Y' 0 (i - C 0)))))
    | 11 => some (yvI (nI (C 0)).toInt64)
    | 12 => yif (y < 0 ∨ (nI (C 0)).toInt64 ≤ y) none (some (yvI (Y 0 y.toInt.toNat &&& 255).toInt64))
    | 13 => some (yvB (ybyt (yfr y (C2 0 - yfr x (C2 0))) (fun i => Y2 0 (yfr x (C2 0) + i))))
    | 14 => some (yvT (ycb (Y 0) (Y' 0) (C 0) (C' 0) (min (C 0) (C' 0)) 0 = 0))
    | _ => some (yvT (ycb (Y 0) (Y' 0) (C 0) (C' 0) (min (C 0) (C' 0)) 0 < 0))
noncomputable def ydo (op : Nat) (x : Int64) (d d' : yD) : Option yV := match op with
  | 17 => some (yvT (yeq d d'))
  | 18 => some (yvI (nI (zFo (d.2.1 0))).toInt64)
  | 19 => some (yvI (d.2.2.2.1 0))
  | 20 => some (yvD (yas 4 0 d))
  | 21 => yif (x < 0 ∨ 127 < x) none (some (yvD (yas 6 x d')))
  | 22 => some (yvD (yint x))
  | 23 => some (yvD (ybyt (d.2.2.1 0) (d.2.2.2.2.2.2 0)))
  | 24 => some (yvI (d.2.2.2.1 0))
  | 25 => some (yvB (ybyt (d.2.2.1 0) (d.2.2.2.2.2.2 0)))
  | 26 => yif (d.2.2.1 0 = 0) none (some (yvD (ysub 1 d)))
  | 27 => yif (d.2.2.1 0 = 0) none (some (yvD (yoth d)))
  | 28 => yif (200 < d.1 + d'.1 ∨ ydp d) none (some (yvD (ycon d d')))
  | 29 => some (yvT (d.2.2.1 0 = 0))
  | 30 => yif (¬ d.2.2.1 0 % 2 = 0) none (some (yvD (yas 5 0 d)))
  | _ => some (yvD (yas 4 0 d))
/-- what a BUILTIN comes to, but 16 -/
noncomputable def yrs (op : Nat) (a b c : yV) : Option yV := if op < 10 then yin op a.2.1 b.2.1 else if op < 16 then ybt op a.2.1 b.2.1 a.2.2.2.2 b.2.2.2.2 c.2.2.2.2 else ydo op a.2.1 a.2.2.2.2 b.2.2.2.2
/-- the values that it is done with -/
def yga (l : List Nat) (v : Nat) : Nat × Nat × Nat := match l with
  | [] => (v, v, v)
  | [a] => (a, v, v)
  | b :: a :: _ => (a, b, v)
def ycs (tab : Nat → yV) (op : Nat) (g : Nat × Nat × Nat) : Nat := 1 + ysz (tab g.1) + (if 2 ≤ yar op then ysz (tab g.2.1) else 0) + if yar op = 3 then ysz (tab g.2.2) else 0
def yov (tab : Nat → yV) (top x S W a : Nat) : yM := (tab, top, 2, x, [], [], S, W, a)
def yup (tab : Nat → yV) (top : Nat) (w : yV) (j : Nat) : yV := if j = top then w else tab j
section
variable (tab : Nat → yV) (top : Nat) (st : List (Nat × Nat × List Nat)) (S W : Nat)
/-- a new value, paid -/
def ynw (w : yV) (c : Nat) : yM := if 3000 < W + c then yov tab top 0 S W 5 else (yup tab top w, top + 1, 1, top, [], st, S, W + c, 0)
/-- the value of a BUILTIN with all its values, its steps being paid -/
noncomputable def yfn (op : Nat) (g : Nat × Nat × Nat) : yM :=
  yif (¬ yft op (tab g.1) (tab g.2.1) (tab g.2.2)) (yov tab top 0 S W 2)
    (if op = 16 then (fun i => if 3000 < W + ysz (tab i) then yov tab top 0 S W 5 else (tab, top, 1, i, [], st, S, W + ysz (tab i), 0)) (yif ((tab g.1).2.1 = 1) g.2.1 g.2.2)
     else match yrs op (tab g.1) (tab g.2.1) (tab g.2.2) with
      | none => yov tab top 0 S W 3
      | some w => ynw tab top st S W w (ysz w))
/-- function f, applied to v -/
noncomputable def yap (f v : Nat) : yM := match tab f with
  | (k, _, b, l, _) =>
    if k = 5 then (if 3000 < W + 1 then yov tab top 0 S W 5 else (tab, top, 0, b, v :: l, st, S, W + 1, 0))
    else if k = 7 then (if l.length + 1 < yar b then ynw tab top st S W (yvX b (v :: l)) 1
      else if 20000 < S + ycs tab b (yga l v) then yov tab top 0 S W 4 else yfn tab top st (S + ycs tab b (yga l v)) W b (yga l v))
    else yov tab top 0 S W 2
end
section
variable (Kd Sc : Nat → Nat) (Nm : Nat → Int64)
noncomputable def yev (tab : Nat → yV) (top x : Nat) (e : List Nat) (st : List (Nat × Nat × List Nat)) (S W : Nat) : yM :=
  if 20000 < S + 1 then yov tab top 0 S W 4 else match Kd x with
    | 0 => (tab, top, 1, e.getD ((Nm x).toInt.toNat - 1) 0, [], st, S + 1, W, 0)
    | 1 => ynw tab top st (S + 1) W (yvF 5 (x + 1) e) 1
    | 2 => if 400 ≤ st.length then yov tab top 0 (S + 1) W 6 else (tab, top, 0, x + 1, e, (0, x, e) :: st, S + 1, W, 0)
    | 3 => ynw tab top st (S + 1) W (yvF 6 (x + 1) e) 1
    | 4 => if 400 ≤ st.length then yov tab top 0 (S + 1) W 6 else (tab, top, 0, x + 1, e, (2, x, e) :: st, S + 1, W, 0)
    | 5 => yov tab top 0 (S + 1) W 1
    | 6 => ynw tab top st (S + 1) W (yvX (Nm x).toInt.toNat []) 1
    | _ => (tab, top, 1, x, [], st, S + 1, W, 0)
noncomputable def ygv (tab : Nat → yV) (top v : Nat) (st : List (Nat × Nat × List Nat)) (S W : Nat) : yM := match st with
  | [] => yov tab top v S W 0
  | (k, y, e) :: r => match k with
    | 0 => (tab, top, 0, Sc y, e, (1, v, []) :: r, S, W, 0)
    | 1 => yap tab top r S W y v
    | _ => if (tab v).1 = 6 then (tab, top, 0, (tab v).2.2.1, (tab v).2.2.2.1, r, S, W, 0) else yov tab top 0 S W 2
noncomputable def yst : yM → yM
  | (tab, top, m, x, e, st, S, W, a) => match m with
    | 0 => yev Kd Nm tab top x e st S W
    | 1 => ygv Sc tab top x st S W
    | _ => (tab, top, m, x, e, st, S, W, a)
noncomputable def yit (s : yM) : Nat → yM
  | 0 => s
  | k + 1 => yst Kd Sc Nm (yit s k)
end
/-- is it over? -/
def yend (s : yM) : Prop := s.2.2.1 = 2
theorem yit_o {Kd Sc : Nat → Nat} {Nm : Nat → Int64} {s : yM} {k : Nat} (h : yend (yit Kd Sc Nm s k)) : ∀ d, yit Kd Sc Nm s (k + d) = yit Kd Sc Nm s k := by
  intro d
  induction d with
  | zero => rfl
  | succ d ih =>
    show yst Kd Sc Nm (yit Kd Sc Nm s (k + d)) = _
    rw [ih]
    generalize yit Kd Sc Nm s k = u at h
    obtain ⟨tab, top, m, x, e, st, S, W, a⟩ := u
    have : m = 2 := h
    subst this
    rfl
theorem yit_u {Kd Sc : Nat → Nat} {Nm : Nat → Int64} {s : yM} {k k' : Nat} (h : yend (yit Kd Sc Nm s k)) (h' : yend (yit Kd Sc Nm s k')) : yit Kd Sc Nm s k = yit Kd Sc Nm s k' := by
  rw [← yit_o h k', ← yit_o h' k, Nat.add_comm]
theorem yit_s {Kd Sc : Nat → Nat} {Nm : Nat → Int64} {s : yM} : ∀ k, yit Kd Sc Nm s (k + 1) = yit Kd Sc Nm (yst Kd Sc Nm s) k := by
  intro k
  induction k with
  | zero => rfl
  | succ k ih => show yst Kd Sc Nm (yit Kd Sc Nm s (k + 1)) = _; rw [ih]; rfl
/-- what waits, in turns -/
def yph : List (Nat × Nat × List Nat) → Nat
  | [] => 0
  | (k, _, _) :: r => (if k = 0 then 5 else if k = 1 then 4 else 1) + yph r
