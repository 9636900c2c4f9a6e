/-! A small machine over a plain heap: three stores (ints, longs, references) by cell and place; a reference is 32 * (number of the cell) + its kind (0 .. 14: objects of vwCl; 15 bytes, 16 ints, 17 longs, 18 booleans, 19 .. 21 arrays of references; 22: an int array that is only read). -/
abbrev zI : Type := Nat → Nat → Int32
abbrev zJ : Type := Nat → Nat → Int64
abbrev zP : Type := Nat → Nat → Option Nat
/-- the three stores, the lengths of arrays, how many cells, how many slots -/
abbrev zS : Type := zI × zJ × zP × (Nat → Nat) × Nat × Nat
abbrev zL : Type := List (Option Value)
abbrev zO : Type := Nat × Nat × Nat × Nat × Int32 × Int64 × List Nat × List Nat
/-- go on (0: behind, b + 1: at block b); a call; an end -/
abbrev zR : Type := (Nat × zL × List Value × zS) ⊕ ((Nat × List Value × zL × List Value × zS) ⊕ (Option Value × zS))
def zu {α : Type} (f : Nat → Nat → α) (a j : Nat) (v : α) : Nat → Nat → α := fun a' j' => if a' = a ∧ j' = j then v else f a' j'
def zrow {α : Type} (f : Nat → Nat → α) (a : Nat) (v : α) : Nat → Nat → α := fun a' j' => if a' = a then v else f a' j'
def zcp {α : Type} (f : Nat → Nat → α) (a sp b dp n : Nat) : Nat → Nat → α := fun a' j' => if a' = b ∧ dp ≤ j' ∧ j' < dp + n then f a (sp + (j' - dp)) else f a' j'
def zlike {α : Type} (f : Nat → Nat → α) (a b : Nat) : Nat → Nat → α := fun a' j' => if a' = b then f a j' else f a' j'
def zlen1 (N : Nat → Nat) (a n : Nat) : Nat → Nat := fun a' => if a' = a then n else N a'
def zclr (ls : zL) (i : Nat) : zL := match i with
  | 0 => ls
  | j + 1 => match ls[j]? with
    | some (some (.long _)) => ls.set j none
    | some (some (.double _)) => ls.set j none
    | _ => ls
def zset1 (ls : zL) (i : Nat) (v : Value) : zL := (zclr ls i).set i (some v)
def zset2 (ls : zL) (i : Nat) (v : Value) : zL := ((zclr ls i).set i (some v)).set (i + 1) none
def zcat (st : List Value) : Nat := (st.map fun v => v.category).sum
/-- a new cell of a kind with z slots and a length -/
def zmake (σ : zS) (kd len z : Nat) : zS := match σ with
  | (I, J, P, N, n, s) => (zrow I (32 * n + kd) 0, zrow J (32 * n + kd) 0, zrow P (32 * n + kd) none, zlen1 N (32 * n + kd) len, n + 1, s + z)
-- the operations
def zldI (i : Nat) : zO := (0, i, 0, 0, 0, 0, [], [])
def zldL (i : Nat) : zO := (1, i, 0, 0, 0, 0, [], [])
def zldA (i : Nat) : zO := (2, i, 0, 0, 0, 0, [], [])
def zstI (i : Nat) : zO := (3, i, 0, 0, 0, 0, [], [])
def zstL (i : Nat) : zO := (4, i, 0, 0, 0, 0, [], [])
def zstA (i : Nat) : zO := (5, i, 0, 0, 0, 0, [], [])
def zcI (c : Int32) : zO := (6, 0, 0, 0, c, 0, [], [])
def zcL (d : Int64) : zO := (7, 0, 0, 0, 0, d, [], [])
def znul : zO := (8, 0, 0, 0, 0, 0, [], [])
def zinc (i : Nat) (c : Int32) : zO := (9, i, 0, 0, c, 0, [], [])
def zbI (k : Nat) : zO := (10, k, 0, 0, 0, 0, [], [])
def zbL (k : Nat) : zO := (11, k, 0, 0, 0, 0, [], [])
def zsL (k : Nat) : zO := (12, k, 0, 0, 0, 0, [], [])
def zun (k : Nat) : zO := (13, k, 0, 0, 0, 0, [], [])
def zcmp : zO := (14, 0, 0, 0, 0, 0, [], [])
def zdup : zO := (15, 0, 0, 0, 0, 0, [], [])
def zdup2 : zO := (16, 0, 0, 0, 0, 0, [], [])
def zpop : zO := (17, 0, 0, 0, 0, 0, [], [])
def zpop2 : zO := (18, 0, 0, 0, 0, 0, [], [])
def zif (k b : Nat) : zO := (19, k, b, 0, 0, 0, [], [])
def zic (k b : Nat) : zO := (20, k, b, 0, 0, 0, [], [])
def zjn (b : Nat) : zO := (21, b, 0, 0, 0, 0, [], [])
def zjnn (b : Nat) : zO := (22, b, 0, 0, 0, 0, [], [])
def zgo (b : Nat) : zO := (23, b, 0, 0, 0, 0, [], [])
def ztsw (b : Nat) (lo : Int32) (bs : List Nat) : zO := (24, b, 0, 0, lo, 0, bs, [])
def zlsw (b : Nat) (ks bs : List Nat) : zO := (25, b, 0, 0, 0, 0, bs, ks)
def zget (c k t : Nat) : zO := (26, c, k, t, 0, 0, [], [])
def zput (c k t : Nat) : zO := (27, c, k, t, 0, 0, [], [])
def zald (t : Nat) : zO := (28, t, 0, 0, 0, 0, [], [])
def zast (t : Nat) : zO := (29, t, 0, 0, 0, 0, [], [])
def zlen : zO := (30, 0, 0, 0, 0, 0, [], [])
def znewa (kd : Nat) : zO := (31, kd, 0, 0, 0, 0, [], [])
def znew (c z : Nat) : zO := (32, c, z, 0, 0, 0, [], [])
def zcal (q n md c : Nat) : zO := (33, q, n, md, 0, 0, [c], [])
def zret (t : Nat) : zO := (34, t, 0, 0, 0, 0, [], [])
def ztak : zO := (35, 0, 0, 0, 0, 0, [], [])
def zcst (kd : Nat) : zO := (36, kd, 0, 0, 0, 0, [], [])
def zacp : zO := (37, 0, 0, 0, 0, 0, [], [])
def zoini : zO := (38, 0, 0, 0, 0, 0, [], [])
def zcln (kd : Nat) : zO := (39, kd, 0, 0, 0, 0, [], [])
def zthr (pc : Nat) : zO := (40, pc, 0, 0, 0, 0, [], [])
def zbad : zO := (43, 0, 0, 0, 0, 0, [], [])
def zlco (q pc : Nat) : zO := (41, q, pc, 0, 0, 0, [], [])
def zfal (b : Nat) : zO := (42, b, 0, 0, 0, 0, [], [])
-- what each does
def zxBI (k : Nat) (x y : Int32) : Option Int32 := match k with
  | 0 => some (x + y)
  | 1 => some (x - y)
  | 2 => some (x * y)
  | 3 => some (x &&& y)
  | 4 => some (x ^^^ y)
  | 5 => some (x <<< (y &&& 31))
  | 6 => some (x >>> (y &&& 31))
  | 7 => if y = 0 then none else some (x / y)
  | 8 => if y = 0 then none else some (x - x / y * y)
  | _ => none
def zxBL (k : Nat) (x y : Int64) : Option Int64 := match k with
  | 0 => some (x + y)
  | 1 => some (x - y)
  | 2 => some (x * y)
  | 3 => some (x &&& y)
  | 4 => some (x ||| y)
  | 5 => some (x ^^^ y)
  | 6 => if y = 0 then none else some (x / y)
  | 7 => if y = 0 then none else some (x - x / y * y)
  | _ => none
def zxSL (k : Nat) (x : Int64) (y : Int32) : Option Int64 := match k with
  | 0 => some (x <<< (y.toInt64 &&& 63))
  | 1 => some (x >>> (y.toInt64 &&& 63))
  | 2 => some (x.toUInt64 >>> (y.toInt64.toUInt64 &&& Int64.toUInt64 63)).toInt64
  | _ => none
def zxU (k : Nat) (v : Value) : Option Value := match k, v with
  | 0, .int x => some (.int (-x))
  | 1, .int x => some (.long x.toInt64)
  | 2, .long x => some (.int x.toInt32)
  | 3, .int x => some (.int x.toInt8.toInt32)
  | _, _ => none
/-- a condition of two ints, as a truth -/
def zxC (k : Nat) (x y : Int32) : Prop := match k with
  | 0 => x = y
  | 1 => ¬ x = y
  | 2 => x < y
  | 3 => y ≤ x
  | 4 => y < x
  | _ => x ≤ y
def zxD (k : Nat) (x y : Int32) : Decidable (zxC k x y) := match k with
  | 0 => inferInstanceAs (Decidable (x = y))
  | 1 => inferInstanceAs (Decidable (¬ x = y))
  | 2 => inferInstanceAs (Decidable (x < y))
  | 3 => inferInstanceAs (Decidable (y ≤ x))
  | 4 => inferInstanceAs (Decidable (y < x))
  | _ + 5 => inferInstanceAs (Decidable (x ≤ y))
def zxLk (x : Int) : List Nat → List Nat → Option Nat
  | k :: ks, b :: bs => if x = (k : Int) then some b else zxLk x ks bs
  | _, _ => none
def zsLd (t i : Nat) (ls : zL) (st : List Value) (σ : zS) : Option zR := match t, ls[i]? with
  | 0, some (some (.int x)) => some (.inl (0, ls, .int x :: st, σ))
  | 1, some (some (.long x)) => some (.inl (0, ls, .long x :: st, σ))
  | 2, some (some (.ref x)) => some (.inl (0, ls, .ref x :: st, σ))
  | 2, some (some .null) => some (.inl (0, ls, .null :: st, σ))
  | _, _ => none
def zsSt (t i : Nat) (ls : zL) (st : List Value) (σ : zS) : Option zR := match t, st with
  | 0, .int x :: r => if i < ls.length then some (.inl (0, zset1 ls i (.int x), r, σ)) else none
  | 1, .long x :: r => if i + 1 < ls.length then some (.inl (0, zset2 ls i (.long x), r, σ)) else none
  | 2, .ref x :: r => if i < ls.length then some (.inl (0, zset1 ls i (.ref x), r, σ)) else none
  | 2, .null :: r => if i < ls.length then some (.inl (0, zset1 ls i .null, r, σ)) else none
  | _, _ => none
def zsInc (i : Nat) (c : Int32) (ls : zL) (st : List Value) (σ : zS) : Option zR := match ls[i]? with
  | some (some (.int x)) => if i < ls.length then some (.inl (0, zset1 ls i (.int (x + c)), st, σ)) else none
  | _ => none
def zsBI (k : Nat) (ls : zL) (st : List Value) (σ : zS) : Option zR := match st with
  | .int y :: .int x :: r => match zxBI k x y with
    | some v => some (.inl (0, ls, .int v :: r, σ))
    | none => none
  | _ => none
def zsBL (k : Nat) (ls : zL) (st : List Value) (σ : zS) : Option zR := match st with
  | .long y :: .long x :: r => match zxBL k x y with
    | some v => some (.inl (0, ls, .long v :: r, σ))
    | none => none
  | _ => none
def zsSL (k : Nat) (ls : zL) (st : List Value) (σ : zS) : Option zR := match st with
  | .int y :: .long x :: r => match zxSL k x y with
    | some v => some (.inl (0, ls, .long v :: r, σ))
    | none => none
  | _ => none
def zsUn (k : Nat) (ls : zL) (st : List Value) (σ : zS) : Option zR := match st with
  | v :: r => match zxU k v with
    | some w => some (.inl (0, ls, w :: r, σ))
    | none => none
  | _ => none
def zsCmp (ls : zL) (st : List Value) (σ : zS) : Option zR := match st with
  | .long y :: .long x :: r => some (.inl (0, ls, .int (lg_cmp x y) :: r, σ))
  | _ => none
def zsDup (ls : zL) (st : List Value) (σ : zS) : Option zR := match st with
  | v :: r => if v.category = 1 then some (.inl (0, ls, v :: v :: r, σ)) else none
  | _ => none
def zsDup2 (ls : zL) (st : List Value) (σ : zS) : Option zR := match st with
  | v :: r => if v.category = 2 then some (.inl (0, ls, v :: v :: r, σ)) else match r with
    | w :: r' => if v.category = 1 ∧ w.category = 1 then some (.inl (0, ls, v :: w :: v :: w :: r', σ)) else none
    | _ => none
  | _ => none
def zsPop (ls : zL) (st : List Value) (σ : zS) : Option zR := match st with
  | v :: r => if v.category = 1 then some (.inl (0, ls, r, σ)) else none
  | _ => none
def zsPop2 (ls : zL) (st : List Value) (σ : zS) : Option zR := match st with
  | v :: r => if v.category = 2 then some (.inl (0, ls, r, σ)) else none
  | _ => none
def zsIf (k b : Nat) (ls : zL) (st : List Value) (σ : zS) : Option zR := match st with
  | .int x :: r => @ite _ (zxC k x 0) (zxD k x 0) (some (.inl (b + 1, ls, r, σ))) (some (.inl (0, ls, r, σ)))
  | _ => none
def zsIc (k b : Nat) (ls : zL) (st : List Value) (σ : zS) : Option zR := match st with
  | .int y :: .int x :: r => @ite _ (zxC k x y) (zxD k x y) (some (.inl (b + 1, ls, r, σ))) (some (.inl (0, ls, r, σ)))
  | _ => none
def zsJn (b b' : Nat) (ls : zL) (st : List Value) (σ : zS) : Option zR := match st with
  | .null :: r => some (.inl (b, ls, r, σ))
  | .ref _ :: r => some (.inl (b', ls, r, σ))
  | _ => none
def zsTsw (b : Nat) (lo : Int32) (bs : List Nat) (ls : zL) (st : List Value) (σ : zS) : Option zR := match st with
  | .int x :: r => if x.toInt < lo.toInt ∨ lo.toInt + bs.length ≤ x.toInt then some (.inl (b + 1, ls, r, σ)) else match bs[(x.toInt - lo.toInt).toNat]? with
    | some b' => some (.inl (b' + 1, ls, r, σ))
    | none => none
  | _ => none
def zsLsw (b : Nat) (ks bs : List Nat) (ls : zL) (st : List Value) (σ : zS) : Option zR := match st with
  | .int x :: r => match zxLk x.toInt ks bs with
    | some b' => some (.inl (b' + 1, ls, r, σ))
    | none => some (.inl (b + 1, ls, r, σ))
  | _ => none
def zsGet (c k t : Nat) (ls : zL) (st : List Value) (σ : zS) : Option zR := match st with
  | .ref a :: r => if a % 32 = c then match t with
      | 1 => some (.inl (0, ls, .long (σ.2.1 a k) :: r, σ))
      | 2 => some (.inl (0, ls, va_rf (σ.2.2.1 a k) :: r, σ))
      | _ => some (.inl (0, ls, .int (σ.1 a k) :: r, σ))
    else none
  | _ => none
def zsPut (c k t : Nat) (ls : zL) (st : List Value) (σ : zS) : Option zR := match t, st with
  | 0, .int v :: .ref a :: r => if a % 32 = c then some (.inl (0, ls, r, (zu σ.1 a k v, σ.2))) else none
  | 1, .long v :: .ref a :: r => if a % 32 = c then some (.inl (0, ls, r, (σ.1, zu σ.2.1 a k v, σ.2.2))) else none
  | 2, .ref v :: .ref a :: r => if a % 32 = c then some (.inl (0, ls, r, (σ.1, σ.2.1, zu σ.2.2.1 a k (some v), σ.2.2.2))) else none
  | 2, .null :: .ref a :: r => if a % 32 = c then some (.inl (0, ls, r, (σ.1, σ.2.1, zu σ.2.2.1 a k none, σ.2.2.2))) else none
  | 3, .int v :: .ref a :: r => if a % 32 = c ∧ (v = 0 ∨ v = 1) then some (.inl (0, ls, r, (zu σ.1 a k v, σ.2))) else none
  | _, _ => none
def zsAld (t : Nat) (ls : zL) (st : List Value) (σ : zS) : Option zR := match st with
  | .int i :: .ref a :: r => if i < 0 ∨ σ.2.2.2.1 a ≤ i.toNatClampNeg then none else match t with
      | 0 => if a % 32 = 16 ∨ a % 32 = 22 then some (.inl (0, ls, .int (σ.1 a i.toNatClampNeg) :: r, σ)) else none
      | 1 => if a % 32 = 17 then some (.inl (0, ls, .long (σ.2.1 a i.toNatClampNeg) :: r, σ)) else none
      | 2 => if a % 32 = 19 ∨ a % 32 = 20 ∨ a % 32 = 21 then some (.inl (0, ls, va_rf (σ.2.2.1 a i.toNatClampNeg) :: r, σ)) else none
      | 3 => if a % 32 = 15 ∨ a % 32 = 18 then some (.inl (0, ls, .int (σ.1 a i.toNatClampNeg) :: r, σ)) else none
      | _ => none
  | _ => none
/-- the kind of what an array of references of a kind holds -/
def zcomp (kd : Nat) : Nat := match kd with
  | 19 => 1
  | 20 => 6
  | 21 => 7
  | _ => 31
def zsAst (t : Nat) (ls : zL) (st : List Value) (σ : zS) : Option zR := match t, st with
  | 0, .int x :: .int i :: .ref a :: r => if (i < 0 ∨ σ.2.2.2.1 a ≤ i.toNatClampNeg) ∨ ¬ a % 32 = 16 then none else some (.inl (0, ls, r, (zu σ.1 a i.toNatClampNeg x, σ.2)))
  | 1, .long x :: .int i :: .ref a :: r => if (i < 0 ∨ σ.2.2.2.1 a ≤ i.toNatClampNeg) ∨ ¬ a % 32 = 17 then none else some (.inl (0, ls, r, (σ.1, zu σ.2.1 a i.toNatClampNeg x, σ.2.2)))
  | 2, .ref x :: .int i :: .ref a :: r => if (i < 0 ∨ σ.2.2.2.1 a ≤ i.toNatClampNeg) ∨ ¬ x % 32 = zcomp (a % 32) then none else some (.inl (0, ls, r, (σ.1, σ.2.1, zu σ.2.2.1 a i.toNatClampNeg (some x), σ.2.2.2)))
  | 2, .null :: .int i :: .ref a :: r => if (i < 0 ∨ σ.2.2.2.1 a ≤ i.toNatClampNeg) ∨ ¬ (a % 32 = 19 ∨ a % 32 = 20 ∨ a % 32 = 21) then none else some (.inl (0, ls, r, (σ.1, σ.2.1, zu σ.2.2.1 a i.toNatClampNeg none, σ.2.2.2)))
  | 3, .int x :: .int i :: .ref a :: r => if i < 0 ∨ σ.2.2.2.1 a ≤ i.toNatClampNeg then none else
      if a % 32 = 15 then some (.inl (0, ls, r, (zu σ.1 a i.toNatClampNeg (x.toInt8.toInt32), σ.2)))
      else if a % 32 = 18 ∧ (x = 0 ∨ x = 1) then some (.inl (0, ls, r, (zu σ.1 a i.toNatClampNeg x, σ.2))) else none
  | _, _ => none
def zsLen (ls : zL) (st : List Value) (σ : zS) : Option zR := match st with
  | .ref a :: r => if 15 ≤ a % 32 ∧ a % 32 ≤ 22 then some (.inl (0, ls, .int (nI (σ.2.2.2.1 a)) :: r, σ)) else none
  | _ => none
def zsNewa (kd : Nat) (ls : zL) (st : List Value) (σ : zS) : Option zR := match st with
  | .int n :: r => if (n < 0 ∨ 67108864 < n.toNatClampNeg) ∨ 22 ≤ kd then none else some (.inl (0, ls, .ref (32 * σ.2.2.2.2.1 + kd) :: r, zmake σ kd n.toNatClampNeg n.toNatClampNeg))
  | _ => none
def zsCal (q n md c : Nat) (ls : zL) (st : List Value) (σ : zS) : Option zR :=
  if n ≤ st.length ∧ zcat (st.drop n) ≤ 8 then match md, (st.take n).reverse with
    | 0, as => some (.inr (.inl (q, as, ls, st.drop n, σ)))
    | _, .ref a :: as => if a % 32 = c then some (.inr (.inl (q, .ref a :: as, ls, st.drop n, σ))) else none
    | _, _ => none
  else none
def zsRet (t : Nat) (st : List Value) (σ : zS) : Option zR := match t, st with
  | 0, [] => some (.inr (.inr (none, σ)))
  | 1, [.int x] => some (.inr (.inr (some (.int x), σ)))
  | 2, [.int x] => if x = 0 ∨ x = 1 then some (.inr (.inr (some (.int x), σ))) else none
  | 3, [.long x] => some (.inr (.inr (some (.long x), σ)))
  | 4, [.ref x] => some (.inr (.inr (some (.ref x), σ)))
  | 4, [.null] => some (.inr (.inr (some .null, σ)))
  | _, _ => none
def zsAcp (ls : zL) (st : List Value) (σ : zS) : Option zR := match st with
  | .int n :: .int dp :: .ref b :: .int sp :: .ref a :: r =>
    if (sp < 0 ∨ dp < 0 ∨ n < 0) ∨ σ.2.2.2.1 a < sp.toNatClampNeg + n.toNatClampNeg ∨ σ.2.2.2.1 b < dp.toNatClampNeg + n.toNatClampNeg ∨ 8 < zcat r ∨ ¬ a % 32 = b % 32 then none
    else if a % 32 = 15 ∨ a % 32 = 16 then some (.inl (0, ls, r, (zcp σ.1 a sp.toNatClampNeg b dp.toNatClampNeg n.toNatClampNeg, σ.2)))
    else if a % 32 = 17 then some (.inl (0, ls, r, (σ.1, zcp σ.2.1 a sp.toNatClampNeg b dp.toNatClampNeg n.toNatClampNeg, σ.2.2)))
    else none
  | _ => none
def zsOini (ls : zL) (st : List Value) (σ : zS) : Option zR := match st with
  | .ref _ :: r => if zcat r ≤ 8 then some (.inl (0, ls, r, σ)) else none
  | _ => none
def zsCln (kd : Nat) (ls : zL) (st : List Value) (σ : zS) : Option zR := match st with
  | .ref a :: r => if zcat r ≤ 8 ∧ a % 32 = kd ∧ (kd = 15 ∨ kd = 16 ∨ kd = 17) then
      some (.inl (0, ls, .ref (32 * σ.2.2.2.2.1 + a % 32) :: r, (zlike σ.1 a (32 * σ.2.2.2.2.1 + a % 32), zlike σ.2.1 a (32 * σ.2.2.2.2.1 + a % 32), zrow σ.2.2.1 (32 * σ.2.2.2.2.1 + a % 32) none, zlen1 σ.2.2.2.1 (32 * σ.2.2.2.2.1 + a % 32) (σ.2.2.2.1 a), σ.2.2.2.2.1 + 1, σ.2.2.2.2.2 + σ.2.2.2.1 a))) else none
  | _ => none
def zsCst (kd : Nat) (ls : zL) (st : List Value) (σ : zS) : Option zR := match st with
  | .ref a :: r => if a % 32 = kd ∧ (kd = 15 ∨ kd = 16 ∨ kd = 17) then some (.inl (0, ls, .ref a :: r, σ)) else none
  | _ => none
def zsThr (pc : Nat) (st : List Value) (σ : zS) : Option zR := match st with
  | [] => some (.inr (.inr (some (.retAddr pc), σ)))
  | _ => none
/-- the law's call of coinOf, which catches -/
def zsLco (q : Nat) (ls : zL) (st : List Value) (σ : zS) : Option zR := match st with
  | .ref b :: .int z :: .int y :: .int x :: .ref a :: r => if (a % 32 = 11 ∧ b % 32 = 17 ∧ 0 < σ.2.2.2.1 b) ∧ zcat r ≤ 8 then some (.inr (.inl (q, [.ref a, .int x, .int y, .int z], ls, .ref b :: r, σ))) else none
  | _ => none
/-- behind a call: what came back (retAddr: it threw, which the law alone catches) -/
def zaft (o : zO) (r : Option Value) (st : List Value) (σ : zS) : Option (List Value × zS) := if o.1 = 41 then match r, st with
    | some (.long v), .ref b :: s => if b % 32 = 17 ∧ 0 < σ.2.2.2.1 b then some (.int 0 :: s, (σ.1, zu σ.2.1 b 0 v, σ.2.2)) else none
    | some (.retAddr k), .ref _ :: s => if ¬ k = o.2.2.1 then none else some (.int 1 :: s, (σ.1, σ.2.1, σ.2.2.1, zlen1 σ.2.2.2.1 31 (σ.2.2.2.1 31 + 1), σ.2.2.2.2.1, σ.2.2.2.2.2 + 6))
    | _, _ => none
  else match r with
    | some (.retAddr _) => none
    | r => some (r.toList ++ st, σ)
def zstep (o : zO) (ls : zL) (st : List Value) (σ : zS) : Option zR := match o with
  | (t, x, y, z, c, d, bs, ks) => match t with
    | 0 => zsLd 0 x ls st σ
    | 1 => zsLd 1 x ls st σ
    | 2 => zsLd 2 x ls st σ
    | 3 => zsSt 0 x ls st σ
    | 4 => zsSt 1 x ls st σ
    | 5 => zsSt 2 x ls st σ
    | 6 => some (.inl (0, ls, .int c :: st, σ))
    | 7 => some (.inl (0, ls, .long d :: st, σ))
    | 8 => some (.inl (0, ls, .null :: st, σ))
    | 9 => zsInc x c ls st σ
    | 10 => zsBI x ls st σ
    | 11 => zsBL x ls st σ
    | 12 => zsSL x ls st σ
    | 13 => zsUn x ls st σ
    | 14 => zsCmp ls st σ
    | 15 => zsDup ls st σ
    | 16 => zsDup2 ls st σ
    | 17 => zsPop ls st σ
    | 18 => zsPop2 ls st σ
    | 19 => zsIf x y ls st σ
    | 20 => zsIc x y ls st σ
    | 21 => zsJn (x + 1) 0 ls st σ
    | 22 => zsJn 0 (x + 1) ls st σ
    | 23 => some (.inl (x + 1, ls, st, σ))
    | 24 => zsTsw x c bs ls st σ
    | 25 => zsLsw x ks bs ls st σ
    | 26 => zsGet x y z ls st σ
    | 27 => zsPut x y z ls st σ
    | 28 => zsAld x ls st σ
    | 29 => zsAst x ls st σ
    | 30 => zsLen ls st σ
    | 31 => zsNewa x ls st σ
    | 32 => if x < 15 then some (.inl (0, ls, .ref (32 * σ.2.2.2.2.1 + x) :: st, zmake σ x 0 y)) else none
    | 33 => zsCal x y z (bs.headD 31) ls st σ
    | 34 => zsRet x st σ
    | 35 => some (.inl (0, ls, .ref 54 :: st, σ))
    | 36 => zsCst x ls st σ
    | 37 => zsAcp ls st σ
    | 38 => zsOini ls st σ
    | 39 => zsCln x ls st σ
    | 40 => zsThr x st σ
    | 41 => zsLco x ls st σ
    | 42 => some (.inl (x + 1, ls, st, σ))
    | _ => none
/-- a call's locals -/
def zlay : List Value → zL
  | [] => []
  | .long x :: r => some (.long x) :: none :: zlay r
  | .double x :: r => some (.double x) :: none :: zlay r
  | v :: r => some v :: zlay r
def zent (as : List Value) (mL : Nat) : zL := zlay as ++ List.replicate (mL - (zlay as).length) none
/-- what a program is: the blocks of each method, and how many locals it has -/
abbrev zG : Type := Nat → (Nat → List zO) × Nat
def zrun (G : zG) : Nat → (Nat → List zO) → List zO → zL → List Value → zS → Option (Option Value × zS)
  | 0, _, _, _, _, _ => none
  | _ + 1, _, [], _, _, _ => none
  | n + 1, tg, o :: rest, ls, st, σ => match zstep o ls st σ with
    | none => none
    | some (.inl (0, ls', st', σ')) => zrun G n tg rest ls' st' σ'
    | some (.inl (b + 1, ls', st', σ')) => zrun G n tg (tg b) ls' st' σ'
    | some (.inr (.inl (q, as, ls', st', σ'))) =>
      if (zlay as).length ≤ (G q).2 then
        match zrun G n (G q).1 ((G q).1 0) (zent as (G q).2) [] σ' with
        | none => none
        | some (r, σ'') => match zaft o r st' σ'' with
          | none => none
          | some (st2, σ2) => zrun G n tg rest ls' st2 σ2
      else none
    | some (.inr (.inr (r, σ'))) => some (r, σ')
theorem zrun_go {G : zG} {n : Nat} {tg : Nat → List zO} {o : zO} {rest : List zO} {ls ls' : zL} {st st' : List Value} {σ σ' : zS} (h : zstep o ls st σ = some (.inl (0, ls', st', σ'))) : zrun G (n + 1) tg (o :: rest) ls st σ = zrun G n tg rest ls' st' σ' := by
  simp only [zrun, h]
theorem zrun_to {G : zG} {n b : Nat} {tg : Nat → List zO} {o : zO} {rest : List zO} {ls ls' : zL} {st st' : List Value} {σ σ' : zS} (h : zstep o ls st σ = some (.inl (b + 1, ls', st', σ'))) : zrun G (n + 1) tg (o :: rest) ls st σ = zrun G n tg (tg b) ls' st' σ' := by
  simp only [zrun, h]
theorem zrun_end {G : zG} {n : Nat} {tg : Nat → List zO} {o : zO} {rest : List zO} {ls : zL} {st : List Value} {σ σ' : zS} {r : Option Value} (h : zstep o ls st σ = some (.inr (.inr (r, σ')))) : zrun G (n + 1) tg (o :: rest) ls st σ = some (r, σ') := by
  simp only [zrun, h]
theorem zrun_inv {G : zG} {n : Nat} {tg : Nat → List zO} {o : zO} {rest : List zO} {ls : zL} {st : List Value} {σ σ' : zS} {r : Option Value} (h : zrun G (n + 1) tg (o :: rest) ls st σ = some (r, σ')) :
    ∃ x, zstep o ls st σ = some x ∧ (match x with
      | .inl (0, ls1, st1, σ1) => zrun G n tg rest ls1 st1 σ1 = some (r, σ')
      | .inl (b + 1, ls1, st1, σ1) => zrun G n tg (tg b) ls1 st1 σ1 = some (r, σ')
      | .inr (.inl (q, as, ls1, st1, σ1)) => (zlay as).length ≤ (G q).2 ∧ ∃ v σ2 st2 σ3, zrun G n (G q).1 ((G q).1 0) (zent as (G q).2) [] σ1 = some (v, σ2) ∧ zaft o v st1 σ2 = some (st2, σ3) ∧ zrun G n tg rest ls1 st2 σ3 = some (r, σ')
      | .inr (.inr (v, σ1)) => v = r ∧ σ1 = σ') := by
  unfold zrun at h
  split at h
  · cases h
  · rename_i hx; exact ⟨_, hx, h⟩
  · rename_i hx; exact ⟨_, hx, h⟩
  · rename_i hx
    refine ⟨_, hx, ?_⟩
    split at h
    · rename_i hl
      refine ⟨hl, ?_⟩
      split at h
      · cases h
      · rename_i hv
        split at h
        · cases h
        · rename_i ha
          exact ⟨_, _, _, _, hv, ha, h⟩
    · cases h
  · rename_i hx
    refine ⟨_, hx, ?_⟩
    cases h
    exact ⟨rfl, rfl⟩
/-- the table of the class (part 17 checks it against the narrowing) -/
def zTK0 : Nat → Int32 := fun j => ([17, 17, 17, 17, 17, 17, 17, 17, 17, 17, 34, 2, 33, 274, 34, 34, 870, 85, 5, 9, 9, 23, 1, 2, 10, 11, 7, 7, 87, 7, 7, 8] : List Int32).getD j 0
/-- the stores at the law's entry: the script, and the table of the class -/
def zs0 (L : Nat) (xs : Nat → Int32) : zS := (fun a j => if a = 22 then xs j else if a = 54 then zTK0 j else 0, fun _ _ => 0, fun _ _ => none, fun a => if a = 22 then L else if a = 54 then 32 else 0, 0, 0)
