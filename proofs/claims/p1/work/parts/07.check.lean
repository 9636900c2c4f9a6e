/-! That the operations are the methods' instructions. -/
def zcc (c : Jvm.ClassFile.Cond) : Nat := match c with
  | .eq => 0
  | .ne => 1
  | .lt => 2
  | .ge => 3
  | .gt => 4
  | .le => 5
def zak (a : ArrayType) : Nat := match a with
  | .boolean => 18
  | .byte => 15
  | .int => 16
  | .long => 17
  | _ => 31
def zeq (a b : zO) : Bool := decide (a.1 = b.1) && decide (a.2.1 = b.2.1) && decide (a.2.2.1 = b.2.2.1) && decide (a.2.2.2.1 = b.2.2.2.1) && decide (a.2.2.2.2.1 = b.2.2.2.2.1) && decide (a.2.2.2.2.2.1 = b.2.2.2.2.2.1) && decide (a.2.2.2.2.2.2.1 = b.2.2.2.2.2.2.1) && decide (a.2.2.2.2.2.2.2 = b.2.2.2.2.2.2.2)
theorem zeq_ok {a b : zO} (h : zeq a b = true) : a = b := by
  simp only [zeq, Bool.and_eq_true, decide_eq_true_eq] at h
  obtain ⟨⟨⟨⟨⟨⟨⟨h1, h2⟩, h3⟩, h4⟩, h5⟩, h6⟩, h7⟩, h8⟩ := h
  exact Prod.ext h1 (Prod.ext h2 (Prod.ext h3 (Prod.ext h4 (Prod.ext h5 (Prod.ext h6 (Prod.ext h7 h8))))))
def znb (q : Nat) : Nat := (zBP.getD q []).length
def zjmp (q pc b : Nat) (off : Int) : Bool := decide ((pc : Int) + off = (zbp q b : Int)) && decide (b < znb q)
def zroom (q q' : Nat) : Bool := decide (zfr q' + 1 ≤ zfr q) && decide (8 + (zml q' + 11) + zlo q' ≤ zlo q) && decide (q' < 328)
def zcx (q idx md : Nat) (o : zO) : Bool := zMLK.any fun e => decide (e.1 = zow q) && decide (e.2.1 = idx) && decide (e.2.2.2.1 = md) && zeq o (zcal e.2.2.1 (if md = 0 then znp e.2.2.1 else znp e.2.2.1 + 1) md (zow e.2.2.1)) && zroom q e.2.2.1
def zci (q pc : Nat) (i : Instr) (len : Nat) (o : zO) : Bool := match i with
  | .aaload => (zeq o (zald 2) && decide (len = 1))
  | .aastore => (zeq o (zast 2) && decide (len = 1))
  | .aconst_null => (zeq o (znul) && decide (len = 1))
  | .aload n => (zeq o (zldA n) && decide (len = 2))
  | .aload_n n => (zeq o (zldA n.val) && decide (len = 1))
  | .anewarray idx => zKQs.any fun e => (decide (e.1 = zow q) && decide (e.2.1 = idx) && zeq o (znewa e.2.2.1) && decide (len = 3))
  | .areturn => (zeq o (zret 4) && decide (len = 1)) && (match zrt q with
    | some (.object _) => true
    | some (.array _) => true
    | _ => false)
  | .arraylength => (zeq o (zlen) && decide (len = 1))
  | .astore n => (zeq o (zstA n) && decide (len = 2))
  | .astore_n n => (zeq o (zstA n.val) && decide (len = 1))
  | .baload => (zeq o (zald 3) && decide (len = 1))
  | .bastore => (zeq o (zast 3) && decide (len = 1))
  | .bipush n => (zeq o (zcI (Int8.ofInt n).toInt32) && decide (len = 2))
  | .sipush n => (zeq o (zcI (Int16.ofInt n).toInt32) && decide (len = 3))
  | .checkcast idx => zKAs.any fun e => (decide (e.1 = zow q) && decide (e.2.1 = idx) && zeq o (zcst e.2.2.1) && decide (len = 3))
  | .dup => (zeq o (zdup) && decide (len = 1))
  | .dup2 => (zeq o (zdup2) && decide (len = 1))
  | .getfield idx => decide (len = 3) && ((zFL.any fun e => decide (e.1 = zow q) && decide (e.2.1 = idx) && zeq o (zget e.2.2.1 e.2.2.2.1 (zcod (zft e.2.2.1 e.2.2.2.1)))) || zFN.any fun e => decide (e.1 = zow q) && decide (e.2.1 = idx) && zeq o (zget e.2.2.1 e.2.2.2.1 (zcod (zft e.2.2.1 e.2.2.2.1))))
  | .getstatic idx => zTK.any fun e => (decide (e.1 = zow q) && decide (e.2.1 = idx) && zeq o (ztak) && decide (len = 3))
  | .goto off => (zeq o (zgo o.2.1) && decide (len = 3)) && zjmp q pc o.2.1 off
  | .i2b => (zeq o (zun 3) && decide (len = 1))
  | .i2l => (zeq o (zun 1) && decide (len = 1))
  | .iadd => (zeq o (zbI 0) && decide (len = 1))
  | .iaload => (zeq o (zald 0) && decide (len = 1))
  | .iand => (zeq o (zbI 3) && decide (len = 1))
  | .iastore => (zeq o (zast 0) && decide (len = 1))
  | .iconst n => (zeq o (zcI (Int32.ofInt n)) && decide (len = 1))
  | .idiv => (zeq o (zbI 7) && decide (len = 1))
  | .if_icmp c off => (zeq o (zic (zcc c) o.2.2.1) && decide (len = 3)) && zjmp q pc o.2.2.1 off
  | .ifCond c off => (zeq o (zif (zcc c) o.2.2.1) && decide (len = 3)) && zjmp q pc o.2.2.1 off
  | .ifnonnull off => (zeq o (zjnn o.2.1) && decide (len = 3)) && zjmp q pc o.2.1 off
  | .ifnull off => (zeq o (zjn o.2.1) && decide (len = 3)) && zjmp q pc o.2.1 off
  | .iinc n c => (zeq o (zinc n (Int32.ofInt c)) && decide (len = 3))
  | .iload n => (zeq o (zldI n) && decide (len = 2))
  | .iload_n n => (zeq o (zldI n.val) && decide (len = 1))
  | .imul => (zeq o (zbI 2) && decide (len = 1))
  | .ineg => (zeq o (zun 0) && decide (len = 1))
  | .invokespecial idx => decide (len = 3) && (zcx q idx 2 o || zOIs.any fun e => (decide (e.1 = zow q) && decide (e.2.1 = idx) && zeq o (zoini) && decide (1 ≤ zfr q) && decide (20 ≤ zlo q)))
  | .invokestatic idx => decide (len = 3) && (zcx q idx 0 o || (zLCs.any fun e => decide (e.1 = zow q) && decide (e.2.1 = idx) && zeq o (zlco e.2.2.1 e.2.2.2.1) && decide (q = 328)) || zACs.any fun e => (decide (e.1 = zow q) && decide (e.2.1 = idx) && zeq o (zacp) && decide (1 ≤ zfr q) && decide (26 ≤ zlo q)))
  | .invokevirtual idx => decide (len = 3) && (zcx q idx 1 o || zCNs.any fun e => (decide (e.1 = zow q) && decide (e.2.1 = idx) && zeq o (zcln e.2.2.1) && decide (1 ≤ zfr q) && decide (22 ≤ zlo q)))
  | .irem => (zeq o (zbI 8) && decide (len = 1))
  | .ireturn => ((decide (zrt q = some .int) && zeq o (zret 1)) || (decide (zrt q = some .boolean) && zeq o (zret 2))) && decide (len = 1)
  | .ishl => (zeq o (zbI 5) && decide (len = 1))
  | .ishr => (zeq o (zbI 6) && decide (len = 1))
  | .istore n => (zeq o (zstI n) && decide (len = 2))
  | .istore_n n => (zeq o (zstI n.val) && decide (len = 1))
  | .isub => (zeq o (zbI 1) && decide (len = 1))
  | .ixor => (zeq o (zbI 4) && decide (len = 1))
  | .l2i => (zeq o (zun 2) && decide (len = 1))
  | .ladd => (zeq o (zbL 0) && decide (len = 1))
  | .laload => (zeq o (zald 1) && decide (len = 1))
  | .land => (zeq o (zbL 3) && decide (len = 1))
  | .lastore => (zeq o (zast 1) && decide (len = 1))
  | .lcmp => (zeq o (zcmp) && decide (len = 1))
  | .lconst n => (zeq o (zcL (Int64.ofNat n.val)) && decide (len = 1))
  | .ldc idx => zCIs.any fun e => (decide (e.1 = zow q) && decide (e.2.1 = idx) && zeq o (zcI e.2.2.1) && decide (len = 2))
  | .ldc_w idx => zCIs.any fun e => (decide (e.1 = zow q) && decide (e.2.1 = idx) && zeq o (zcI e.2.2.1) && decide (len = 3))
  | .ldc2_w idx => zCLs.any fun e => (decide (e.1 = zow q) && decide (e.2.1 = idx) && zeq o (zcL e.2.2.1) && decide (len = 3))
  | .ldiv => (zeq o (zbL 6) && decide (len = 1))
  | .lload n => (zeq o (zldL n) && decide (len = 2))
  | .lload_n n => (zeq o (zldL n.val) && decide (len = 1))
  | .lmul => (zeq o (zbL 2) && decide (len = 1))
  | .lookupswitch d ps => zeq o (zlsw o.2.1 o.2.2.2.2.2.2.2 o.2.2.2.2.2.2.1) && zjmp q pc o.2.1 d && decide (ps.toList.map (fun p => (p.1, (pc : Int) + p.2)) = (List.zip o.2.2.2.2.2.2.2 o.2.2.2.2.2.2.1).map (fun p => ((p.1 : Int), (zbp q p.2 : Int)))) && decide (o.2.2.2.2.2.2.2.length = o.2.2.2.2.2.2.1.length) && (ps.toList.zip (ps.toList.drop 1)).all (fun (a, next) => a.1 < next.1) && o.2.2.2.2.2.2.1.all (fun b => decide (b < znb q))
  | .lor => (zeq o (zbL 4) && decide (len = 1))
  | .lrem => (zeq o (zbL 7) && decide (len = 1))
  | .lreturn => zeq o (zret 3) && decide (zrt q = some .long) && decide (len = 1)
  | .lshl => (zeq o (zsL 0) && decide (len = 1))
  | .lshr => (zeq o (zsL 1) && decide (len = 1))
  | .lstore n => (zeq o (zstL n) && decide (len = 2))
  | .lstore_n n => (zeq o (zstL n.val) && decide (len = 1))
  | .lsub => (zeq o (zbL 1) && decide (len = 1))
  | .lushr => (zeq o (zsL 2) && decide (len = 1))
  | .lxor => (zeq o (zbL 5) && decide (len = 1))
  | .new idx => (zeq o (zthr pc) && decide (len = 3)) || zKLs.any fun e => (decide (e.1 = zow q) && decide (e.2.1 = idx) && zeq o (znew e.2.2.1 (zfc e.2.2.1)) && decide (len = 3))
  | .newarray a => zeq o (znewa (zak a)) && decide (zak a < 31) && decide (len = 2)
  | .pop => (zeq o (zpop) && decide (len = 1))
  | .pop2 => (zeq o (zpop2) && decide (len = 1))
  | .putfield idx => decide (len = 3) && ((zFL.any fun e => decide (e.1 = zow q) && decide (e.2.1 = idx) && zeq o (zput e.2.2.1 e.2.2.2.1 (zcod (zft e.2.2.1 e.2.2.2.1))) && (decide ((zTX e.2.2.1 e.2.2.2.1).2.2.2 = false) || (decide (zow q = e.2.2.1) && decide ((zy q).name = "<init>") && decide ((zTX e.2.2.1 e.2.2.2.1).2.2.2 = true)))) || zFN.any fun e => decide (e.1 = zow q) && decide (e.2.1 = idx) && zeq o (zput e.2.2.1 e.2.2.2.1 (zcod (zft e.2.2.1 e.2.2.2.1))) && decide ((zTX e.2.2.1 e.2.2.2.1).2.2.2 = false))
  | .return_ => zeq o (zret 0) && decide (zrt q = none) && decide (len = 1)
  | .tableswitch d lo hi offs => zeq o (ztsw o.2.1 (Int32.ofInt lo) o.2.2.2.2.2.2.1) && decide ((Int32.ofInt lo).toInt = lo) && decide (hi = lo + (o.2.2.2.2.2.2.1.length : Int) - 1) && zjmp q pc o.2.1 d && decide (offs.toList.map (fun f => (pc : Int) + f) = o.2.2.2.2.2.2.1.map (fun b => (zbp q b : Int))) && o.2.2.2.2.2.2.1.all (fun b => decide (b < znb q))
  | _ => false
def zckL (q : Nat) : Nat → List zO → Bool
  | _, [] => true
  | pc, o :: r => if o.1 = 42 then (zeq o (zfal o.2.1) && decide (zbp q o.2.1 = pc) && decide (o.2.1 < znb q)) else match decode (zby q) pc with
    | .ok (i, len) => (zeq o (zbad) || zci q pc i len o) && zckL q (pc + len) r
    | .error _ => false
def zck (q : Nat) : Bool := (List.range (znb q)).all fun b => zckL q (zbp q b) ((zGG q).1 b)
