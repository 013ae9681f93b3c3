/-! One step, and a whole method, of the abstract machine -/
def aMk : Nat → List (Option Value) → List (Option Value)
  | _, [] => []
  | m, x :: l => cond (Nat.beq (m % 2) 1) none x :: aMk (m / 2) l
def aMb (m : Nat) (L : List (Option Value)) : List (Option Value) := cond (Nat.beq m 0) L (aMk m L)
def aC0 (o : Jvm.ClassFile.Cond) (x : Int32) : Bool := match o with
  | .eq => decide (x = 0)
  | .ne => decide (¬ x = 0)
  | .lt => decide (x < 0)
  | .ge => decide (x ≥ 0)
  | .gt => decide (x > 0)
  | .le => decide (x ≤ 0)
def aC2 (o : Jvm.ClassFile.Cond) (x y : Int32) : Bool := match o with
  | .eq => decide (x = y)
  | .ne => decide (¬ x = y)
  | .lt => decide (x < y)
  | .ge => decide (x ≥ y)
  | .gt => decide (x > y)
  | .le => decide (x ≤ y)
def aBit (x : Int32) : Bool := decide (x = 0) || decide (x = 1)
abbrev aRes : Type := aFr × (Nat × Nat) × aHp
def aNx (f : aFr) (n : Nat) (u : Nat × Nat) (h : aHp) (st : List Value) : Option aRes := some ((f.1 + n, f.2.1, st), u, h)
/-- a field that is final is written in its class's own constructor alone -/
def fin (k j : Nat) : Bool := (match vwCl[k]? with | some q => (q.2.1 j).2.2.2 | none => true)
def fOK (y k j : Nat) : Bool := cond (fin k j) (isI y && Nat.beq (ow y) k) true
/-- a new cell -/
def aNew (h : aHp) (k n : Nat) : aHp := ((h.1.1, h.1.2 + 1), up1 h.2.1 h.1.2 (k, n, fun _ => none), up1 h.2.2.1 h.1.2 (fun _ => 0), up1 h.2.2.2.1 h.1.2 (fun _ => 0), up1 h.2.2.2.2 h.1.2 (fun _ => 0))
/-- n + 1 new cells: a row of n rows of k ints -/
def aNewM (h : aHp) (n k : Nat) : aHp := ((h.1.1, h.1.2 + 1 + n), (fun b => cond (Nat.beq b h.1.2) (4, n, fun j => cond (Nat.blt j n) (some (h.1.2 + 1 + j)) none) (cond (Nat.blt b h.1.2) (h.2.1 b) (0, k, fun _ => none))), (fun b => cond (Nat.blt b h.1.2) (h.2.2.1 b) (fun _ => 0)), (fun b => cond (Nat.blt b h.1.2) (h.2.2.2.1 b) (fun _ => 0)), (fun b => cond (Nat.blt b h.1.2) (h.2.2.2.2 b) (fun _ => 0)))
def aShR (h : aHp) (q b : Nat) (v : Option Nat) : aHp := (h.1, up1 h.2.1 q ((h.2.1 q).1, (h.2.1 q).2.1, up1 (h.2.1 q).2.2 b v), h.2.2)
def aWI (h : aHp) (q b : Nat) (v : Int32) : aHp := (h.1, h.2.1, up2 h.2.2.1 q b v, h.2.2.2)
def aWJ (h : aHp) (q b : Nat) (v : Int64) : aHp := (h.1, h.2.1, h.2.2.1, up2 h.2.2.2.1 q b v, h.2.2.2.2)
def aWE (h : aHp) (q b : Nat) (v : UInt64) : aHp := (h.1, h.2.1, h.2.2.1, h.2.2.2.1, up2 h.2.2.2.2 q b v)
/-- a cell q of kind k -/
def aK (h : aHp) (q k : Nat) : Bool := Nat.blt q h.1.2 && Nat.beq (h.2.1 q).1 k
def aN32 (r : UInt32) : Bool := decide (r &&& 0x7fffffff ≤ 0x7f800000)
def aN64 (r : UInt64) : Bool := decide (r &&& 0x7fffffffffffffff ≤ 0x7ff0000000000000)
noncomputable def aStep (y : Nat) (e : aEn) (u : Nat × Nat) (f : aFr) (h : aHp) : Option aRes :=
  match e with
  | (i, n, v, a, b, c, _) =>
  match i with
  | .iconst _ => aNx f n u h (v :: f.2.2)
  | .bipush _ => aNx f n u h (v :: f.2.2)
  | .sipush _ => aNx f n u h (v :: f.2.2)
  | .lconst _ => aNx f n u h (v :: f.2.2)
  | .fconst _ => aNx f n u h (v :: f.2.2)
  | .ldc_w _ => aNx f n u h (v :: f.2.2)
  | .ldc2_w _ => aNx f n u h (v :: f.2.2)
  | .iload _ => (match f.2.1.getD a none with | some (.int x) => aNx f n u h (.int x :: f.2.2) | _ => none)
  | .iload_n _ => (match f.2.1.getD a none with | some (.int x) => aNx f n u h (.int x :: f.2.2) | _ => none)
  | .lload _ => (match f.2.1.getD a none with | some (.long x) => aNx f n u h (.long x :: f.2.2) | _ => none)
  | .lload_n _ => (match f.2.1.getD a none with | some (.long x) => aNx f n u h (.long x :: f.2.2) | _ => none)
  | .fload _ => (match f.2.1.getD a none with | some (.float x) => aNx f n u h (.float x :: f.2.2) | _ => none)
  | .aload _ => (match f.2.1.getD a none with | some (.ref x) => aNx f n u h (.ref x :: f.2.2) | _ => none)
  | .aload_n _ => (match f.2.1.getD a none with | some (.ref x) => aNx f n u h (.ref x :: f.2.2) | _ => none)
  | .istore _ => (match f.2.2 with | .int x :: r => cond (Nat.blt a (mL y)) (some ((f.1 + n, aMb b (aSet1 f.2.1 a (.int x)), r), u, h)) none | _ => none)
  | .istore_n _ => (match f.2.2 with | .int x :: r => cond (Nat.blt a (mL y)) (some ((f.1 + n, aMb b (aSet1 f.2.1 a (.int x)), r), u, h)) none | _ => none)
  | .fstore _ => (match f.2.2 with | .float x :: r => cond (Nat.blt a (mL y)) (some ((f.1 + n, aMb b (aSet1 f.2.1 a (.float x)), r), u, h)) none | _ => none)
  | .astore _ => (match f.2.2 with | .ref x :: r => cond (Nat.blt a (mL y)) (some ((f.1 + n, aMb b (aSet1 f.2.1 a (.ref x)), r), u, h)) none | _ => none)
  | .astore_n _ => (match f.2.2 with | .ref x :: r => cond (Nat.blt a (mL y)) (some ((f.1 + n, aMb b (aSet1 f.2.1 a (.ref x)), r), u, h)) none | _ => none)
  | .lstore _ => (match f.2.2 with | .long x :: r => cond (Nat.blt (a + 1) (mL y)) (some ((f.1 + n, aMb b (aSet2 f.2.1 a (.long x)), r), u, h)) none | _ => none)
  | .lstore_n _ => (match f.2.2 with | .long x :: r => cond (Nat.blt (a + 1) (mL y)) (some ((f.1 + n, aMb b (aSet2 f.2.1 a (.long x)), r), u, h)) none | _ => none)
  | .iinc _ _ => (match f.2.1.getD a none, v with | some (.int x), .int k => cond (Nat.blt a (mL y)) (some ((f.1 + n, aSet1 f.2.1 a (.int (x + k)), f.2.2), u, h)) none | _, _ => none)
  | .iadd => (match f.2.2 with | .int z :: .int x :: r => aNx f n u h (.int (x + z) :: r) | _ => none)
  | .isub => (match f.2.2 with | .int z :: .int x :: r => aNx f n u h (.int (x - z) :: r) | _ => none)
  | .imul => (match f.2.2 with | .int z :: .int x :: r => aNx f n u h (.int (x * z) :: r) | _ => none)
  | .idiv => (match f.2.2 with | .int z :: .int x :: r => cond (decide (z = 0)) none (aNx f n u h (.int (x / z) :: r)) | _ => none)
  | .irem => (match f.2.2 with | .int z :: .int x :: r => cond (decide (z = 0)) none (aNx f n u h (.int (x - x / z * z) :: r)) | _ => none)
  | .iand => (match f.2.2 with | .int z :: .int x :: r => aNx f n u h (.int (x &&& z) :: r) | _ => none)
  | .ior => (match f.2.2 with | .int z :: .int x :: r => aNx f n u h (.int (x ||| z) :: r) | _ => none)
  | .ixor => (match f.2.2 with | .int z :: .int x :: r => aNx f n u h (.int (x ^^^ z) :: r) | _ => none)
  | .ishl => (match f.2.2 with | .int z :: .int x :: r => aNx f n u h (.int (x <<< (z &&& 31)) :: r) | _ => none)
  | .ishr => (match f.2.2 with | .int z :: .int x :: r => aNx f n u h (.int (x >>> (z &&& 31)) :: r) | _ => none)
  | .iushr => (match f.2.2 with | .int z :: .int x :: r => aNx f n u h (.int (x.toUInt32 >>> (z.toUInt32 &&& Int32.toUInt32 31)).toInt32 :: r) | _ => none)
  | .ladd => (match f.2.2 with | .long z :: .long x :: r => aNx f n u h (.long (x + z) :: r) | _ => none)
  | .lsub => (match f.2.2 with | .long z :: .long x :: r => aNx f n u h (.long (x - z) :: r) | _ => none)
  | .lmul => (match f.2.2 with | .long z :: .long x :: r => aNx f n u h (.long (x * z) :: r) | _ => none)
  | .lrem => (match f.2.2 with | .long z :: .long x :: r => cond (decide (z = 0)) none (aNx f n u h (.long (x - x / z * z) :: r)) | _ => none)
  | .lcmp => (match f.2.2 with | .long z :: .long x :: r => aNx f n u h (.int (lg_cmp x z) :: r) | _ => none)
  | .i2l => (match f.2.2 with | .int x :: r => aNx f n u h (.long x.toInt64 :: r) | _ => none)
  | .l2i => (match f.2.2 with | .long x :: r => aNx f n u h (.int x.toInt32 :: r) | _ => none)
  | .i2f => (match f.2.2 with | .int x :: r => aNx f n u h (.float (FP.i2f x) :: r) | _ => none)
  | .l2f => (match f.2.2 with | .long x :: r => aNx f n u h (.float (FP.l2f x) :: r) | _ => none)
  | .fdiv => (match f.2.2 with | .float z :: .float x :: r => cond (aN32 (FP.fdiv x z)) (aNx f n u h (.float (FP.fdiv x z) :: r)) none | _ => none)
  | .f2d => (match f.2.2 with | .float x :: r => cond (aN64 (FP.f2d x)) (aNx f n u h (.double (FP.f2d x) :: r)) none | _ => none)
  | .dcmp o => (match f.2.2 with | .double z :: .double x :: r => aNx f n u h (.int (Op.cmpValue (FP.dcmp x z) o) :: r) | _ => none)
  | .fcmp o => (match f.2.2 with | .float z :: .float x :: r => aNx f n u h (.int (Op.cmpValue (FP.fcmp x z) o) :: r) | _ => none)
  | .dup => (match f.2.2 with | w :: r => cond (aIs2 (some w)) none (aNx f n u h (w :: w :: r)) | _ => none)
  | .dup2 => (match f.2.2 with | w :: w2 :: r => cond (aIs2 (some w)) none (cond (aIs2 (some w2)) none (aNx f n u h (w :: w2 :: w :: w2 :: r))) | _ => none)
  | .goto _ => some ((a, aMb b f.2.1, f.2.2), u, h)
  | .ifCond o _ => (match f.2.2 with | .int x :: r => cond (aC0 o x) (some ((a, aMb b f.2.1, r), u, h)) (some ((f.1 + n, f.2.1, r), u, h)) | _ => none)
  | .if_icmp o _ => (match f.2.2 with | .int z :: .int x :: r => cond (aC2 o x z) (some ((a, aMb b f.2.1, r), u, h)) (some ((f.1 + n, f.2.1, r), u, h)) | _ => none)
  | .tableswitch _ _ _ _ => (match f.2.2 with | .int x :: r => cond (aIn x (tsw y).length) (match (tsw y)[x.toNatClampNeg]? with | some t => some ((t, f.2.1, r), u, h) | none => none) (some ((a, f.2.1, r), u, h)) | _ => none)
  | .getfield _ => (match f.2.2 with | .ref q :: r => cond (aK h q (100 + a)) (aNx f n u h (cond (Nat.beq c 1) (va_rf ((h.2.1 q).2.2 b)) (.int (h.2.2.1 q b)) :: r)) none | _ => none)
  | .putfield _ => (match f.2.2 with
    | .int x :: .ref q :: r => cond (aK h q (100 + a) && (fOK y a b && (Nat.beq c 0 || (Nat.beq c 2 && aBit x)))) (aNx f n u (aWI h q b x) r) none
    | .ref x :: .ref q :: r => cond (aK h q (100 + a) && (fOK y a b && (Nat.beq c 1 && (Nat.beq h.1.1 0 && Nat.blt x h.1.2)))) (aNx f n u (aShR h q b (some x)) r) none
    | _ => none)
  | .iaload => (match f.2.2 with | .int x :: .ref q :: r => cond ((aK h q 0 || aK h q 8) && aIn x (h.2.1 q).2.1) (aNx f n u h (.int (h.2.2.1 q x.toNatClampNeg) :: r)) none | _ => none)
  | .baload => (match f.2.2 with | .int x :: .ref q :: r => cond (aK h q 1 && aIn x (h.2.1 q).2.1) (aNx f n u h (.int (h.2.2.1 q x.toNatClampNeg) :: r)) none | _ => none)
  | .laload => (match f.2.2 with | .int x :: .ref q :: r => cond (aK h q 2 && aIn x (h.2.1 q).2.1) (aNx f n u h (.long (h.2.2.2.1 q x.toNatClampNeg) :: r)) none | _ => none)
  | .daload => (match f.2.2 with | .int x :: .ref q :: r => cond (aK h q 3 && aIn x (h.2.1 q).2.1) (aNx f n u h (.double (h.2.2.2.2 q x.toNatClampNeg) :: r)) none | _ => none)
  | .aaload => (match f.2.2 with | .int x :: .ref q :: r => cond ((aK h q 4 || (aK h q 5 || (aK h q 6 || aK h q 7))) && aIn x (h.2.1 q).2.1) (aNx f n u h (va_rf ((h.2.1 q).2.2 x.toNatClampNeg) :: r)) none | _ => none)
  | .iastore => (match f.2.2 with | .int w :: .int x :: .ref q :: r => cond (aK h q 0 && aIn x (h.2.1 q).2.1) (aNx f n u (aWI h q x.toNatClampNeg w) r) none | _ => none)
  | .bastore => (match f.2.2 with | .int w :: .int x :: .ref q :: r => cond (aK h q 1 && (aIn x (h.2.1 q).2.1 && aBit w)) (aNx f n u (aWI h q x.toNatClampNeg w) r) none | _ => none)
  | .lastore => (match f.2.2 with | .long w :: .int x :: .ref q :: r => cond (aK h q 2 && aIn x (h.2.1 q).2.1) (aNx f n u (aWJ h q x.toNatClampNeg w) r) none | _ => none)
  | .dastore => (match f.2.2 with | .double w :: .int x :: .ref q :: r => cond (aK h q 3 && aIn x (h.2.1 q).2.1) (aNx f n u (aWE h q x.toNatClampNeg w) r) none | _ => none)
  | .aastore => (match f.2.2 with | .ref w :: .int x :: .ref q :: r => cond (Nat.beq h.1.1 0 && ((aK h q 5 || (aK h q 6 || aK h q 7)) && (aIn x (h.2.1 q).2.1 && aK h w (akc (h.2.1 q).1)))) (aNx f n u (aShR h q x.toNatClampNeg (some w)) r) none | _ => none)
  | .arraylength => (match f.2.2 with | .ref q :: r => cond (Nat.blt q h.1.2 && Nat.ble (h.2.1 q).1 8) (aNx f n u h (.int (Int32.ofNat (h.2.1 q).2.1) :: r)) none | _ => none)
  | .newarray _ => (match f.2.2 with | .int x :: r => cond (Nat.beq h.1.1 0 && (!(decide (x < 0)) && (Nat.ble x.toNatClampNeg 100000 && (Nat.ble (u.1 + 1) (mcT y) && Nat.ble (u.2 + x.toNatClampNeg) (msT y))))) (aNx f n (u.1 + 1, u.2 + x.toNatClampNeg) (aNew h a x.toNatClampNeg) (.ref h.1.2 :: r)) none | _ => none)
  | .anewarray _ => (match f.2.2 with | .int x :: r => cond (Nat.beq h.1.1 0 && (!(decide (x < 0)) && (Nat.ble x.toNatClampNeg 100000 && (Nat.ble (u.1 + 1) (mcT y) && Nat.ble (u.2 + x.toNatClampNeg) (msT y))))) (aNx f n (u.1 + 1, u.2 + x.toNatClampNeg) (aNew h a x.toNatClampNeg) (.ref h.1.2 :: r)) none | _ => none)
  | .multianewarray _ _ => (match f.2.2 with | .int z :: .int x :: r => cond (Nat.beq h.1.1 0 && ((!(decide (x < 0)) && !(decide (z < 0))) && ((Nat.ble x.toNatClampNeg 100000 && Nat.ble z.toNatClampNeg 100000) && (Nat.ble (u.1 + (1 + x.toNatClampNeg)) (mcT y) && Nat.ble (u.2 + (x.toNatClampNeg + x.toNatClampNeg * z.toNatClampNeg)) (msT y))))) (aNx f n (u.1 + (1 + x.toNatClampNeg), u.2 + (x.toNatClampNeg + x.toNatClampNeg * z.toNatClampNeg)) (aNewM h x.toNatClampNeg z.toNatClampNeg) (.ref h.1.2 :: r)) none | _ => none)
  | .new _ => cond (Nat.beq c 0 && (Nat.beq h.1.1 0 && (Nat.ble (u.1 + 1) (mcT y) && Nat.ble (u.2 + b) (msT y)))) (aNx f n (u.1 + 1, u.2 + b) (aNew h (100 + a) b) (.ref h.1.2 :: f.2.2)) none
  | .invokestatic _ => (match f.2.2 with
    | .int z :: .int x :: r => cond (Nat.ble 6 c && (Nat.ble 1 (fr y) && (Nat.ble ((r.map fun v => v.category).sum + 13) (lo y) && (Nat.ble u.1 (mcT y) && Nat.ble u.2 (msT y))))) (aNx f n u h (.int (cond (Nat.beq c 6) (if x < z then z else x) (if z < x then z else x)) :: r)) none
    | _ => none)
  | .invokespecial _ => (match f.2.2 with | .ref _ :: r => cond (Nat.beq c 9 && (Nat.ble 1 (fr y) && Nat.ble ((r.map fun v => v.category).sum + 12) (lo y))) (aNx f n u h r) none | _ => none)
  | _ => none
/-- what a call asks: frames, words, room, and the class of the object that is called -/
def aCallOK (y : Nat) (e : aEn) (u : Nat × Nat) (as r : List Value) (h : aHp) : Bool :=
  Nat.ble (fr e.2.2.2.1 + 1) (fr y) && (Nat.ble (8 + (mL e.2.2.2.1 + 11) + lo e.2.2.2.1) (lo y) && (Nat.ble (u.1 + mcT e.2.2.2.1) (mcT y) && (Nat.ble (u.2 + msT e.2.2.2.1) (msT y) && (Nat.ble (r.map fun v => v.category).sum 8 && (Nat.ble (aEnt as).length (mL e.2.2.2.1) &&
  cond (Nat.beq e.2.2.2.2.2.1 1) (match as with | .ref q :: _ => aK h q (100 + ow e.2.2.2.1) | _ => false) (cond (Nat.beq e.2.2.2.2.2.1 2 || Nat.beq e.2.2.2.2.2.1 4) (match as with | .ref _ :: _ => true | _ => false) true))))))
/-- the place behind the handler's own store, and its local -/
noncomputable def aHnd (y pc k : Nat) : Option (Nat × Nat × Nat) := match hh y with
  | none => none
  | some H => match hndL pc k H with
    | none => none
    | some t => match cd y t with
      | some (.astore _, n, _, a, _) => some (t, t + n, a)
      | some (.astore_n _, n, _, a, _) => some (t, t + n, a)
      | _ => some (t, 0, 1000)
def aIsCall (e : aEn) : Bool := match e.1 with
  | .invokestatic _ => !(Nat.ble 6 e.2.2.2.2.2.1)
  | .invokevirtual _ => true
  | .invokespecial _ => !(Nat.beq e.2.2.2.2.2.1 9)
  | _ => false
def aIsThrow (e : aEn) : Bool := match e.1 with
  | .new _ => Nat.beq e.2.2.2.2.2.1 1
  | _ => false
abbrev aOut : Type := (Option Value ⊕ Nat) × aHp
/-- the end of a method, where it is one -/
def aEnd (y : Nat) (e : aEn) (f : aFr) (h : aHp) : Option aOut := match e.1, f.2.2 with
  | .ireturn, [.int x] => cond (match rt y with | some .int => true | some .boolean => aBit x | _ => false) (some (.inl (some (.int x)), h)) none
  | .freturn, [.float x] => cond (match rt y with | some .float => true | _ => false) (some (.inl (some (.float x)), h)) none
  | .return_, [] => cond (match rt y with | none => true | _ => false) (some (.inl none, h)) none
  | _, _ => none
def aIsEnd (e : aEn) : Bool := match e.1 with
  | .ireturn => true
  | .freturn => true
  | .return_ => true
  | _ => false
noncomputable def aEx : Nat → Nat → Nat × Nat → aFr → aHp → Option aOut
  | 0, _, _, _, _ => none
  | k + 1, y, u, f, h => match cd y f.1 with
    | none => none
    | some e => cond (aIsEnd e) (cond (Nat.ble u.1 (mcT y) && Nat.ble u.2 (msT y)) (aEnd y e f h) none) (cond (aIsThrow e)
        (cond (Nat.beq h.1.1 1 && (Nat.ble 6 (fr y) && (Nat.ble ((f.2.2.map fun v => v.category).sum + 82) (lo y) && (Nat.ble (u.1 + 1) (mcT y) && Nat.ble (u.2 + 6) (msT y))))) (some (.inr e.2.2.2.1, h)) none)
        (cond (aIsCall e)
          (match aArgs e.2.2.2.2.1 f.2.2 with
            | none => none
            | some (as, r) => cond (aCallOK y e u as r h) (match aEx k e.2.2.2.1 (0, 0) (0, aPad as (mL e.2.2.2.1), []) h with
                | none => none
                | some (.inl v, h1) => aEx k y (u.1 + mcT e.2.2.2.1, u.2 + msT e.2.2.2.1) (f.1 + 3, f.2.1, v.toList ++ r) h1
                | some (.inr x, h1) => cond (Nat.blt x 3) (match aHnd y f.1 x with
                  | none => some (.inr x, h1)
                  | some (_, t, a) => cond (Nat.blt a (mL y)) (aEx k y (u.1 + mcT e.2.2.2.1, u.2 + msT e.2.2.2.1) (t, aClr (f.2.1.set a none) a, []) h1) none) none) none)
          (match aStep y e u f h with
            | none => none
            | some (f', u', h') => aEx k y u' f' h')))
