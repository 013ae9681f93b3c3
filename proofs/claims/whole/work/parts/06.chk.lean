/-- the class of the objects that an array of references takes -/
def akc (k : Nat) : Nat := cond (Nat.beq k 5) 107 (cond (Nat.beq k 6) 108 105)
/-! What the code tables say is what the bytes and the Statement's words say: decided by the kernel, method by method -/
def wOK (d : Nat) (w : Cond) : Bool := decide (lw_tbl[d]? = some w) && goodWord w
def ft (k : Nat) : FieldType := cond (Nat.beq k 0) .int (cond (Nat.beq k 1) .boolean (cond (Nat.beq k 2) .long .double))
def atk (k : Nat) : ArrayType := cond (Nat.beq k 0) .int (cond (Nat.beq k 1) .boolean (cond (Nat.beq k 2) .long .double))
def fT (k : Nat) : u_T := match vwCl[k]? with
  | some q => q.2.1
  | none => fun _ => ("", "", "", true)
def fOKw (y k a b c d : Nat) : Bool := Nat.blt a 11 && (Nat.blt b (nf a) && (wOK d (.fieldLink (cn (ow y)) k (cn a) (fT a b).2.1 (fT a b).2.2.1) && Nat.beq c (fk a b)))
def ikT (k : Nat) : Nat := cond (Nat.beq k 0) 346 (cond (Nat.beq k 1) 353 358)
def isT (k : Nat) : Nat := cond (Nat.beq k 0) 348 (cond (Nat.beq k 1) 355 360)
def icT (k : Nat) : Nat := cond (Nat.beq k 0) 350 (cond (Nat.beq k 1) 357 362)
def opOK (y pc : Nat) (e : aEn) : Bool :=
  match e with
  | (i, n, v, a, b, c, d) =>
  match i with
  | .iconst k => Nat.beq n 1 && decide (v = .int (Int32.ofInt k))
  | .bipush k => Nat.beq n 2 && decide (v = .int (Int8.ofInt k).toInt32)
  | .sipush k => Nat.beq n 3 && decide (v = .int (Int16.ofInt k).toInt32)
  | .lconst k => Nat.beq n 1 && decide (v = .long (Int64.ofNat k))
  | .fconst k => Nat.beq n 1 && (decide (k = 0) && decide (v = .float FP.fconst0))
  | .ldc_w k => Nat.beq n 3 && (match v with | .int x => wOK d (.constant (cn (ow y)) k x) | _ => false)
  | .ldc2_w k => Nat.beq n 3 && (match v with | .long x => wOK d (.constantLong (cn (ow y)) k x) | _ => false)
  | .iload k => Nat.beq n 2 && Nat.beq a k
  | .lload k => Nat.beq n 2 && Nat.beq a k
  | .fload k => Nat.beq n 2 && Nat.beq a k
  | .aload k => Nat.beq n 2 && Nat.beq a k
  | .istore k => Nat.beq n 2 && Nat.beq a k
  | .lstore k => Nat.beq n 2 && Nat.beq a k
  | .fstore k => Nat.beq n 2 && Nat.beq a k
  | .astore k => Nat.beq n 2 && Nat.beq a k
  | .iload_n k => Nat.beq n 1 && Nat.beq a k
  | .lload_n k => Nat.beq n 1 && Nat.beq a k
  | .aload_n k => Nat.beq n 1 && Nat.beq a k
  | .istore_n k => Nat.beq n 1 && Nat.beq a k
  | .lstore_n k => Nat.beq n 1 && Nat.beq a k
  | .astore_n k => Nat.beq n 1 && Nat.beq a k
  | .iinc k m => Nat.beq n 3 && (Nat.beq a k && decide (v = .int (Int32.ofInt m)))
  | .goto o => Nat.beq n 3 && decide ((pc : Int) + o = (a : Int))
  | .ifCond _ o => Nat.beq n 3 && decide ((pc : Int) + o = (a : Int))
  | .if_icmp _ o => Nat.beq n 3 && decide ((pc : Int) + o = (a : Int))
  | .tableswitch dl l h os => decide ((pc : Int) + dl = (a : Int)) && (decide (l = 0) && (decide (h + 1 = ((tsw y).length : Int)) && decide (os.toList.map (fun o => (pc : Int) + o) = (tsw y).map Int.ofNat)))
  | .getfield k => Nat.beq n 3 && fOKw y k a b c d
  | .putfield k => Nat.beq n 3 && fOKw y k a b c d
  | .newarray t => Nat.beq n 2 && (Nat.blt a 4 && (decide (t = atk a) && wOK d (.arrayClass (ft a))))
  | .anewarray k => Nat.beq n 3 && ((Nat.ble 5 a && Nat.ble a 7) && (wOK d (.classLink (cn (ow y)) k (cn (akc a - 100))) && decide (lw_tbl[b]? = some (.arrayOver (.object (cn (akc a - 100)))))))
  | .multianewarray k m => Nat.beq n 4 && (Nat.beq m 2 && (Nat.beq a 4 && (wOK d (.classLink (cn (ow y)) k "[[I") && decide (lw_tbl[b]? = some (.arrayOver (.array .int))))))
  | .new k => Nat.beq n 3 && (cond (Nat.beq c 0) (Nat.blt a 11 && (Nat.beq b (nf a) && wOK d (.classLink (cn (ow y)) k (cn a))))
      (Nat.beq c 1 && (Nat.blt a 3 && (Nat.beq (ow y) 9 && (Nat.beq k (ikT a) && (wOK d (.classLink RX9 (ikT a) (xn a)) && (decide (decode (bc y) (pc + 3) = .ok (.dup, 1)) && (decide (decode (bc y) (pc + 4) = .ok (.ldc_w (isT a), 3)) && (decide (decode (bc y) (pc + 7) = .ok (.invokespecial (icT a), 3)) && (decide (decode (bc y) (pc + 10) = .ok (.athrow, 1)) && decide (hh y = none)))))))))))
  | .invokestatic k => Nat.beq n 3 && cond (Nat.ble 6 c) (cond (Nat.beq c 6) (wOK d (.methodLink (cn (ow y)) k Lib.Math.max.name)) (Nat.beq c 7 && wOK d (.methodLink (cn (ow y)) k Lib.Math.min.name))) (Nat.blt a 214 && (isS a && (decide ((parseMethodDescriptor (mn a).desc).map (fun q => q.parameters.length) = some b) &&
      (cond (Nat.beq c 0) (decide (hh a = none) && wOK d (.methodLink (cn (ow y)) k (mn a))) (cond (Nat.beq c 3) (decide (hh a = none) && decide (lw_tbl[d]? = some (.methodLinkNest (cn (ow y)) k (mn a) RX9))) (Nat.beq c 5 && ((hh a).isSome && wOK d (.methodLink (cn (ow y)) k (mn a)))))))))
  | .invokevirtual k => Nat.beq n 3 && (Nat.blt a 214 && (!(isS a) && (Nat.beq c 1 && (decide (hh a = none) && (decide ((parseMethodDescriptor (mn a).desc).map (fun q => q.parameters.length + 1) = some b) && (wOK d (.methodLink (cn (ow y)) k (mn a)) && wOK (zs a) (.selects (cn (ow a)) (mn a) (mn a))))))))
  | .invokespecial k => Nat.beq n 3 && cond (Nat.beq c 9) (wOK d (.methodLink (cn (ow y)) k objectInit)) (Nat.blt a 214 && (!(isS a) && (isI a && (decide (rt a = none) && (decide (hh a = none) && (decide ((parseMethodDescriptor (mn a).desc).map (fun q => q.parameters.length + 1) = some b) &&
      cond (Nat.beq c 2) (wOK d (.methodLink (cn (ow y)) k (mn a))) (Nat.beq c 4 && decide (lw_tbl[d]? = some (.methodLinkNest (cn (ow y)) k (mn a) RX9)))))))))
  | .aaload => Nat.beq n 1
  | .aastore => Nat.beq n 1
  | .arraylength => Nat.beq n 1
  | .baload => Nat.beq n 1
  | .bastore => Nat.beq n 1
  | .daload => Nat.beq n 1
  | .dastore => Nat.beq n 1
  | .dcmp _ => Nat.beq n 1
  | .dup => Nat.beq n 1
  | .dup2 => Nat.beq n 1
  | .f2d => Nat.beq n 1
  | .fcmp _ => Nat.beq n 1
  | .fdiv => Nat.beq n 1
  | .freturn => Nat.beq n 1
  | .i2f => Nat.beq n 1
  | .i2l => Nat.beq n 1
  | .iadd => Nat.beq n 1
  | .iaload => Nat.beq n 1
  | .iand => Nat.beq n 1
  | .iastore => Nat.beq n 1
  | .idiv => Nat.beq n 1
  | .imul => Nat.beq n 1
  | .ior => Nat.beq n 1
  | .irem => Nat.beq n 1
  | .ireturn => Nat.beq n 1
  | .ishl => Nat.beq n 1
  | .ishr => Nat.beq n 1
  | .isub => Nat.beq n 1
  | .iushr => Nat.beq n 1
  | .ixor => Nat.beq n 1
  | .l2f => Nat.beq n 1
  | .l2i => Nat.beq n 1
  | .ladd => Nat.beq n 1
  | .laload => Nat.beq n 1
  | .lastore => Nat.beq n 1
  | .lcmp => Nat.beq n 1
  | .lmul => Nat.beq n 1
  | .lrem => Nat.beq n 1
  | .lsub => Nat.beq n 1
  | .return_ => Nat.beq n 1
  | _ => false
noncomputable def enOK (y pc : Nat) (e : aEn) : Bool := decide (decode (bc y) pc = .ok (e.1, e.2.1)) && opOK y pc e
noncomputable def enC (y pc : Nat) : Bool := match cd y pc with
  | none => true
  | some e => enOK y pc e
/-- rows that the machine never comes to: between 'new' of an exception and its 'athrow' -/
noncomputable def ckA (a n : Nat) : Bool := (List.range n).all (fun y => (List.range (pl (a + y))).all (fun pc => enC (a + y) pc))
theorem ck_use {a n y pc : Nat} (h : ckA a n = true) (h1 : a ≤ y) (h2 : y < a + n) (h3 : pc < pl y) : enC y pc = true := by
  have e : a + (y - a) = y := by omega
  have h4 := List.all_eq_true.mp h (y - a) (List.mem_range.mpr (by omega))
  rw [e] at h4
  exact List.all_eq_true.mp h4 pc (List.mem_range.mpr h3)
theorem ck_0 : ckA 0 30 = true := by decide +kernel
theorem ck_1 : ckA 30 30 = true := by decide +kernel
theorem ck_2 : ckA 60 30 = true := by decide +kernel
theorem ck_3 : ckA 90 10 = true := by decide +kernel
theorem ck_4 : ckA 100 10 = true := by decide +kernel
theorem ck_5 : ckA 110 10 = true := by decide +kernel
theorem ck_6 : ckA 120 10 = true := by decide +kernel
theorem ck_7 : ckA 130 10 = true := by decide +kernel
theorem ck_8 : ckA 140 10 = true := by decide +kernel
theorem ck_9 : ckA 150 10 = true := by decide +kernel
theorem ck_10 : ckA 160 10 = true := by decide +kernel
theorem ck_11 : ckA 170 10 = true := by decide +kernel
theorem ck_12 : ckA 180 34 = true := by decide +kernel
theorem ck_mm : ckA 215 2 = true := by decide +kernel
noncomputable def ckB (a n : Nat) : Bool := (List.range n).all (fun k => enC 214 (a + k))
theorem ckB_use {a n pc : Nat} (h : ckB a n = true) (h1 : a ≤ pc) (h2 : pc < a + n) : enC 214 pc = true := by
  have e : a + (pc - a) = pc := by omega
  have h4 := List.all_eq_true.mp h (pc - a) (List.mem_range.mpr (by omega))
  rw [e] at h4
  exact h4
theorem en_spec {y pc : Nat} {e : aEn} (h : enOK y pc e = true) : decode (bc y) pc = .ok (e.1, e.2.1) ∧ opOK y pc e = true := by
  unfold enOK at h
  rw [Bool.and_eq_true, decide_eq_true_eq] at h
  exact h
