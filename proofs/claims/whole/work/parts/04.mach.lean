/-! The abstract machine: a pure function on frames and heaps, over the class's, the reference's and the law's own bytes. Heap cells are numbered 0, 1, ..: 0 is the script, k + 1 the k-th cell that was made. -/
/-- kind (0 int[], 1 boolean[], 2 long[], 3 double[], 4 int[][], 5 Ring[], 6 Rollout[], 7 Incident[], 8 the script, 100 + k an object of class k), length, references -/
abbrev aShp : Type := Nat × Nat × (Nat → Option Nat)
/-- (mode: 0 while the objects are made, 1 behind that; number of cells), kinds, ints, longs, doubles -/
abbrev aHp : Type := (Nat × Nat) × (Nat → aShp) × (Nat → Nat → Int32) × (Nat → Nat → Int64) × (Nat → Nat → UInt64)
/-- place in the code, locals, operand stack -/
abbrev aFr : Type := Nat × List (Option Value) × List Value
/-- instruction, length, constant, four numbers that it resolves to -/
abbrev aEn : Type := Instr × Nat × Value × Nat × Nat × Nat × Nat
def eN (i : Instr) (n : Nat) : aEn := (i, n, .null, 0, 0, 0, 0)
def eA (i : Instr) (n a : Nat) : aEn := (i, n, .null, a, 0, 0, 0)
def eC (i : Instr) (n : Nat) (v : Value) (d : Nat) : aEn := (i, n, v, 0, 0, 0, d)
def eI (i : Instr) (n : Nat) (v : Value) (a : Nat) : aEn := (i, n, v, a, 0, 0, 0)
def e4 (i : Instr) (n a b c d : Nat) : aEn := (i, n, .null, a, b, c, d)
def up2 {α : Type} (f : Nat → Nat → α) (a j : Nat) (v : α) : Nat → Nat → α := fun b k => if b = a then (if k = j then v else f b k) else f b k
def up1 {α : Type} (f : Nat → α) (a : Nat) (v : α) : Nat → α := fun b => if b = a then v else f b
/-- locals -/
def aIs2 (x : Option Value) : Bool := match x with
  | some (.long _) => true
  | some (.double _) => true
  | _ => false
def aClr (L : List (Option Value)) (i : Nat) : List (Option Value) := match i with
  | 0 => L
  | j + 1 => cond (aIs2 (L.getD j none)) (L.set j none) L
def aSet1 (L : List (Option Value)) (i : Nat) (v : Value) : List (Option Value) := aClr (L.set i (some v)) i
def aSet2 (L : List (Option Value)) (i : Nat) (v : Value) : List (Option Value) := aClr ((L.set i (some v)).set (i + 1) none) i
def aMask (ks : List Nat) (L : List (Option Value)) : List (Option Value) := ks.foldl (fun L k => L.set k none) L
/-- an index within -/
def aIn (x : Int32) (n : Nat) : Bool := !(decide (x < 0)) && Nat.blt x.toNatClampNeg n
/-- the last n of the stack, the deepest first -/
def aArgs : Nat → List Value → Option (List Value × List Value)
  | 0, st => some ([], st)
  | _ + 1, [] => none
  | n + 1, v :: st => match aArgs n st with
    | none => none
    | some (as, r) => some (as ++ [v], r)
def aEnt : List Value → List (Option Value)
  | [] => []
  | v :: vs => cond (aIs2 (some v)) (some v :: none :: aEnt vs) (some v :: aEnt vs)
def aPad (vs : List Value) (n : Nat) : List (Option Value) := aEnt vs ++ List.replicate (n - (aEnt vs).length) none
/-- the classes of the exceptions, 0, 1, 2 -/
def xn (k : Nat) : String := cond (Nat.beq k 0) "java/lang/IndexOutOfBoundsException" (cond (Nat.beq k 1) "java/lang/IllegalArgumentException" "java/lang/IllegalStateException")
/-- which of them an entry of the law's class table names -/
def xk (t : Nat) : Option Nat := cond (Nat.beq t 19) (some 0) (cond (Nat.beq t 21) (some 1) (cond (Nat.beq t 13) (some 2) none))
def hndL (pc k : Nat) : List (Nat × Nat × Nat × Nat) → Option Nat
  | [] => none
  | q :: r => cond (Nat.ble q.1 pc && (Nat.blt pc q.2.1 && decide (xk q.2.2.2 = some k))) (some q.2.2.1) (hndL pc k r)
