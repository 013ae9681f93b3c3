/-! The loop's first heap is the closed form -/
def bLow : List bOp := bo310 ++ (bo279 ++ (bo248 ++ (bo217 ++ (bo186 ++ (bo155 ++ (bo124 ++ (bo93 ++ (bo62 ++ bo31))))))))
theorem bLow_eq (L : Nat) (xs : Nat → Int32) : hb310 L xs = bRun bLow (hp0 L xs) := by
  unfold bLow
  rw [bRun_app, bRun_app, bRun_app, bRun_app, bRun_app, bRun_app, bRun_app, bRun_app, bRun_app, bq310, bq279, bq248, bq217, bq186, bq155, bq124, bq93, bq62, bq31]
  rfl
theorem bLow_ok : bOk bLow = true := by decide +kernel
theorem bLow_sz : bSz bLow = 138 := by decide +kernel
theorem bAll_ok : bOk bAll = true := by decide +kernel
theorem bAll_sz : bSz bAll = 189 := by decide +kernel
theorem bAll_eq (L : Nat) (xs : Nat → Int32) : hb509 L xs = bRun bAll (hp0 L xs) := by
  have e1 : (hb310 L xs).1 = (0, 138) := by
    rw [bLow_eq, (bRel_ok L xs bLow bLow_ok).1.1, bLow_sz]
  have e2 : (((0, 138), (hb310 L xs).2.1, (hb310 L xs).2.2.1, (hb310 L xs).2.2.2.1, (hb310 L xs).2.2.2.2) : aHp) = hb310 L xs := by
    rw [← e1]
  have e3 : hb509 L xs = bRun bo509 (hb506 (hb310 L xs).2.1 (hb310 L xs).2.2.1 (hb310 L xs).2.2.2.1 (hb310 L xs).2.2.2.2) := rfl
  rw [e3, bq506, bq467, bq428, bq389, bq350, e2, bLow_eq]
  unfold bAll bLow
  simp only [bRun_app]
def noW (a : Nat) : List bOp → Bool
  | [] => true
  | o :: l => noW a l && (match o.1 with
    | 0 => true
    | 1 => true
    | 2 => true
    | _ => !(Nat.beq a o.2.1))
theorem noW_0 (a j : Nat) : ∀ l, noW a l = true → bI a j l = 0
  | [], _ => rfl
  | (tag, c, x, y, v, p) :: l, h => by
    have h1 : noW a l = true := by
      unfold noW at h
      exact (Bool.and_eq_true_iff.mp h).1
    have ih := noW_0 a j l h1
    rcases tag with _ | _ | _ | n
    · show cond (Nat.beq a c) 0 (bI a j l) = 0
      rw [ih]
      cases Nat.beq a c <;> rfl
    · show cond (Nat.blt a c) (bI a j l) 0 = 0
      rw [ih]
      cases Nat.blt a c <;> rfl
    · exact ih
    · have h2 : (!(Nat.beq a c)) = true := (Bool.and_eq_true_iff.mp (show (noW a l && !(Nat.beq a c)) = true from h)).2
      show cond (Nat.beq a c) (cond (Nat.beq j x) v (bI a j l)) (bI a j l) = 0
      rw [Bool.not_eq_true'] at h2
      rw [h2]
      exact ih
def isLong (a : Nat) : Bool := (Nat.ble 131 a && Nat.ble a 135) || (Nat.ble 182 a && Nat.ble a 185)
theorem chkK : allF (fun a => Nat.beq (bK (a + 1) bAll) (SH 0 (a + 1)).1 && Nat.beq (bN (a + 1) bAll) (SH 0 (a + 1)).2.1) 188 0 = true := by decide +kernel
theorem chkW : allF (fun a => Nat.blt (bN (a + 1) bAll) 241 || (isLong (a + 1) && (Nat.beq (bK (a + 1) bAll) 0 && noW (a + 1) bAll))) 188 0 = true := by decide +kernel
def oEq (x y : Option Nat) : Bool := match x, y with
  | none, none => true
  | some a, some b => Nat.beq a b
  | _, _ => false
theorem oEq_t {x y : Option Nat} (h : oEq x y = true) : x = y := by
  cases x <;> cases y
  · rfl
  · exact absurd h (by intro w; cases w)
  · exact absurd h (by intro w; cases w)
  · exact congrArg some (Nat.eq_of_beq_eq_true h)
def fil (a : Nat) : List bOp → List bOp
  | [] => []
  | o :: l => match o.1 with
    | 0 => cond (Nat.beq a o.2.1) [o] (fil a l)
    | 1 => cond (Nat.blt a o.2.1) (fil a l) [o]
    | _ => cond (Nat.beq a o.2.1) (o :: fil a l) (fil a l)
theorem fil_ok (a j : Nat) : ∀ l, bI a j (fil a l) = bI a j l ∧ bP a j (fil a l) = bP a j l
  | [] => ⟨rfl, rfl⟩
  | (tag, c, x, y, v, p) :: l => by
    obtain ⟨h1, h2⟩ := fil_ok a j l
    rcases tag with _ | _ | _ | n
    · show bI a j (cond (Nat.beq a c) [(0, c, x, y, v, p)] (fil a l)) = cond (Nat.beq a c) 0 (bI a j l) ∧ bP a j (cond (Nat.beq a c) [(0, c, x, y, v, p)] (fil a l)) = cond (Nat.beq a c) none (bP a j l)
      cases w : Nat.beq a c with
      | true =>
        show cond (Nat.beq a c) 0 0 = 0 ∧ cond (Nat.beq a c) none none = none
        rw [w]
        exact ⟨rfl, rfl⟩
      | false => exact ⟨h1, h2⟩
    · show bI a j (cond (Nat.blt a c) (fil a l) [(1, c, x, y, v, p)]) = cond (Nat.blt a c) (bI a j l) 0 ∧ bP a j (cond (Nat.blt a c) (fil a l) [(1, c, x, y, v, p)]) = cond (Nat.beq a c) (cond (Nat.blt j x) (some (c + 1 + j)) none) (cond (Nat.blt a c) (bP a j l) none)
      cases w : Nat.blt a c with
      | true =>
        have : Nat.beq a c = false := beq_f (by have := Nat.le_of_ble_eq_true w; omega)
        rw [this]
        exact ⟨h1, h2⟩
      | false =>
        show cond (Nat.blt a c) 0 0 = 0 ∧ cond (Nat.beq a c) (cond (Nat.blt j x) (some (c + 1 + j)) none) (cond (Nat.blt a c) none none) = cond (Nat.beq a c) (cond (Nat.blt j x) (some (c + 1 + j)) none) none
        rw [w]
        exact ⟨rfl, rfl⟩
    · show bI a j (cond (Nat.beq a c) ((2, c, x, y, v, p) :: fil a l) (fil a l)) = bI a j l ∧ bP a j (cond (Nat.beq a c) ((2, c, x, y, v, p) :: fil a l) (fil a l)) = cond (Nat.beq a c) (cond (Nat.beq j x) p (bP a j l)) (bP a j l)
      cases w : Nat.beq a c with
      | true =>
        show bI a j (fil a l) = bI a j l ∧ cond (Nat.beq a c) (cond (Nat.beq j x) p (bP a j (fil a l))) (bP a j (fil a l)) = cond (Nat.beq j x) p (bP a j l)
        rw [w, h1, h2]
        exact ⟨rfl, rfl⟩
      | false => exact ⟨h1, h2⟩
    · show bI a j (cond (Nat.beq a c) ((n + 3, c, x, y, v, p) :: fil a l) (fil a l)) = cond (Nat.beq a c) (cond (Nat.beq j x) v (bI a j l)) (bI a j l) ∧ bP a j (cond (Nat.beq a c) ((n + 3, c, x, y, v, p) :: fil a l) (fil a l)) = bP a j l
      cases w : Nat.beq a c with
      | true =>
        show cond (Nat.beq a c) (cond (Nat.beq j x) v (bI a j (fil a l))) (bI a j (fil a l)) = cond (Nat.beq j x) v (bI a j l) ∧ bP a j (fil a l) = bP a j l
        rw [w, h1, h2]
        exact ⟨rfl, rfl⟩
      | false => exact ⟨h1, h2⟩
def opE (x y : bOp) : Bool := (Nat.beq x.1 y.1 && Nat.beq x.2.1 y.2.1) && ((Nat.beq x.2.2.1 y.2.2.1 && Nat.beq x.2.2.2.1 y.2.2.2.1) && (decide (x.2.2.2.2.1 = y.2.2.2.2.1) && oEq x.2.2.2.2.2 y.2.2.2.2.2))
theorem opE_t {x y : bOp} (h : opE x y = true) : x = y := by
  obtain ⟨x1, x2, x3, x4, x5, x6⟩ := x
  obtain ⟨y1, y2, y3, y4, y5, y6⟩ := y
  obtain ⟨h1, h2⟩ := Bool.and_eq_true_iff.mp h
  obtain ⟨h3, h4⟩ := Bool.and_eq_true_iff.mp h2
  obtain ⟨a1, a2⟩ := Bool.and_eq_true_iff.mp h1
  obtain ⟨a3, a4⟩ := Bool.and_eq_true_iff.mp h3
  obtain ⟨a5, a6⟩ := Bool.and_eq_true_iff.mp h4
  have e1 : x1 = y1 := Nat.eq_of_beq_eq_true a1
  have e2 : x2 = y2 := Nat.eq_of_beq_eq_true a2
  have e3 : x3 = y3 := Nat.eq_of_beq_eq_true a3
  have e4 : x4 = y4 := Nat.eq_of_beq_eq_true a4
  have e5 : x5 = y5 := of_decide_eq_true a5
  have e6 : x6 = y6 := oEq_t a6
  rw [e1, e2, e3, e4, e5, e6]
def opsE : List bOp → List bOp → Bool
  | [], [] => true
  | x :: a, y :: b => opE x y && opsE a b
  | _, _ => false
theorem opsE_t : ∀ {a b : List bOp}, opsE a b = true → a = b
  | [], [], _ => rfl
  | x :: a, y :: b, h => by
    obtain ⟨h1, h2⟩ := Bool.and_eq_true_iff.mp h
    rw [opE_t h1, opsE_t h2]
  | [], y :: b, h => absurd h (by intro w; cases w)
  | x :: a, [], h => absurd h (by intro w; cases w)
def cOk (a : Nat) (t : List bOp) : Bool := opsE (fil a bAll) t && allF (fun j => oEq (bP a j t) ((SH 0 a).2.2 j) && decide (bI a j t = I0 (fun _ => 0) a j)) (cond (Nat.blt (SH 0 a).2.1 241) (SH 0 a).2.1 0) 0
def cAll : Nat → List (List bOp) → Bool
  | _, [] => true
  | a, t :: r => cOk a t && cAll (a + 1) r
theorem cAll_at : ∀ (l : List (List bOp)) (a i : Nat), cAll a l = true → i < l.length → ∃ t, cOk (a + i) t = true
  | [], _, i, _, hi => absurd hi (Nat.not_lt_zero i)
  | t :: r, a, 0, h, _ => ⟨t, (Bool.and_eq_true_iff.mp h).1⟩
  | t :: r, a, i + 1, h, hi => by
    obtain ⟨t', h'⟩ := cAll_at r (a + 1) i (Bool.and_eq_true_iff.mp h).2 (Nat.lt_of_succ_lt_succ hi)
    exact ⟨t', by rw [show a + (i + 1) = a + 1 + i by omega]; exact h'⟩
theorem chkC : allF (fun a => cond (Nat.ble 100 (bK (a + 1) bAll)) (match vwCl[bK (a + 1) bAll - 100]? with
    | some r => Nat.beq r.2.2 (bN (a + 1) bAll)
    | none => true) true) 188 0 = true := by decide +kernel
theorem shL (L a : Nat) (h : ¬ a = 0) : SH L a = SH 0 a := by
  have e : Nat.blt a 1 = false := blt_f (by omega)
  unfold SH
  simp only [e, cond_false]
theorem i0L (xs : Nat → Int32) (a j : Nat) (h : ¬ a = 0) : I0 xs a j = I0 (fun _ => 0) a j := by
  have e : Nat.blt a 1 = false := blt_f (by omega)
  unfold I0
  simp only [e, cond_false]
