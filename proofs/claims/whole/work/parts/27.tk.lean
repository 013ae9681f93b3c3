/-! Numbers, bits, loops: what the methods' functions are read with -/
def zI (k : Nat) : Int32 := Int32.ofNat k
def b2i (b : Bool) : Int32 := cond b 1 0
theorem bmod_small {n : Int} (h1 : -2147483648 ≤ n) (h2 : n < 2147483648) : n.bmod (2 ^ 32) = n := by
  show n.bmod 4294967296 = n
  apply Int.bmod_eq_of_le <;> omega
theorem zI_int {k : Nat} (h : k < 2147483648) : (zI k).toInt = k := Int32.toInt_ofNat_of_lt (by omega)
theorem xi_zI {k : Nat} (h : k < 2147483648) : xi (zI k) = k := Int32.toNatClampNeg_ofNat_of_lt (by omega)
theorem xi_eq (a : Int32) : xi a = a.toInt.toNat := rfl
theorem i_lt (a b : Int32) : a < b ↔ a.toInt < b.toInt := Int32.lt_iff_toInt_lt
theorem i_le (a b : Int32) : a ≤ b ↔ a.toInt ≤ b.toInt := Int32.le_iff_toInt_le
theorem i_ge (a b : Int32) : a ≥ b ↔ b.toInt ≤ a.toInt := Int32.le_iff_toInt_le
theorem i_gt (a b : Int32) : a > b ↔ b.toInt < a.toInt := Int32.lt_iff_toInt_lt
theorem i_eq (a b : Int32) : a = b ↔ a.toInt = b.toInt := Int32.toInt_inj.symm
theorem i_add {a b : Int32} (h1 : -2147483648 ≤ a.toInt + b.toInt) (h2 : a.toInt + b.toInt < 2147483648) : (a + b).toInt = a.toInt + b.toInt := by
  rw [Int32.toInt_add, bmod_small h1 h2]
theorem i_sub {a b : Int32} (h1 : -2147483648 ≤ a.toInt - b.toInt) (h2 : a.toInt - b.toInt < 2147483648) : (a - b).toInt = a.toInt - b.toInt := by
  rw [Int32.toInt_sub, bmod_small h1 h2]
theorem i_mul {a b : Int32} (h1 : -2147483648 ≤ a.toInt * b.toInt) (h2 : a.toInt * b.toInt < 2147483648) : (a * b).toInt = a.toInt * b.toInt := by
  rw [Int32.toInt_mul, bmod_small h1 h2]
theorem zI_0 : (0 : Int32) = zI 0 := rfl
theorem zI_succ (k : Nat) : zI k + 1 = zI (k + 1) := (Int32.ofNat_add k 1).symm
theorem zI_add (a b : Nat) : zI a + zI b = zI (a + b) := (Int32.ofNat_add a b).symm
theorem zI_mul (a b : Nat) : zI a * zI b = zI (a * b) := (Int32.ofNat_mul a b).symm
theorem zI_sub {a b : Nat} (h : b ≤ a) : zI a - zI b = zI (a - b) := (Int32.ofNat_sub a b h).symm
theorem zI_inj {a b : Nat} (ha : a < 2147483648) (hb : b < 2147483648) : zI a = zI b ↔ a = b := by
  rw [i_eq, zI_int ha, zI_int hb]
  omega
theorem zI_ge {a b : Nat} (ha : a < 2147483648) (hb : b < 2147483648) : zI a ≥ zI b ↔ b ≤ a := by
  rw [i_ge, zI_int ha, zI_int hb]
  omega
theorem zI_lt {a b : Nat} (ha : a < 2147483648) (hb : b < 2147483648) : zI a < zI b ↔ a < b := by
  rw [i_lt, zI_int ha, zI_int hb]
  omega
theorem zI_le {a b : Nat} (ha : a < 2147483648) (hb : b < 2147483648) : zI a ≤ zI b ↔ a ≤ b := by
  rw [i_le, zI_int ha, zI_int hb]
  omega
theorem m1_int : (-1 : Int32).toInt = -1 := rfl
theorem zI_ne_m1 {a : Nat} (ha : a < 2147483648) : ¬ zI a = -1 := by
  rw [i_eq, zI_int ha, m1_int]
  omega
theorem aIn_iff (a : Int32) (n : Nat) : aIn a n = true ↔ 0 ≤ a.toInt ∧ a.toInt < n := by
  unfold aIn
  rw [Bool.and_eq_true, Bool.not_eq_true', decide_eq_false_iff_not, i_lt]
  have h0 : (0 : Int32).toInt = 0 := rfl
  rw [h0]
  have h1 : Nat.blt a.toNatClampNeg n = true ↔ xi a < n := ⟨Nat.le_of_ble_eq_true, Nat.ble_eq_true_of_le⟩
  rw [h1, xi_eq]
  omega
theorem aIn_zI {k n : Nat} (h : k < 2147483648) : aIn (zI k) n = decide (k < n) := by
  rw [Bool.eq_iff_iff, aIn_iff, zI_int h, decide_eq_true_eq]
  omega
theorem aIn_t {k n : Nat} (h : k < n) (hn : n ≤ 2147483648) : aIn (zI k) n = true := by
  rw [aIn_zI (by omega)]
  exact decide_eq_true h
theorem aIn_up {a : Int32} {n m : Nat} (h : aIn a n = true) (hm : n ≤ m) : aIn a m = true := by
  rw [aIn_iff] at h ⊢
  omega
theorem aIn_lt {a : Int32} {n : Nat} (h : aIn a n = true) : xi a < n := by
  rw [aIn_iff] at h
  rw [xi_eq]
  omega
theorem aIn_nat {a : Int32} {n : Nat} (h : aIn a n = true) : a = zI (xi a) := by
  rw [aIn_iff] at h
  rw [i_eq, zI_int (by rw [xi_eq]; have := a.toInt_lt; omega), xi_eq]
  omega
theorem aIn_ex {a : Int32} {n : Nat} (h : aIn a n = true) : ∃ k, k < n ∧ a = zI k := ⟨xi a, aIn_lt h, aIn_nat h⟩
theorem aIn_m1 (n : Nat) : aIn (-1) n = false := by
  cases h : aIn (-1) n with
  | false => rfl
  | true =>
    rw [aIn_iff, m1_int] at h
    omega
theorem aIn_ne {a : Int32} {n : Nat} (h : aIn a n = true) : ¬ a = -1 := by
  intro e
  rw [e, aIn_m1] at h
  cases h
theorem b2i_0 (b : Bool) : b2i b = 0 ↔ b = false := by cases b <;> decide
theorem b2i_1 (b : Bool) : b2i b = 1 ↔ b = true := by cases b <;> decide
theorem aBit_b (b : Bool) : aBit (b2i b) = true := by cases b <;> decide
theorem b2i_t : b2i true = 1 := rfl
theorem b2i_f : b2i false = 0 := rfl
/-! Rows of Bools -/
def anyF (p : Nat → Bool) : Nat → Nat → Bool
  | 0, _ => false
  | d + 1, i => p i || anyF p d (i + 1)
def allF (p : Nat → Bool) : Nat → Nat → Bool
  | 0, _ => true
  | d + 1, i => p i && allF p d (i + 1)
theorem anyF_iff (p : Nat → Bool) : ∀ d i, anyF p d i = true ↔ ∃ j, i ≤ j ∧ j < i + d ∧ p j = true
  | 0, i => by
    refine ⟨fun h => (by cases h), ?_⟩
    rintro ⟨j, h1, h2, _⟩
    omega
  | d + 1, i => by
    rw [anyF, Bool.or_eq_true, anyF_iff p d (i + 1)]
    constructor
    · rintro (h | ⟨j, h1, h2, h3⟩)
      · exact ⟨i, Nat.le_refl _, by omega, h⟩
      · exact ⟨j, by omega, by omega, h3⟩
    · rintro ⟨j, h1, h2, h3⟩
      by_cases e : j = i
      · rw [e] at h3; exact Or.inl h3
      · exact Or.inr ⟨j, by omega, by omega, h3⟩
theorem allF_iff (p : Nat → Bool) : ∀ d i, allF p d i = true ↔ ∀ j, i ≤ j → j < i + d → p j = true
  | 0, i => by
    refine ⟨fun _ j h1 h2 => (by omega), fun _ => rfl⟩
  | d + 1, i => by
    rw [allF, Bool.and_eq_true, allF_iff p d (i + 1)]
    constructor
    · rintro ⟨h, h0⟩ j h1 h2
      by_cases e : j = i
      · rw [e]; exact h
      · exact h0 j (by omega) (by omega)
    · intro h
      exact ⟨h i (Nat.le_refl _) (by omega), fun j h1 h2 => h j (by omega) (by omega)⟩
theorem anyF_0 (p : Nat → Bool) (n : Nat) : anyF p n 0 = true ↔ ∃ j, j < n ∧ p j = true := by
  rw [anyF_iff]
  constructor
  · rintro ⟨j, -, h2, h3⟩; exact ⟨j, by omega, h3⟩
  · rintro ⟨j, h2, h3⟩; exact ⟨j, by omega, by omega, h3⟩
theorem allF_0 (p : Nat → Bool) (n : Nat) : allF p n 0 = true ↔ ∀ j, j < n → p j = true := by
  rw [allF_iff]
  constructor
  · intro h j h1; exact h j (by omega) (by omega)
  · intro h j _ h1; exact h j (by omega)
theorem anyF_cg {p q : Nat → Bool} : ∀ d i, (∀ j, i ≤ j → j < i + d → p j = q j) → anyF p d i = anyF q d i
  | 0, _, _ => rfl
  | d + 1, i, h => by rw [anyF, anyF, h i (Nat.le_refl _) (by omega), anyF_cg d (i + 1) (fun j h1 h2 => h j (by omega) (by omega))]
theorem allF_cg {p q : Nat → Bool} : ∀ d i, (∀ j, i ≤ j → j < i + d → p j = q j) → allF p d i = allF q d i
  | 0, _, _ => rfl
  | d + 1, i, h => by rw [allF, allF, h i (Nat.le_refl _) (by omega), allF_cg d (i + 1) (fun j h1 h2 => h j (by omega) (by omega))]
/-! Bits -/
def bt (v : Int32) (k : Nat) : Bool := v.toBitVec.getLsbD k
theorem sm32 : ∀ j, j < 32 → (zI j).toBitVec.smod 32 = BitVec.ofNat 32 j := by decide +kernel
theorem an31 : ∀ j, j < 32 → zI j &&& 31 = zI j := by decide +kernel
theorem and31 (k : Int32) : ∃ j, j < 32 ∧ k &&& 31 = zI j := by
  refine ⟨(k &&& 31).toBitVec.toNat, ?_, ?_⟩
  · have h : (k &&& 31).toBitVec.toNat = k.toBitVec.toNat &&& 31 := BitVec.toNat_and ..
    rw [h]
    have := Nat.and_le_right (n := k.toBitVec.toNat) (m := 31)
    omega
  · apply Int32.toBitVec_inj.1
    show _ = BitVec.ofNat 32 _
    rw [BitVec.ofNat_toNat, BitVec.setWidth_eq]
theorem shl_bv (v : Int32) {j : Nat} (h : j < 32) : (v <<< zI j).toBitVec = v.toBitVec <<< j := by
  rw [Int32.toBitVec_shiftLeft, sm32 j h, BitVec.shiftLeft_eq', BitVec.toNat_ofNat]
  congr 1
  omega
theorem shr_bv (v : Int32) {j : Nat} (h : j < 32) : (v >>> zI j).toBitVec = v.toBitVec.sshiftRight j := by
  rw [Int32.toBitVec_shiftRight, sm32 j h, BitVec.sshiftRight_eq', BitVec.toNat_ofNat]
  congr 1
  omega
theorem bt_or (a b : Int32) (k : Nat) : bt (a ||| b) k = (bt a k || bt b k) := by
  unfold bt
  rw [Int32.toBitVec_or, BitVec.getLsbD_or]
theorem bt_and (a b : Int32) (k : Nat) : bt (a &&& b) k = (bt a k && bt b k) := by
  unfold bt
  rw [Int32.toBitVec_and, BitVec.getLsbD_and]
theorem bt_0 (k : Nat) : bt 0 k = false := by
  show (0#32).getLsbD k = false
  exact BitVec.getLsbD_zero
theorem bt_one {j : Nat} (h : j < 32) (k : Nat) : bt (1 <<< zI j) k = decide (k = j) := by
  unfold bt
  rw [shl_bv 1 h]
  show (1#32 <<< j).getLsbD k = _
  rw [BitVec.getLsbD_shiftLeft, BitVec.getLsbD_one, Bool.eq_iff_iff]
  simp only [Bool.and_eq_true, decide_eq_true_eq, Bool.not_eq_true', decide_eq_false_iff_not]
  omega
theorem bt_one31 {j : Nat} (h : j < 32) (k : Nat) : bt (1 <<< (zI j &&& 31)) k = decide (k = j) := by
  rw [an31 j h, bt_one h]
theorem bt_not (a : Int32) {k : Nat} (h : k < 32) : bt (a ^^^ (-1)) k = !bt a k := by
  unfold bt
  rw [Int32.toBitVec_xor, BitVec.getLsbD_xor, show (-1 : Int32).toBitVec = BitVec.allOnes 32 from rfl, BitVec.getLsbD_allOnes, decide_eq_true h, Bool.xor_true]
theorem bt_ext {a b : Int32} (h : ∀ k, k < 32 → bt a k = bt b k) : a = b := by
  apply Int32.toBitVec_inj.1
  exact BitVec.eq_of_getLsbD_eq h
theorem bt_big (a : Int32) {k : Nat} (h : 32 ≤ k) : bt a k = false := BitVec.getLsbD_of_ge _ _ h
theorem has_and (v : Int32) {j : Nat} (h : j < 32) : (v &&& (1 <<< zI j)) = 0 ↔ bt v j = false := by
  constructor
  · intro e
    have := bt_and v (1 <<< zI j) j
    rw [e, bt_0, bt_one h, decide_eq_true rfl, Bool.and_true] at this
    exact this.symm
  · intro e
    apply bt_ext
    intro k hk
    rw [bt_and, bt_0, bt_one h]
    by_cases hkj : k = j
    · rw [hkj, e, Bool.false_and]
    · rw [decide_eq_false hkj, Bool.and_false]
theorem has_shr (v : Int32) {j : Nat} (h : j < 32) : ((v >>> zI j) &&& 1) = 1 ↔ bt v j = true := by
  have e0 : bt (v >>> zI j) 0 = bt v j := by
    unfold bt
    rw [shr_bv v h, BitVec.getLsbD_sshiftRight]
    simp only [Nat.add_zero]
    have h1 : ¬ (32 ≤ 0) := by omega
    simp [h]
  have e1 : ∀ w : Int32, (w &&& 1) = 1 ↔ bt w 0 = true := by
    intro w
    have hb : ∀ k, bt (w &&& 1) k = (bt w k && decide (k = 0)) := fun k => by
      rw [bt_and]
      have := bt_one (j := 0) (by omega) k
      rw [show (1 <<< zI 0 : Int32) = 1 from rfl] at this
      rw [this]
    constructor
    · intro e
      have h0 := hb 0
      rw [e, decide_eq_true rfl, Bool.and_true] at h0
      rw [← h0]
      rfl
    · intro e
      apply bt_ext
      intro k _
      have h1 := bt_one (j := 0) (by omega) k
      rw [show (1 <<< zI 0 : Int32) = 1 from rfl] at h1
      rw [hb, h1]
      by_cases hk : k = 0
      · rw [hk, e]; rfl
      · rw [decide_eq_false hk, Bool.and_false]
  rw [e1, e0]
/-- whether a set has a number: one Bool for both ways to ask -/
def hs (v k : Int32) : Bool := decide (((v >>> (k &&& 31)) &&& 1) = 1)
theorem hs_and (v k : Int32) : ((v &&& (1 <<< (k &&& 31))) = 0) ↔ hs v k = false := by
  obtain ⟨j, hj, e⟩ := and31 k
  unfold hs
  rw [e, has_and v hj, decide_eq_false_iff_not, has_shr v hj]
  cases bt v j <;> simp
theorem hs_bt (v : Int32) {j : Nat} (h : j < 32) : hs v (zI j) = bt v j := by
  unfold hs
  rw [an31 j h, Bool.eq_iff_iff, decide_eq_true_eq, has_shr v h]
theorem cmp_le (a b : Int64) : lg_cmp a b ≤ 0 ↔ a ≤ b := by
  unfold lg_cmp
  have h : (a ≤ b) ↔ ¬ (a > b) := Int64.not_lt.symm
  rw [h]
  by_cases h1 : a > b
  · rw [if_pos h1]; exact ⟨fun q => absurd q (by decide), fun q => absurd h1 q⟩
  · rw [if_neg h1]
    refine ⟨fun _ => h1, fun _ => ?_⟩
    by_cases h2 : a = b
    · rw [if_pos h2]; decide
    · rw [if_neg h2]; decide
theorem cmp_eq (a b : Int64) : lg_cmp a b = 0 ↔ a = b := by
  unfold lg_cmp
  by_cases h1 : a > b
  · rw [if_pos h1]
    refine ⟨fun q => absurd q (by decide), fun q => ?_⟩
    rw [q] at h1
    exact absurd h1 Int64.lt_irrefl
  · rw [if_neg h1]
    by_cases h2 : a = b
    · rw [if_pos h2]; exact ⟨fun _ => h2, fun _ => rfl⟩
    · rw [if_neg h2]; exact ⟨fun q => absurd q (by decide), fun q => absurd q h2⟩
theorem cmp_lt (a b : Int64) : lg_cmp a b < 0 ↔ a < b := by
  unfold lg_cmp
  by_cases h1 : a > b
  · rw [if_pos h1]
    refine ⟨fun q => absurd q (by decide), fun q => ?_⟩
    rw [Int64.lt_iff_toInt_lt] at q
    have h1 := Int64.lt_iff_toInt_lt.mp h1
    omega
  · rw [if_neg h1]
    by_cases h2 : a = b
    · rw [if_pos h2, h2]; exact ⟨fun q => absurd q (by decide), fun q => absurd q Int64.lt_irrefl⟩
    · rw [if_neg h2]
      refine ⟨fun _ => ?_, fun _ => by decide⟩
      rw [Int64.lt_iff_toInt_lt]
      have h1 : ¬ b.toInt < a.toInt := fun z => h1 (Int64.lt_iff_toInt_lt.mpr z)
      have h2 : ¬ a.toInt = b.toInt := fun z => h2 (Int64.toInt_inj.mp z)
      omega
theorem cmp_ge (a b : Int64) : lg_cmp a b ≥ 0 ↔ b ≤ a := by
  have h := cmp_lt a b
  have h1 : (b ≤ a) ↔ ¬ (a < b) := Int64.not_lt.symm
  rw [h1, ← h]
  exact Int32.not_lt.symm
/-! Writes, read -/
theorem wI_ne {x : Hs} {q a j : Nat} {v : Int32} (h : ¬ a = q) : (wI x q j v).1 a = x.1 a := by
  funext k
  show (if a = q then _ else _) = _
  rw [if_neg h]
theorem wI_at (x : Hs) (q j k : Nat) (v : Int32) : (wI x q j v).1 q k = if k = j then v else x.1 q k := by
  show (if q = q then _ else _) = _
  rw [if_pos rfl]
theorem wI_j (x : Hs) (q j : Nat) (v : Int32) : (wI x q j v).1 q j = v := by rw [wI_at, if_pos rfl]
theorem wI_nj {x : Hs} {q j k : Nat} {v : Int32} (h : ¬ k = j) : (wI x q j v).1 q k = x.1 q k := by rw [wI_at, if_neg h]
theorem wJ_ne {x : Hs} {q a j : Nat} {v : Int64} (h : ¬ a = q) : (wJ x q j v).2.1 a = x.2.1 a := by
  funext k
  show (if a = q then _ else _) = _
  rw [if_neg h]
theorem wJ_at (x : Hs) (q j k : Nat) (v : Int64) : (wJ x q j v).2.1 q k = if k = j then v else x.2.1 q k := by
  show (if q = q then _ else _) = _
  rw [if_pos rfl]
theorem wJ_I (x : Hs) (q j : Nat) (v : Int64) : (wJ x q j v).1 = x.1 := rfl
theorem wI_J (x : Hs) (q j : Nat) (v : Int32) : (wI x q j v).2 = x.2 := rfl
/-- what a write does to a cell, as a function -/
theorem wI_fn (x : Hs) (q j : Nat) (v : Int32) : (wI x q j v).1 q = fun k => if k = j then v else x.1 q k := funext (fun k => wI_at x q j k v)
