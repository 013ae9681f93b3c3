/-! Small facts for simp; how many bits a set has, by both ways -/
theorem i10 : ((1 : Int32) = 0) = False := eq_false (by decide)
theorem n10 : ((1 : Nat) = 0) = False := eq_false (by decide)
theorem n20 : ((2 : Nat) = 0) = False := eq_false (by decide)
theorem n21 : ((2 : Nat) = 1) = False := eq_false (by decide)
theorem kb0 : Nat.blt 0 3 = true := rfl
theorem kb1 : Nat.blt 1 3 = true := rfl
theorem kb2 : Nat.blt 2 3 = true := rfl
theorem aI01 : aIn 0 1 = true := rfl
theorem xi0 : xi 0 = 0 := rfl
theorem xi1 : xi 1 = 1 := rfl
theorem ib_f : b2i false = 0 := rfl
theorem ib_t : ¬ b2i true = 0 := by decide
def z0 : Hs := (fun _ _ => 0, fun _ _ => 0, fun _ _ => 0)
theorem pop_chk0 : ∀ a, a < 16 → ∀ b, b < 64 → gm179 (zI (64 * a + b)) z0 = gm116 (zI (64 * a + b)) z0 ∧ (gm116 (zI (64 * a + b)) z0).isSome = true := by decide +kernel
theorem pop_chk1 : ∀ a, a < 16 → ∀ b, b < 64 → gm179 (zI (64 * (16 + a) + b)) z0 = gm116 (zI (64 * (16 + a) + b)) z0 ∧ (gm116 (zI (64 * (16 + a) + b)) z0).isSome = true := by decide +kernel
theorem pop_chk2 : ∀ a, a < 16 → ∀ b, b < 64 → gm179 (zI (64 * (32 + a) + b)) z0 = gm116 (zI (64 * (32 + a) + b)) z0 ∧ (gm116 (zI (64 * (32 + a) + b)) z0).isSome = true := by decide +kernel
theorem pop_chk3 : ∀ a, a < 16 → ∀ b, b < 64 → gm179 (zI (64 * (48 + a) + b)) z0 = gm116 (zI (64 * (48 + a) + b)) z0 ∧ (gm116 (zI (64 * (48 + a) + b)) z0).isSome = true := by decide +kernel
theorem gm116_x (v : Int32) (x y : Hs) : ∀ n a i, gm116_4 n v a i x = gm116_4 n v a i y
  | 0, _, _ => rfl
  | n + 1, a, i => by rw [gm116_4, gm116_4, gm116_x v x y n]
theorem pop_ok {v : Int32} (h : ∀ k, 12 ≤ k → bt v k = false) : ∃ w, (∀ x, gm179 v x = some w) ∧ (∀ x, gm116 v x = some w) := by
  have hn : v.toBitVec.toNat < 2 ^ 12 := Nat.lt_pow_two_of_testBit _ (fun i hi => h i hi)
  have hv : v = zI v.toBitVec.toNat := by
    apply Int32.toBitVec_inj.1
    show _ = BitVec.ofNat 32 _
    rw [BitVec.ofNat_toNat, BitVec.setWidth_eq]
  generalize v.toBitVec.toNat = n at hn hv
  have hq : gm179 (zI n) z0 = gm116 (zI n) z0 ∧ (gm116 (zI n) z0).isSome = true := by
    have hab : n = 64 * (n / 64) + n % 64 := by omega
    have h3 : n % 64 < 64 := by omega
    rcases (show n / 64 < 16 ∨ (16 ≤ n / 64 ∧ n / 64 < 32) ∨ (32 ≤ n / 64 ∧ n / 64 < 48) ∨ (48 ≤ n / 64 ∧ n / 64 < 64) by omega) with h2 | h2 | h2 | h2
    · have := pop_chk0 _ h2 _ h3
      rw [← hab] at this
      exact this
    · have := pop_chk1 (n / 64 - 16) (by omega) _ h3
      rw [show 16 + (n / 64 - 16) = n / 64 by omega, ← hab] at this
      exact this
    · have := pop_chk2 (n / 64 - 32) (by omega) _ h3
      rw [show 32 + (n / 64 - 32) = n / 64 by omega, ← hab] at this
      exact this
    · have := pop_chk3 (n / 64 - 48) (by omega) _ h3
      rw [show 48 + (n / 64 - 48) = n / 64 by omega, ← hab] at this
      exact this
  obtain ⟨w, hw⟩ := Option.isSome_iff_exists.mp hq.2
  refine ⟨w, fun x => ?_, fun x => ?_⟩
  · rw [hv, ← hw, ← hq.1]
    rfl
  · rw [hv, ← hw]
    exact gm116_x _ _ _ _ _ _
theorem bt_set {v : Int32} {m : Nat} (h : ∀ k, m ≤ k → bt v k = false) {a : Int32} (ha : aIn a m = true) (hm : m ≤ 32) : ∀ k, m ≤ k → bt (v ||| (1 <<< (a &&& 31))) k = false := by
  intro k hk
  obtain ⟨j, hj, rfl⟩ := aIn_ex ha
  rw [bt_or, h k hk, bt_one31 (by omega), Bool.false_or, decide_eq_false (by omega)]
