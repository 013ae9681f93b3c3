/-! The search without a heap: a state's numbers -/
def cnA (its : Nat → Int32) (s : Nat) : Nat → Nat
  | 0 => 0
  | b + 1 => cnA its s b + (if its b = zI s then 1 else 0)
theorem cnA_mono (its : Nat → Int32) (s : Nat) {a b : Nat} (h : a ≤ b) : cnA its s a ≤ cnA its s b := by
  induction b with
  | zero => rw [Nat.le_zero.mp h]; exact Nat.le_refl _
  | succ b ih =>
    by_cases w : a = b + 1
    · rw [w]; exact Nat.le_refl _
    · exact Nat.le_trans (ih (by omega)) (Nat.le_add_right _ _)
theorem cnA_le (its : Nat → Int32) (s b : Nat) : cnA its s b ≤ b := by
  induction b with
  | zero => exact Nat.le_refl _
  | succ b ih =>
    have : (if its b = zI s then 1 else 0) ≤ 1 := by by_cases w : its b = zI s <;> simp [w]
    show cnA its s b + _ ≤ _
    omega
def plA (its : Nat → Int32) (b : Nat) : Nat := cnA its (xi (its b)) b + 1
theorem plA_le {its : Nat → Int32} {s b B : Nat} (h : its b = zI s) (hs : s < 5) (hb : b < B) : plA its b ≤ cnA its s B := by
  have := cnA_mono its s (show b + 1 ≤ B by omega)
  unfold plA
  rw [h, xi_zI (by omega)]
  have e : cnA its s (b + 1) = cnA its s b + 1 := by
    show cnA its s b + (if its b = zI s then 1 else 0) = _
    rw [if_pos h]
  omega
theorem plA_inj {its : Nat → Int32} {s a b : Nat} (ha : its a = zI s) (hb : its b = zI s) (hs : s < 5) (h : plA its a = plA its b) : a = b := by
  have k : ∀ a b, its a = zI s → its b = zI s → a < b → ¬ plA its a = plA its b := by
    intro a b ha hb hl w
    have := cnA_mono its s (show a + 1 ≤ b by omega)
    have e : cnA its s (a + 1) = cnA its s a + 1 := by
      show cnA its s a + (if its a = zI s then 1 else 0) = _
      rw [if_pos ha]
    unfold plA at w
    rw [ha, hb, xi_zI (by omega)] at w
    omega
  rcases Nat.lt_trichotomy a b with w | w | w
  · exact absurd h (k a b ha hb w)
  · exact w
  · exact absurd h.symm (k b a hb ha w)
theorem cnA_sum {its : Nat → Int32} {B : Nat} (h : ∀ b, b < B → aIn (its b) 5 = true) : cnA its 0 B + cnA its 1 B + cnA its 2 B + cnA its 3 B + cnA its 4 B = B := by
  induction B with
  | zero => rfl
  | succ b ih =>
    have ih := ih (fun k hk => h k (by omega))
    obtain ⟨t, ht, et⟩ := aIn_ex (h b (by omega))
    have q : ∀ s, s < 5 → (if its b = zI s then 1 else 0) = if t = s then 1 else 0 := by
      intro s hs
      rw [et]
      by_cases w : t = s
      · rw [if_pos w, if_pos (by rw [w])]
      · rw [if_neg w, if_neg (by rw [zI_inj (by omega) (by omega)]; exact w)]
    show (cnA its 0 b + _) + (cnA its 1 b + _) + (cnA its 2 b + _) + (cnA its 3 b + _) + (cnA its 4 b + _) = b + 1
    rw [q 0 (by decide), q 1 (by decide), q 2 (by decide), q 3 (by decide), q 4 (by decide)]
    have : t = 0 ∨ t = 1 ∨ t = 2 ∨ t = 3 ∨ t = 4 := by omega
    rcases this with rfl | rfl | rfl | rfl | rfl <;> simp <;> omega
def wt (cn : Nat → Nat) : Nat → Nat
  | 0 => 1
  | s + 1 => wt cn s * (cn s + 1)
theorem wt_pos (cn : Nat → Nat) : ∀ s, 0 < wt cn s
  | 0 => Nat.one_pos
  | s + 1 => Nat.mul_pos (wt_pos cn s) (Nat.succ_pos _)
theorem wt_up (cn : Nat → Nat) {a b : Nat} (h : a ≤ b) : wt cn a ≤ wt cn b := by
  induction b with
  | zero => rw [Nat.le_zero.mp h]; exact Nat.le_refl _
  | succ b ih =>
    by_cases w : a = b + 1
    · rw [w]; exact Nat.le_refl _
    · exact Nat.le_trans (ih (by omega)) (Nat.le_mul_of_pos_right _ (Nat.succ_pos _))
def wtChk : Bool := allF (fun a => allF (fun b => allF (fun c => allF (fun d => Nat.ble ((a + 1) * (b + 1) * (c + 1) * (d + 1) * (24 - a - b - c - d + 1)) 6480) (25 - a - b - c) 0) (25 - a - b) 0) (25 - a) 0) 25 0
theorem wtChk_ok : wtChk = true := by decide +kernel
theorem wt5 (cn : Nat → Nat) (h : cn 0 + cn 1 + cn 2 + cn 3 + cn 4 ≤ 24) : wt cn 5 ≤ 6480 := by
  have k := wtChk_ok
  unfold wtChk at k
  rw [allF_0] at k
  have k := k (cn 0) (by omega)
  rw [allF_0] at k
  have k := k (cn 1) (by omega)
  rw [allF_0] at k
  have k := k (cn 2) (by omega)
  rw [allF_0] at k
  have k := Nat.le_of_ble_eq_true (k (cn 3) (by omega))
  show 1 * (cn 0 + 1) * (cn 1 + 1) * (cn 2 + 1) * (cn 3 + 1) * (cn 4 + 1) ≤ 6480
  rw [Nat.one_mul]
  exact Nat.le_trans (Nat.mul_le_mul_left _ (by omega)) k
def numL (dg cn : Nat → Nat) : Nat → Nat
  | 0 => 0
  | s + 1 => numL dg cn s + dg s * wt cn s
def cdL (dg cn : Nat → Nat) : Nat → Nat
  | 0 => 0
  | s + 1 => cdL dg cn s * (cn s + 1) + dg s
theorem numL_lt {dg cn : Nat → Nat} (h : ∀ s, dg s ≤ cn s) : ∀ s, numL dg cn s < wt cn s
  | 0 => Nat.one_pos
  | s + 1 => by
    have ih := numL_lt h s
    have h1 : dg s * wt cn s ≤ cn s * wt cn s := Nat.mul_le_mul_right _ (h s)
    show numL dg cn s + dg s * wt cn s < wt cn s * (cn s + 1)
    rw [Nat.mul_add, Nat.mul_comm (wt cn s) (cn s), Nat.mul_one]
    omega
theorem numL_inj {dg dh cn : Nat → Nat} (h1 : ∀ s, dg s ≤ cn s) (h2 : ∀ s, dh s ≤ cn s) : ∀ n, numL dg cn n = numL dh cn n → ∀ s, s < n → dg s = dh s
  | 0, _, s, hs => absurd hs (Nat.not_lt_zero s)
  | n + 1, e, s, hs => by
    have a1 := numL_lt h1 n
    have a2 := numL_lt h2 n
    have e : numL dg cn n + dg n * wt cn n = numL dh cn n + dh n * wt cn n := e
    have em := congrArg (· % wt cn n) e
    have ed := congrArg (· / wt cn n) e
    simp only [Nat.add_mul_mod_self_right, Nat.mod_eq_of_lt a1, Nat.mod_eq_of_lt a2] at em
    simp only [Nat.add_mul_div_right _ _ (wt_pos cn n), Nat.div_eq_of_lt a1, Nat.div_eq_of_lt a2, Nat.zero_add] at ed
    by_cases w : s = n
    · rw [w]; exact ed
    · exact numL_inj h1 h2 n em s (by omega)
theorem numL_cg {dg dh cn : Nat → Nat} : ∀ n, (∀ s, s < n → dg s = dh s) → numL dg cn n = numL dh cn n
  | 0, _ => rfl
  | n + 1, h => by
    show numL dg cn n + dg n * wt cn n = numL dh cn n + dh n * wt cn n
    rw [numL_cg n (fun s hs => h s (by omega)), h n (by omega)]
theorem numL_set {dg dh cn : Nat → Nat} {a : Nat} (h : ∀ s, ¬ s = a → dg s = dh s) : ∀ n, a < n → numL dg cn n + dh a * wt cn a = numL dh cn n + dg a * wt cn a
  | 0, hn => absurd hn (Nat.not_lt_zero a)
  | n + 1, hn => by
    show numL dg cn n + dg n * wt cn n + dh a * wt cn a = numL dh cn n + dh n * wt cn n + dg a * wt cn a
    by_cases w : a = n
    · rw [← w, numL_cg a (fun s hs => h s (by omega))]
      omega
    · have ih := numL_set h (cn := cn) n (by omega)
      rw [h n (fun q => w q.symm)]
      omega
theorem cdL_lt {dg cn : Nat → Nat} (h : ∀ s, dg s ≤ cn s) : ∀ s, cdL dg cn s < wt cn s
  | 0 => Nat.one_pos
  | s + 1 => by
    have ih := cdL_lt h s
    show cdL dg cn s * (cn s + 1) + dg s < wt cn s * (cn s + 1)
    have h1 : (cdL dg cn s + 1) * (cn s + 1) ≤ wt cn s * (cn s + 1) := Nat.mul_le_mul_right _ ih
    rw [Nat.add_mul, Nat.one_mul] at h1
    have := h s
    omega
theorem cdL_mod {dg cn : Nat → Nat} (h : ∀ s, dg s ≤ cn s) (s : Nat) : cdL dg cn (s + 1) % (cn s + 1) = dg s := by
  show (cdL dg cn s * (cn s + 1) + dg s) % (cn s + 1) = dg s
  rw [Nat.mul_comm, Nat.mul_add_mod, Nat.mod_eq_of_lt]
  have := h s
  omega
theorem cdL_div {dg cn : Nat → Nat} (h : ∀ s, dg s ≤ cn s) (s : Nat) : cdL dg cn (s + 1) / (cn s + 1) = cdL dg cn s := by
  show (cdL dg cn s * (cn s + 1) + dg s) / (cn s + 1) = cdL dg cn s
  have := h s
  rw [Nat.mul_comm, Nat.mul_add_div (Nat.succ_pos _), Nat.div_eq_of_lt (by omega), Nat.add_zero]
theorem cdL_inj {dg dh cn : Nat → Nat} (h1 : ∀ s, dg s ≤ cn s) (h2 : ∀ s, dh s ≤ cn s) : ∀ n, cdL dg cn n = cdL dh cn n → ∀ s, s < n → dg s = dh s
  | 0, _, s, hs => absurd hs (Nat.not_lt_zero s)
  | n + 1, e, s, hs => by
    by_cases w : s = n
    · rw [w, ← cdL_mod h1 n, ← cdL_mod h2 n, e]
    · exact cdL_inj h1 h2 n (by rw [← cdL_div h1 n, ← cdL_div h2 n, e]) s (by omega)
theorem cdL_cg {dg dh cn : Nat → Nat} : ∀ n, (∀ s, s < n → dg s = dh s) → cdL dg cn n = cdL dh cn n
  | 0, _ => rfl
  | n + 1, h => by
    show cdL dg cn n * (cn n + 1) + dg n = cdL dh cn n * (cn n + 1) + dh n
    rw [cdL_cg n (fun s hs => h s (by omega)), h n (by omega)]
/-- pigeons -/
theorem pigeon : ∀ m n (f : Nat → Nat), (∀ k, k < n → f k < m) → (∀ j k, j < n → k < n → f j = f k → j = k) → n ≤ m
  | 0, n, f, h1, _ => by
    rcases Nat.eq_zero_or_pos n with w | w
    · omega
    · exact absurd (h1 0 w) (Nat.not_lt_zero _)
  | m + 1, n, f, h1, h2 => by
    rcases Nat.eq_zero_or_pos n with w | w
    · omega
    -- the last one's place is given to the one that has m
    have k := pigeon m (n - 1) (fun k => if f k = m then f (n - 1) else f k) (fun k hk => by
      have a1 := h1 k (by omega)
      have a2 := h1 (n - 1) (by omega)
      by_cases q : f k = m
      · simp only [if_pos q]
        by_cases q2 : f (n - 1) = m
        · exact absurd (h2 k (n - 1) (by omega) (by omega) (by rw [q, q2])) (by omega)
        · omega
      · simp only [if_neg q]
        omega) (fun j k hj hk e => by
      by_cases q : f j = m
      · by_cases q2 : f k = m
        · exact h2 j k (by omega) (by omega) (by rw [q, q2])
        · simp only [if_pos q, if_neg q2] at e
          exact absurd (h2 (n - 1) k (by omega) (by omega) e) (by omega)
      · by_cases q2 : f k = m
        · simp only [if_neg q, if_pos q2] at e
          exact absurd (h2 j (n - 1) (by omega) (by omega) e) (by omega)
        · simp only [if_neg q, if_neg q2] at e
          exact h2 j k (by omega) (by omega) e)
    omega
