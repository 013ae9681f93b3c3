/-! The class's search: looking at a state, trying a change -/
def BitsOf (B : Nat) (its : Nat → Int32) (v : Int32) (σ : Nat → Int32) : Prop := ∀ k, k < 32 → (bt v k = true ↔ (k < B ∧ σ (xi (its k)) = zI k))
def cnB (its : Nat → Int32) (B s : Nat) : Nat := cnA its s B
def wtB (its : Nat → Int32) (B s : Nat) : Nat := wt (fun s => cnA its s B) s
def CatC (B : Nat) (its : Nat → Int32) (y : Hs) : Prop := y.1 2 1 = zI B ∧ y.1 4 = its ∧ ∀ b, b < B → y.1 131 b = zI (plA its b * wtB its B (xi (its b)))
def ptA (σ : Nat → Int32) (i s : Nat) : Int32 := if (σ s).toInt < i then σ s else -1
theorem pt_0 (σ : Nat → Int32) (s : Nat) {B : Nat} {its : Nat → Int32} (h : vSt B its σ) : ptA σ 0 s = -1 := by
  unfold ptA
  by_cases w : (σ s).toInt < (0 : Nat)
  · rw [if_pos w]
    by_cases hs : s < 5
    · rcases h.1 s hs with q | ⟨q, _⟩
      · exact q
      · have := (aIn_iff _ _).mp q
        omega
    · exact h.2 s (by omega)
  · rw [if_neg w]
theorem pt_B {σ : Nat → Int32} {B : Nat} {its : Nat → Int32} (h : vSt B its σ) : ptA σ B = σ := by
  funext s
  unfold ptA
  by_cases w : (σ s).toInt < (B : Nat)
  · rw [if_pos w]
  · rw [if_neg w]
    by_cases hs : s < 5
    · rcases h.1 s hs with q | ⟨q, _⟩
      · exact q.symm
      · have := (aIn_iff _ _).mp q
        omega
    · exact (h.2 s (by omega)).symm
section CLS
variable {S B : Nat} {its σ : Nat → Int32}
theorem pt_no (hB : B ≤ 24) (h : vSt B its σ) {i : Nat} (hi : i < B) (w : ¬ σ (xi (its i)) = zI i) : ptA σ (i + 1) = ptA σ i := by
  funext s
  have ne : ¬ (σ s).toInt = i := by
    intro e
    have e : σ s = zI i := by rw [i_eq, zI_int (by omega)]; exact e
    by_cases hs : s < 5
    · rcases h.1 s hs with q | ⟨_, q⟩
      · rw [q] at e
        exact zI_ne_m1 (by omega) e.symm
      · rw [e, xi_zI (by omega)] at q
        rw [q, xi_zI (by omega)] at w
        exact w e
    · rw [h.2 s (by omega)] at e
      exact zI_ne_m1 (by omega) e.symm
  unfold ptA
  by_cases q : (σ s).toInt < (i : Nat)
  · rw [if_pos q, if_pos (by omega)]
  · rw [if_neg q, if_neg (by omega)]
theorem pt_yes (hB : B ≤ 24) (h : vSt B its σ) {i : Nat} (hi : i < B) (i5 : aIn (its i) 5 = true) (w : σ (xi (its i)) = zI i) : ptA σ (i + 1) = upA its (ptA σ i) i := by
  funext s
  unfold ptA upA
  by_cases e : s = xi (its i)
  · rw [if_pos e, e, w, zI_int (by omega), if_pos (by omega)]
  · rw [if_neg e]
    have ne : ¬ (σ s).toInt = i := by
      intro q
      have q : σ s = zI i := by rw [i_eq, zI_int (by omega)]; exact q
      by_cases hs : s < 5
      · rcases h.1 s hs with k | ⟨_, k⟩
        · rw [k] at q
          exact zI_ne_m1 (by omega) q.symm
        · rw [q, xi_zI (by omega)] at k
          rw [k, xi_zI (by omega)] at e
          exact e rfl
      · rw [h.2 s (by omega)] at q
        exact zI_ne_m1 (by omega) q.symm
    show (if (σ s).toInt < ((i + 1 : Nat) : Int) then σ s else -1) = (if (σ s).toInt < (i : Nat) then σ s else -1)
    by_cases q : (σ s).toInt < (i : Nat)
    · rw [if_pos q, if_pos (by omega)]
    · rw [if_neg q, if_neg (by omega)]
theorem pt_num (hB : B ≤ 24) (h : vSt B its σ) {i : Nat} (hi : i < B) (i5 : aIn (its i) 5 = true) (w : σ (xi (its i)) = zI i) : numS B its (ptA σ (i + 1)) = numS B its (ptA σ i) + plA its i * wtB its B (xi (its i)) := by
  obtain ⟨t, ht, et⟩ := aIn_ex i5
  rw [pt_yes hB h hi i5 w, et, xi_zI (by omega)]
  have k := num_up (σ := ptA σ i) hB hi ht et
  rw [et, xi_zI (by omega)] at w
  have e : dgA its (ptA σ i) t = 0 := by
    unfold dgA ptA
    rw [w, zI_int (by omega), if_neg (show ¬ (i : Int) < (i : Nat) by omega)]
    exact if_pos rfl
  rw [e, Nat.zero_mul] at k
  exact k
theorem s45_12 (hB : B ≤ 24) (hi5 : ∀ b, b < B → aIn (its b) 5 = true) {v : Int32} (hv : vSt B its σ) (hb : BitsOf B its v σ) : ∀ d i n y, i + d = B → d < n → CatC B its y → (∀ s, s < 5 → y.1 136 s = ptA σ i s) →
    ∃ z, gm45_12 n v (zI (numS B its (ptA σ i))) (zI i) y = some (zI (numS B its σ), z) ∧ (∀ a, ¬ a = 136 → z.1 a = y.1 a) ∧ z.2 = y.2 ∧ ∀ s, s < 5 → z.1 136 s = σ s := by
  intro d
  induction d with
  | zero =>
    intro i n y hi hn hc hy
    obtain ⟨n, rfl⟩ : ∃ m, n = m + 1 := ⟨n - 1, by omega⟩
    have hi : i = B := by omega
    subst hi
    refine ⟨y, ?_, fun _ _ => rfl, rfl, fun s hs => by rw [hy s hs, pt_B hv]⟩
    rw [gm45_12.eq_2, hc.1, if_pos (by rw [zI_ge (by omega) (by omega)]; omega), pt_B hv]
  | succ d ih =>
    intro i n y hi hn hc hy
    obtain ⟨n, rfl⟩ : ∃ m, n = m + 1 := ⟨n - 1, by omega⟩
    have n1 : ¬ zI i ≥ zI B := by rw [zI_ge (by omega) (by omega)]; omega
    have i24 : aIn (zI i) 24 = true := aIn_t (by omega) (by omega)
    have xi' : xi (zI i) = i := xi_zI (by omega)
    have i5 := hi5 i (by omega)
    have hbt := hb i (by omega)
    by_cases w : σ (xi (its i)) = zI i
    · have hbt : bt v i = true := hbt.mpr ⟨by omega, w⟩
      obtain ⟨z, z1, z2, z3, z4⟩ := ih (i + 1) n (wI y 136 (xi (its i)) (zI i)) (by omega) (by omega) ⟨by rw [wI_ne (by decide)]; exact hc.1, by rw [wI_ne (by decide)]; exact hc.2.1, fun b hb => by rw [wI_ne (by decide)]; exact hc.2.2 b hb⟩ (fun s hs => by
        rw [pt_yes hB hv (by omega) i5 w, wI_at]
        unfold upA
        by_cases q : s = xi (its i)
        · rw [if_pos q, if_pos q]
        · rw [if_neg q, if_neg q]; exact hy s hs)
      refine ⟨z, ?_, fun a ha => by rw [z2 a ha, wI_ne ha], z3, z4⟩
      rw [← z1, pt_num hB hv (by omega) i5 w, ← zI_add, ← zI_succ, gm45_12.eq_2, hc.1, if_neg n1, s101, Option.bind_some, hs_bt _ (by omega), hbt, if_neg ib_t, i24, cond_true, xi', hc.2.1, i5, cond_true, cond_true, wI_ne (by decide), hc.2.2 i (by omega)]
      rfl
    · have hbt : bt v i = false := by
        rw [← Bool.not_eq_true]
        exact fun q => w (hbt.mp q).2
      obtain ⟨z, z1, z2, z3, z4⟩ := ih (i + 1) n y (by omega) (by omega) hc (fun s hs => by rw [pt_no hB hv (by omega) w]; exact hy s hs)
      refine ⟨z, ?_, z2, z3, z4⟩
      rw [← z1, pt_no hB hv (by omega) w, ← zI_succ, gm45_12.eq_2, hc.1, if_neg n1, s101, Option.bind_some, hs_bt _ (by omega), hbt, if_pos ib_f]
      rfl
theorem s181b (a : Nat) (v : Int32) (x : Hs) : gm181 a v x = some (wI (wI (wI (wI (wI x a 0 v) a 1 v) a 2 v) a 3 v) a 4 v) := rfl
theorem s45 (hB : B ≤ 24) (hi5 : ∀ b, b < B → aIn (its b) 5 = true) {v : Int32} (hv : vSt B its σ) (hb : BitsOf B its v σ) {y : Hs} (hc : CatC B its y) :
    ∃ z, gm45 v y = some (zI (numS B its σ), z) ∧ (∀ a, ¬ a = 136 → z.1 a = y.1 a) ∧ z.2 = y.2 ∧ ∀ s, s < 5 → z.1 136 s = σ s := by
  have hc' : CatC B its (wI (wI (wI (wI (wI y 136 0 (-1)) 136 1 (-1)) 136 2 (-1)) 136 3 (-1)) 136 4 (-1)) := hc
  obtain ⟨z, z1, z2, z3, z4⟩ := s45_12 hB hi5 hv hb B 0 FU (wI (wI (wI (wI (wI y 136 0 (-1)) 136 1 (-1)) 136 2 (-1)) 136 3 (-1)) 136 4 (-1)) (by omega) (by unfold FU; omega) hc' (fun s hs => by
    rw [pt_0 σ s hv]
    have : s = 0 ∨ s = 1 ∨ s = 2 ∨ s = 3 ∨ s = 4 := by omega
    rcases this with rfl | rfl | rfl | rfl | rfl <;> rfl)
  have n0 : numS B its (ptA σ 0) = 0 := by
    have e : ∀ s, dgA its (ptA σ 0) s = 0 := fun s => by
      unfold dgA
      rw [if_pos (pt_0 σ s hv)]
    have q : ∀ n, numL (dgA its (ptA σ 0)) (fun s => cnA its s B) n = 0 := by
      intro n
      induction n with
      | zero => rfl
      | succ n ih =>
        show numL _ _ n + _ * _ = 0
        rw [ih, e, Nat.zero_mul]
    exact q 5
  rw [n0, ← zI_0] at z1
  refine ⟨z, ?_, fun a ha => by rw [z2 a ha, wI_ne ha, wI_ne ha, wI_ne ha, wI_ne ha, wI_ne ha], z3, z4⟩
  unfold gm45
  rw [s181b, Option.bind_some]
  exact z1
theorem s43 {y : Hs} {n : Nat} (h10 : y.1 130 10 = zI n) (hn : n < 6480) (a1 a2 a3 : Int32) :
    ∃ z, gm43 a1 a2 a3 y = some z ∧ (∀ k, z.1 133 k = if k = n then a1 else y.1 133 k) ∧ (∀ k, z.1 134 k = if k = n then a2 else y.1 134 k) ∧ (∀ k, z.1 135 k = if k = n then a3 else y.1 135 k) ∧ (∀ k, z.1 130 k = if k = 10 then zI (n + 1) else y.1 130 k) ∧ (∀ a, ¬ a = 130 → ¬ a = 133 → ¬ a = 134 → ¬ a = 135 → z.1 a = y.1 a) ∧ z.2 = y.2 := by
  have q : ¬ zI n ≥ 6480 := by rw [show (6480 : Int32) = zI 6480 from rfl, zI_ge (by omega) (by omega)]; omega
  have i6 : aIn (zI n) 6480 = true := aIn_t hn (by omega)
  have xn : xi (zI n) = n := xi_zI (by omega)
  refine ⟨wI (wI (wI (wI y 133 n a1) 134 n a2) 135 n a3) 130 10 (zI (n + 1)), ?_, fun k => ?_, fun k => ?_, fun k => ?_, fun k => ?_, fun a m1 m2 m3 m4 => ?_, rfl⟩
  · have r1 : ∀ v, (wI y 133 n v).1 130 10 = zI n := fun v => by rw [wI_ne (by decide)]; exact h10
    have r2 : ∀ v w, (wI (wI y 133 n v) 134 n w).1 130 10 = zI n := fun v w => by rw [wI_ne (by decide)]; exact r1 v
    have r3 : ∀ v w u, (wI (wI (wI y 133 n v) 134 n w) 135 n u).1 130 10 = zI n := fun v w u => by rw [wI_ne (by decide)]; exact r2 v w
    unfold gm43
    rw [h10, if_neg q, i6, cond_true, xn, r1, i6, cond_true, xn, r2, i6, cond_true, xn, r3, zI_succ]
  · rw [wI_ne (by decide), wI_ne (by decide), wI_ne (by decide), wI_at]
  · rw [wI_ne (by decide), wI_ne (by decide), wI_at, wI_ne (by decide)]
  · rw [wI_ne (by decide), wI_at, wI_ne (by decide), wI_ne (by decide)]
  · rw [wI_at, wI_ne (by decide), wI_ne (by decide), wI_ne (by decide)]
  · rw [wI_ne m1, wI_ne m4, wI_ne m3, wI_ne m2]
end CLS
