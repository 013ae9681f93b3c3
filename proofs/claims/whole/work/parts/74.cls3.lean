/-! The class's search: its loops -/
section LOO
variable {S B q : Nat} {x : Hs} {σ0 : Nat → Int32}
theorem s46 {Q : Qu} (hC : ICat S B x) (hI : QI (x.1 140) B σ0 Q) (hq : q < 2147483648) {j b : Nat} (hj : j < Q.n) (hb : b < B) (hrd : rdB x b = true) {y : Hs} (hy : CQ S B x q Q y) (h136 : ∀ s, s < 5 → y.1 136 s = Q.st j s) :
    ∃ z w, gm46 (zI j) (zI (numS B (x.1 140) (Q.st j))) (zI b) y = some (b2i w, z) ∧ CQ S B x q (stp (x.1 140) (rdB x) (sdB x S) Q j b) z ∧ (∀ s, s < 5 → z.1 136 s = Q.st j s) ∧ (w = true ↔ okA (x.1 140) (rdB x) (sdB x S) Q j b) ∧ z.1 130 11 = y.1 130 11 := by
  obtain ⟨⟨k1, k2⟩, _, ⟨w3, w4, w5, w56, w57⟩, hLH, hbt, hit, hcd, hcl⟩ := id hC
  have hi5 := aIn_up (hit b hb) k1
  obtain ⟨t, ht, et⟩ := aIn_ex hi5
  have hvj := hI.2.1 j hj
  have hcc := hy.cat hC
  have i24 : aIn (zI b) 24 = true := aIn_t (by omega) (by omega)
  have i5 : aIn (zI t) 5 = true := aIn_t ht (by omega)
  have xb : xi (zI b) = b := xi_zI (by omega)
  have xt : xi (zI t) = t := xi_zI (by omega)
  have nu := num_up (σ := Q.st j) k2 hb ht et
  have pl := hcc.2.2 b hb
  rw [et, xt] at pl
  unfold gm46
  rw [i24, cond_true, hcc.2.1, xb, et, i5, cond_true, xt, h136 t ht, pl]
  by_cases g : Q.st j t = -1
  · have e : zI (numS B (x.1 140) (Q.st j)) + zI (plA (x.1 140) b * wtB (x.1 140) B t) - 0 = zI (numS B (x.1 140) (upA (x.1 140) (Q.st j) b)) := by
      have d0 : dgA (x.1 140) (Q.st j) t = 0 := by unfold dgA; rw [if_pos g]
      rw [d0, Nat.zero_mul] at nu
      rw [zI_add, show (0 : Int32) = zI 0 from rfl, zI_sub (Nat.zero_le _), Nat.sub_zero]
      exact congrArg zI nu.symm
    rw [cond_true, if_pos g]
    exact s46_45 hC hI hq hj hb ht et hrd hy h136 e
  · obtain ⟨a1, a2⟩ := (hvj.1 t ht).resolve_left g
    obtain ⟨o, ho, eo⟩ := aIn_ex a1
    have xo : xi (Q.st j t) = o := by rw [eo, xi_zI (by omega)]
    rw [xo] at a2
    have po := hcc.2.2 o ho
    rw [a2, xt] at po
    have e : zI (numS B (x.1 140) (Q.st j)) + zI (plA (x.1 140) b * wtB (x.1 140) B t) - zI (plA (x.1 140) o * wtB (x.1 140) B t) = zI (numS B (x.1 140) (upA (x.1 140) (Q.st j) b)) := by
      have d0 : dgA (x.1 140) (Q.st j) t = plA (x.1 140) o := by unfold dgA; rw [if_neg g, xo]
      rw [d0] at nu
      have nu : numS B (x.1 140) (upA (x.1 140) (Q.st j) b) + plA (x.1 140) o * wtB (x.1 140) B t = numS B (x.1 140) (Q.st j) + plA (x.1 140) b * wtB (x.1 140) B t := nu
      rw [zI_add, ← nu, zI_sub (Nat.le_add_left _ _), Nat.add_sub_cancel]
    rw [cond_true, if_neg g, aIn_up a1 k2, cond_true, xo, po]
    exact s46_45 hC hI hq hj hb ht et hrd hy h136 e
def noG (its : Nat → Int32) (g : Nat) (Q : Qu) : Prop := ∀ k, k < Q.n → ¬ hasG its g (Q.st k)
def CO (S B : Nat) (x : Hs) (q : Nat) (σ0 : Nat → Int32) (g t : Nat) (y : Hs) : Prop := CQ S B x q (Qat (x.1 140) (rdB x) (sdB x S) B σ0 t) y ∧ y.1 130 11 = -1 ∧ noG (x.1 140) g (Qat (x.1 140) (rdB x) (sdB x S) B σ0 t)
def Fnd (its : Nat → Int32) (g : Nat) (Q : Qu) : Prop := hasG its g (Q.st (Q.n - 1)) ∧ ∀ k, k < Q.n - 1 → ¬ hasG its g (Q.st k)
def CF (S B : Nat) (x : Hs) (q : Nat) (σ0 : Nat → Int32) (g : Nat) (y : Hs) : Prop := ∃ t, CQ S B x q (Qat (x.1 140) (rdB x) (sdB x S) B σ0 t) y ∧ y.1 130 11 = zI ((Qat (x.1 140) (rdB x) (sdB x S) B σ0 t).n - 1) ∧ Fnd (x.1 140) g (Qat (x.1 140) (rdB x) (sdB x S) B σ0 t)
theorem stp_no {its : Nat → Int32} {rd : Nat → Bool} {sd : (Nat → Int32) → Bool} {Q : Qu} {j b : Nat} (h : ¬ okA its rd sd Q j b) : stp its rd sd Q j b = Q := by unfold stp; rw [if_neg h]
theorem stp_yes {its : Nat → Int32} {rd : Nat → Bool} {sd : (Nat → Int32) → Bool} {Q : Qu} {j b : Nat} (h : okA its rd sd Q j b) : stp its rd sd Q j b = Q.add (upA its (Q.st j) b) j b := by unfold stp; rw [if_pos h]
theorem add_at (Q : Qu) (τ : Nat → Int32) (f b k : Nat) : (Q.add τ f b).st k = if k = Q.n then τ else Q.st k := rfl
theorem add_n (Q : Qu) (τ : Nat → Int32) (f b : Nat) : (Q.add τ f b).n = Q.n + 1 := rfl
theorem noG_stp {its : Nat → Int32} {rd : Nat → Bool} {sd : (Nat → Int32) → Bool} {Q : Qu} {j b g : Nat} (hg : g < 24) (hb : b < 24) (h : noG its g Q) (hbg : ¬ b = g) : noG its g (stp its rd sd Q j b) := by
  by_cases w : okA its rd sd Q j b
  · rw [stp_yes w]
    intro k hk
    rw [add_n] at hk
    rw [add_at]
    by_cases e : k = Q.n
    · rw [if_pos e, hasG_up hg hb (h j w.1)]
      exact hbg
    · rw [if_neg e]
      exact h k (by omega)
  · rw [stp_no w]; exact h
theorem Fnd_stp {its : Nat → Int32} {rd : Nat → Bool} {sd : (Nat → Int32) → Bool} {Q : Qu} {j g : Nat} (hg : g < 24) (h : noG its g Q) (w : okA its rd sd Q j g) : Fnd its g (stp its rd sd Q j g) := by
  rw [stp_yes w]
  unfold Fnd
  rw [add_n, Nat.add_sub_cancel]
  refine ⟨?_, fun k hk => ?_⟩
  · rw [add_at, if_pos rfl, hasG_up hg hg (h j w.1)]
  · rw [add_at, if_neg (by omega)]
    exact h k hk
theorem s44_14 (hC : ICat S B x) (h0 : 0 < B) (hσ : vSt B (x.1 140) σ0) (hq : q < 2147483648) {g : Nat} (hg : g < B) {j : Nat} (hj : j < (Qat (x.1 140) (rdB x) (sdB x S) B σ0 (j * B)).n) :
    ∀ d b n y, b + d = B → d < n → CO S B x q σ0 g (j * B + b) y → (∀ s, s < 5 → y.1 136 s = (Qat (x.1 140) (rdB x) (sdB x S) B σ0 (j * B)).st j s) →
    ∃ z, gm44_14 n (zI j) (zI g) (zI (numS B (x.1 140) ((Qat (x.1 140) (rdB x) (sdB x S) B σ0 (j * B)).st j))) (zI b) y = some z ∧ (CO S B x q σ0 g ((j + 1) * B) z ∨ CF S B x q σ0 g z) := by
  obtain ⟨⟨k1, k2⟩, _, ⟨w3, w4, w5, w56, w57⟩, hLH, hbt, hit, hcd, hcl⟩ := id hC
  have hi5 : ∀ b, b < B → aIn (x.1 140 b) 5 = true := fun b hb => aIn_up (hit b hb) k1
  intro d
  induction d with
  | zero =>
    intro b n y hb hn hy _
    obtain ⟨n, rfl⟩ : ∃ m, n = m + 1 := ⟨n - 1, by omega⟩
    have hb : b = B := by omega
    subst hb
    refine ⟨y, ?_, Or.inl ?_⟩
    · rw [gm44_14.eq_2, (hy.1.cat hC).1, if_pos (by rw [zI_ge (by omega) (by omega)]; omega)]
    · rw [Nat.add_mul, Nat.one_mul]; exact hy
  | succ d ih =>
    intro b n y hb hn hy h136
    obtain ⟨n, rfl⟩ : ∃ m, n = m + 1 := ⟨n - 1, by omega⟩
    obtain ⟨y1, y2, y3⟩ := hy
    have n1 : ¬ zI b ≥ zI B := by rw [zI_ge (by omega) (by omega)]; omega
    have le := Qat_le (its := x.1 140) (rd := rdB x) (sd := sdB x S) (B := B) (σ := σ0) (t := j * B) (u := j * B + b) (by omega)
    have est := (le.2 j hj).1
    have hj' : j < (Qat (x.1 140) (rdB x) (sdB x S) B σ0 (j * B + b)).n := Nat.lt_of_lt_of_le hj le.1
    have at' := Qat_at (its := x.1 140) (rd := rdB x) (sd := sdB x S) (σ := σ0) j b (show b < B by omega)
    have hI := Qat_QI (rd := rdB x) (sd := sdB x S) k2 h0 hi5 hσ (j * B + b)
    rw [← est] at h136 ⊢
    rw [← est] at ih
    have bit := y1.2.2.2.1 b (by omega)
    rw [decide_eq_true (show b < B by omega), Bool.true_and] at bit
    cases rb : rdB x b with
    | false =>
      have nk : ¬ okA (x.1 140) (rdB x) (sdB x S) (Qat (x.1 140) (rdB x) (sdB x S) B σ0 (j * B + b)) j b := fun w => by
        have := w.2.1
        rw [rb] at this
        exact absurd this (by decide)
      have st : gm44_14 (n + 1) (zI j) (zI g) (zI (numS B (x.1 140) ((Qat (x.1 140) (rdB x) (sdB x S) B σ0 (j * B + b)).st j))) (zI b) y = gm44_14 n (zI j) (zI g) (zI (numS B (x.1 140) ((Qat (x.1 140) (rdB x) (sdB x S) B σ0 (j * B + b)).st j))) (zI (b + 1)) y := by
        rw [gm44_14.eq_2, (y1.cat hC).1, if_neg n1, if_pos y2, s101, Option.bind_some, hs_bt _ (by omega), bit, rb, if_pos ib_f, ← zI_succ]
        rfl
      rw [st]
      refine ih (b + 1) n y (by omega) (by omega) ?_ h136
      unfold CO
      rw [show j * B + (b + 1) = j * B + b + 1 from rfl, at', stp_no nk]
      exact ⟨y1, y2, y3⟩
    | true =>
      obtain ⟨z, w, c1, c2, c3, c4, c5⟩ := s46 hC hI hq hj' (by omega) rb y1 h136
      rw [← at'] at c2
      have st : gm44_14 (n + 1) (zI j) (zI g) (zI (numS B (x.1 140) ((Qat (x.1 140) (rdB x) (sdB x S) B σ0 (j * B + b)).st j))) (zI b) y = if b2i w = 0 then gm44_14 n (zI j) (zI g) (zI (numS B (x.1 140) ((Qat (x.1 140) (rdB x) (sdB x S) B σ0 (j * B + b)).st j))) (zI (b + 1)) z else (if zI b = zI g then gm44_14 n (zI j) (zI g) (zI (numS B (x.1 140) ((Qat (x.1 140) (rdB x) (sdB x S) B σ0 (j * B + b)).st j))) (zI (b + 1)) (wI z 130 11 (z.1 130 10 - 1)) else gm44_14 n (zI j) (zI g) (zI (numS B (x.1 140) ((Qat (x.1 140) (rdB x) (sdB x S) B σ0 (j * B + b)).st j))) (zI (b + 1)) z) := by
        rw [gm44_14.eq_2, (y1.cat hC).1, if_neg n1, if_pos y2, s101, Option.bind_some, hs_bt _ (by omega), bit, rb, if_neg ib_t, c1, Option.bind_some, ← zI_succ]
        rfl
      rw [st]
      have goOn : (w = true → ¬ b = g) → ∃ z', gm44_14 n (zI j) (zI g) (zI (numS B (x.1 140) ((Qat (x.1 140) (rdB x) (sdB x S) B σ0 (j * B + b)).st j))) (zI (b + 1)) z = some z' ∧ (CO S B x q σ0 g ((j + 1) * B) z' ∨ CF S B x q σ0 g z') := by
        intro hw
        refine ih (b + 1) n z (by omega) (by omega) ⟨c2, by rw [c5]; exact y2, ?_⟩ c3
        rw [show j * B + (b + 1) = j * B + b + 1 from rfl, at']
        by_cases ok : okA (x.1 140) (rdB x) (sdB x S) (Qat (x.1 140) (rdB x) (sdB x S) B σ0 (j * B + b)) j b
        · exact noG_stp (by omega) (by omega) y3 (hw (c4.mpr ok))
        · rw [stp_no ok]; exact y3
      cases w with
      | false => rw [if_pos ib_f]; exact goOn (fun w => absurd w (by decide))
      | true =>
        rw [if_neg ib_t]
        by_cases hbg : b = g
        · subst hbg
          rw [if_pos rfl]
          have ok := c4.mp rfl
          have e10 := c2.2.1.2.1
          have hn1 : 1 ≤ (Qat (x.1 140) (rdB x) (sdB x S) B σ0 (j * B + b + 1)).n := (Qat_QI (rd := rdB x) (sd := sdB x S) k2 h0 hi5 hσ (j * B + b + 1)).1.1
          rw [e10, show zI (Qat (x.1 140) (rdB x) (sdB x S) B σ0 (j * B + b + 1)).n - 1 = zI ((Qat (x.1 140) (rdB x) (sdB x S) B σ0 (j * B + b + 1)).n - 1) from zI_sub hn1]
          have hn6 := QI_n k2 hi5 (Qat_QI (rd := rdB x) (sd := sdB x S) k2 h0 hi5 hσ (j * B + b + 1))
          generalize hz : wI z 130 11 (zI ((Qat (x.1 140) (rdB x) (sdB x S) B σ0 (j * B + b + 1)).n - 1)) = z'
          have g11 : z'.1 130 11 = zI ((Qat (x.1 140) (rdB x) (sdB x S) B σ0 (j * B + b + 1)).n - 1) := by rw [← hz, wI_j]
          have cq : CQ S B x q (Qat (x.1 140) (rdB x) (sdB x S) B σ0 (j * B + b + 1)) z' := c2.of (fun a m1 m2 => by rw [← hz, wI_ne m1]) (fun k m1 m2 => by rw [← hz, wI_nj m1]) (by rw [← hz]; rfl)
          refine ⟨z', ?_, Or.inr ⟨j * B + b + 1, cq, g11, ?_⟩⟩
          · obtain ⟨n, rfl⟩ : ∃ m, n = m + 1 := ⟨n - 1, by omega⟩
            rw [gm44_14.eq_2, g11, if_neg (zI_ne_m1 (by omega)), ite_self]
          · rw [at']
            exact Fnd_stp (by omega) y3 ok
        · rw [if_neg (by rw [zI_inj (by omega) (by omega)]; exact hbg)]
          exact goOn (fun _ => hbg)
theorem s44 (hC : ICat S B x) (h0 : 0 < B) (hσ : vSt B (x.1 140) σ0) (hq : q < 2147483648) {g : Nat} (hg : g < B) {j : Nat} (hj : j < (Qat (x.1 140) (rdB x) (sdB x S) B σ0 (j * B)).n) {y : Hs} (hy : CO S B x q σ0 g (j * B) y) :
    ∃ z, gm44 (zI j) (zI g) y = some z ∧ (CO S B x q σ0 g ((j + 1) * B) z ∨ CF S B x q σ0 g z) := by
  obtain ⟨⟨k1, k2⟩, _, ⟨w3, w4, w5, w56, w57⟩, hLH, hbt, hit, hcd, hcl⟩ := id hC
  have hi5 : ∀ b, b < B → aIn (x.1 140 b) 5 = true := fun b hb => aIn_up (hit b hb) k1
  have hI := Qat_QI (rd := rdB x) (sd := sdB x S) k2 h0 hi5 hσ (j * B)
  have hn6 := QI_n k2 hi5 hI
  obtain ⟨y1, y2, y3⟩ := hy
  obtain ⟨z, z1, z2, z3, z4⟩ := s45 k2 hi5 (hI.2.1 j hj) (y1.2.2.2.2.1 j hj) (y1.cat hC)
  have cq := y1.of (z := z) (fun a _ m2 => z2 a m2) (fun k _ _ => by rw [z2 130 (by decide)]) z3
  obtain ⟨v, v1, v2⟩ := s44_14 hC h0 hσ hq hg hj B 0 FU z (by omega) (by unfold FU; omega) ⟨cq, by rw [z2 130 (by decide)]; exact y2, y3⟩ z4
  rw [← zI_0] at v1
  refine ⟨v, ?_, v2⟩
  unfold gm44
  rw [aIn_t (show j < 6480 by omega) (by omega), cond_true, xi_zI (by omega), z1, Option.bind_some]
  exact v1
def CE (S B : Nat) (x : Hs) (q : Nat) (σ0 : Nat → Int32) (g : Nat) (y : Hs) : Prop := ∃ j, CO S B x q σ0 g (j * B) y ∧ (Qat (x.1 140) (rdB x) (sdB x S) B σ0 (j * B)).n ≤ j
theorem s38_F (hC : ICat S B x) (h0 : 0 < B) (hσ : vSt B (x.1 140) σ0) {g : Nat} {y : Hs} (hy : CF S B x q σ0 g y) (n : Nat) (a j : Int32) : gm38_120 (n + 1) a j y = gm38_158 y := by
  obtain ⟨⟨k1, k2⟩, _, ⟨w3, w4, w5, w56, w57⟩, hLH, hbt, hit, hcd, hcl⟩ := id hC
  have hi5 : ∀ b, b < B → aIn (x.1 140 b) 5 = true := fun b hb => aIn_up (hit b hb) k1
  obtain ⟨t, y1, y2, y3⟩ := hy
  have hn6 := QI_n k2 hi5 (Qat_QI (rd := rdB x) (sd := sdB x S) k2 h0 hi5 hσ t)
  rw [gm38_120.eq_2, y2, if_neg (zI_ne_m1 (by omega)), ite_self, ite_self]
theorem s38_120 (hC : ICat S B x) (h0 : 0 < B) (hσ : vSt B (x.1 140) σ0) (hq : q < 2147483648) {g : Nat} (hg : g < B) :
    ∀ d j n y, j + d = 6480 → d + 1 < n → CO S B x q σ0 g (j * B) y → ∃ z, gm38_120 n (zI g) (zI j) y = gm38_158 z ∧ (CE S B x q σ0 g z ∨ CF S B x q σ0 g z) := by
  obtain ⟨⟨k1, k2⟩, _, ⟨w3, w4, w5, w56, w57⟩, hLH, hbt, hit, hcd, hcl⟩ := id hC
  have hi5 : ∀ b, b < B → aIn (x.1 140 b) 5 = true := fun b hb => aIn_up (hit b hb) k1
  intro d
  induction d with
  | zero =>
    intro j n y hj hn hy
    obtain ⟨n, rfl⟩ : ∃ m, n = m + 1 := ⟨n - 1, by omega⟩
    have hn6 := QI_n k2 hi5 (Qat_QI (rd := rdB x) (sd := sdB x S) k2 h0 hi5 hσ (j * B))
    refine ⟨y, ?_, Or.inl ⟨j, hy, by omega⟩⟩
    rw [gm38_120.eq_2, if_pos (by rw [show (6480 : Int32) = zI 6480 from rfl, zI_ge (by omega) (by omega)]; omega)]
  | succ d ih =>
    intro j n y hj hn hy
    obtain ⟨n, rfl⟩ : ∃ m, n = m + 1 := ⟨n - 1, by omega⟩
    have hn6 := QI_n k2 hi5 (Qat_QI (rd := rdB x) (sd := sdB x S) k2 h0 hi5 hσ (j * B))
    have n1 : ¬ zI j ≥ 6480 := by rw [show (6480 : Int32) = zI 6480 from rfl, zI_ge (by omega) (by omega)]; omega
    by_cases w : (Qat (x.1 140) (rdB x) (sdB x S) B σ0 (j * B)).n ≤ j
    · refine ⟨y, ?_, Or.inl ⟨j, hy, w⟩⟩
      rw [gm38_120.eq_2, if_neg n1, hy.1.2.1.2.1, if_pos (by rw [zI_ge (by omega) (by omega)]; omega)]
    · obtain ⟨z, z1, z2⟩ := s44 hC h0 hσ hq hg (by omega) hy
      have st : gm38_120 (n + 1) (zI g) (zI j) y = gm38_120 n (zI g) (zI (j + 1)) z := by
        rw [gm38_120.eq_2, if_neg n1, hy.1.2.1.2.1, if_neg (by rw [zI_ge (by omega) (by omega)]; omega), if_pos hy.2.1, z1, Option.bind_some, zI_succ]
      rw [st]
      rcases z2 with z2 | z2
      · exact ih (j + 1) n z (by omega) (by omega) z2
      · obtain ⟨n, rfl⟩ : ∃ m, n = m + 1 := ⟨n - 1, by omega⟩
        exact ⟨z, s38_F hC h0 hσ z2 n _ _, Or.inr z2⟩
end LOO
