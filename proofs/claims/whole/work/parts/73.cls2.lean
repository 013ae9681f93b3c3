/-! The class's search: one change tried -/
theorem bits_up {B : Nat} {its σ : Nat → Int32} (hB : B ≤ 24) {v w : Int32} {b t : Nat} (hb : b < B) (ht : t < 5) (et : its b = zI t) (hσ : vSt B its σ) (hv : BitsOf B its v σ) (hw : ∀ k, k < 32 → bt w k = ((bt v k && !(decide (σ t = zI k))) || decide (k = b))) : BitsOf B its w (upA its σ b) := by
  intro k hk
  have hx : xi (its b) = t := by rw [et, xi_zI (by omega)]
  have hv := hv k hk
  rw [hw k hk, Bool.or_eq_true, Bool.and_eq_true, Bool.not_eq_true', decide_eq_false_iff_not, decide_eq_true_eq, hv]
  unfold upA
  rw [hx]
  by_cases q : k = b
  · subst q
    rw [hx, if_pos rfl]
    exact ⟨fun _ => ⟨hb, rfl⟩, fun _ => Or.inr rfl⟩
  · by_cases e : xi (its k) = t
    · rw [if_pos e, e, zI_inj (by omega) (by omega)]
      constructor
      · rintro (⟨⟨_, a⟩, c⟩ | a)
        · exact absurd a c
        · exact absurd a q
      · rintro ⟨_, a⟩
        exact absurd a.symm q
    · rw [if_neg e]
      constructor
      · rintro (⟨a, _⟩ | a)
        · exact a
        · exact absurd a q
      · intro a
        exact Or.inl ⟨a, fun c => e (by
          rcases hσ.1 t ht with w | ⟨_, w⟩
          · rw [w] at c
            exact absurd c.symm (zI_ne_m1 (by omega))
          · rw [c, xi_zI (by omega)] at w
            rw [w, xi_zI (by omega)])⟩
def rdB (x : Hs) (b : Nat) : Bool := rdyM x (zI b) && decide (x.1 145 b = 0)
def sdB (x : Hs) (S : Nat) (τ : Nat → Int32) : Bool := soundM x τ (fun _ => -1) S
def CQ (S B : Nat) (x : Hs) (q : Nat) (Q : Qu) (y : Hs) : Prop :=
  SB 8 x y ∧ (y.1 130 8 = zI q ∧ y.1 130 10 = zI Q.n ∧ ∀ j, j < 5 → y.1 137 j = -1) ∧
  (∀ b, b < B → y.1 131 b = zI (plA (x.1 140) b * wtB (x.1 140) B (xi (x.1 140 b)))) ∧ (∀ k, k < 32 → bt (y.1 130 9) k = (decide (k < B) && rdB x k)) ∧
  (∀ k, k < Q.n → BitsOf B (x.1 140) (y.1 133 k) (Q.st k)) ∧ (y.1 134 0 = -1 ∧ ∀ k, 0 < k → k < Q.n → y.1 134 k = zI (Q.fr k) ∧ y.1 135 k = zI (Q.by_ k)) ∧
  (∀ k, k < Q.n → y.1 132 (numS B (x.1 140) (Q.st k)) = zI q) ∧ (∀ τ, vSt B (x.1 140) τ → y.1 132 (numS B (x.1 140) τ) = zI q → (∃ k, k < Q.n ∧ Q.st k = τ) ∨ sdB x S τ = false) ∧
  ∀ m, m < 6480 → (y.1 132 m).toInt ≤ q
theorem CQ.of {S B : Nat} {x : Hs} {q : Nat} {Q : Qu} {y z : Hs} (h : CQ S B x q Q y) (hz : ∀ a, ¬ a = 130 → ¬ a = 136 → z.1 a = y.1 a) (h3 : ∀ k, ¬ k = 11 → ¬ k = 12 → z.1 130 k = y.1 130 k) (hz2 : z.2 = y.2) : CQ S B x q Q z := by
  obtain ⟨h1, h2, h3', h4, h5, h6, h7, h8, h9⟩ := h
  have e : SB 8 y z := ⟨fun a a1 a2 a3 => ⟨hz a (fun w => a2 (by rw [w]; rfl)) (fun w => a2 (by rw [w]; rfl)), by rw [hz2]⟩, fun j _ _ => by rw [hz 138 (by decide) (by decide)]⟩
  unfold CQ
  rw [h3 8 (by decide) (by decide), h3 10 (by decide) (by decide), h3 9 (by decide) (by decide), hz 137 (by decide) (by decide), hz 131 (by decide) (by decide), hz 133 (by decide) (by decide), hz 134 (by decide) (by decide), hz 135 (by decide) (by decide), hz 132 (by decide) (by decide)]
  exact ⟨h1.to e, h2, h3', h4, h5, h6, h7, h8, h9⟩
section TRY
variable {S B q : Nat} {x : Hs} {Q : Qu} {σ0 : Nat → Int32}
theorem CQ.cat (hC : ICat S B x) {y : Hs} (h : CQ S B x q Q y) : CatC B (x.1 140) y := by
  refine ⟨?_, ?_, h.2.2.1⟩
  · rw [h.1.c 2 (by decide) (by decide) (by decide)]; exact hC.2.1.2.2.1
  · rw [h.1.c 4 (by decide) (by decide) (by decide)]; exact hC.2.2.1.2.1
theorem s46_45 (hC : ICat S B x) (hI : QI (x.1 140) B σ0 Q) (hq : q < 2147483648) {j b t : Nat} (hj : j < Q.n) (hb : b < B) (ht : t < 5) (et : x.1 140 b = zI t) (hrd : rdB x b = true) {y : Hs} (hy : CQ S B x q Q y) (h136 : ∀ s, s < 5 → y.1 136 s = Q.st j s) {s0 s1 : Int32} (hs : s0 - s1 = zI (numS B (x.1 140) (upA (x.1 140) (Q.st j) b))) :
    ∃ z w, gm46_45 (zI j) (zI b) (zI t) (Q.st j t) s0 s1 y = some (b2i w, z) ∧ CQ S B x q (stp (x.1 140) (rdB x) (sdB x S) Q j b) z ∧ (∀ s, s < 5 → z.1 136 s = Q.st j s) ∧ (w = true ↔ okA (x.1 140) (rdB x) (sdB x S) Q j b) ∧ z.1 130 11 = y.1 130 11 := by
  have hy0 := hy
  obtain ⟨⟨k1, k2⟩, _, ⟨w3, w4, w5, w56, w57⟩, hLH, hbt, hit, hcd, hcl⟩ := id hC
  have hi5 : ∀ b, b < B → aIn (x.1 140 b) 5 = true := fun b hb => aIn_up (hit b hb) k1
  have hvj := hI.2.1 j hj
  have hvu : vSt B (x.1 140) (upA (x.1 140) (Q.st j) b) := vSt_up k2 hvj hb (hi5 b hb)
  have hN := num_lt k2 hi5 hvu
  have hQ1 : okA (x.1 140) (rdB x) (sdB x S) Q j b → Q.n < 6480 := by
    intro w
    have a1 : QI (x.1 140) B σ0 (stp (x.1 140) (rdB x) (sdB x S) Q j b) := QI_stp k2 hi5 hI hb
    have a2 := QI_n k2 hi5 a1
    unfold stp at a2
    rw [if_pos w] at a2
    exact a2
  have xt : xi (x.1 140 b) = t := by rw [et, xi_zI (by omega)]
  generalize hNe : numS B (x.1 140) (upA (x.1 140) (Q.st j) b) = N at *
  obtain ⟨y1, ⟨y8, y10, y137⟩, y131, y9, y133, ⟨y134, yfb⟩, ym1, ym2, ymq⟩ := hy
  have no : ¬ okA (x.1 140) (rdB x) (sdB x S) Q j b → stp (x.1 140) (rdB x) (sdB x S) Q j b = Q := fun w => by unfold stp; rw [if_neg w]
  unfold gm46_45
  by_cases g1 : Q.st j t = zI b
  · have nk : ¬ okA (x.1 140) (rdB x) (sdB x S) Q j b := fun w => w.2.2.1 (by rw [xt]; exact g1)
    rw [if_pos g1]
    refine ⟨y, false, rfl, by rw [no nk]; exact hy0, h136, ⟨fun w => absurd w (by decide), fun w => absurd w nk⟩, rfl⟩
  have l1 : ¬ zI N < 0 := by rw [show (0 : Int32) = zI 0 from rfl, zI_lt (by omega) (by omega)]; omega
  have l2 : ¬ zI N ≥ 6480 := by rw [show (6480 : Int32) = zI 6480 from rfl, zI_ge (by omega) (by omega)]; omega
  have iN : aIn (zI N) 6480 = true := aIn_t hN (by omega)
  rw [if_neg g1, hs, if_neg l1, if_neg l2, iN, cond_true, cond_true, xi_zI (show N < 2147483648 by omega), y8]
  by_cases g2 : y.1 132 N = zI q
  · have nk : ¬ okA (x.1 140) (rdB x) (sdB x S) Q j b := fun w => by
      rcases ym2 _ hvu (by rw [hNe]; exact g2) with ⟨k, a1, a2⟩ | a
      · exact w.2.2.2.2 k a1 a2
      · have := w.2.2.2.1
        rw [a] at this
        exact absurd this (by decide)
    rw [if_pos g2]
    refine ⟨y, false, rfl, by rw [no nk]; exact hy0, h136, ⟨fun w => absurd w (by decide), fun w => absurd w nk⟩, rfl⟩
  have i5 : aIn (zI t) 5 = true := aIn_t ht (by omega)
  rw [if_neg g2, i5, cond_true, xi_zI (show t < 2147483648 by omega)]
  have fresh : ∀ k, k < Q.n → ¬ Q.st k = upA (x.1 140) (Q.st j) b := fun k hk e => g2 (by
    have := ym1 k hk
    rw [e, hNe] at this
    exact this)
  generalize hz1 : wI (wI y 132 N (zI q)) 136 t (zI b) = z1
  have z1o : ∀ a, ¬ a = 132 → ¬ a = 136 → z1.1 a = y.1 a := fun a m1 m2 => by rw [← hz1, wI_ne m2, wI_ne m1]
  have z1m : ∀ k, z1.1 132 k = if k = N then zI q else y.1 132 k := fun k => by rw [← hz1, wI_ne (by decide), wI_at]
  have z1r : ∀ s, s < 5 → z1.1 136 s = upA (x.1 140) (Q.st j) b s := fun s hs => by
    rw [← hz1, wI_at, wI_ne (by decide), h136 s hs]
    unfold upA
    rw [xt]
  have z12 : z1.2 = y.2 := by rw [← hz1]; rfl
  have e1 : SB 8 x z1 := by
    rw [← hz1]
    exact (y1.I (by decide) (Or.inl rfl)).I (by decide) (Or.inl rfl)
  have hC1 := hC.fr e1 (by decide)
  have z140 : z1.1 140 = x.1 140 := e1.c 140 (by decide) (by decide) (by decide)
  have snd := s13 hC1 (q1 := 136) (q2 := 137) (fun s hs => by rw [z140, z1r s (by omega)]; exact hvu.1 s (by omega)) (fun s hs => by rw [z1o 137 (by decide) (by decide)]; exact Or.inl (y137 s (by omega)))
  have snd2 : soundM z1 (z1.1 136) (z1.1 137) S = sdB x S (upA (x.1 140) (Q.st j) b) := by
    unfold sdB
    rw [soundM_cg (x := x) (fun a m1 m2 => e1.c a (by omega) (by unfold own; rw [if_neg (by omega), if_neg (by omega), if_neg (by omega), if_neg (by omega), if_neg (by omega), if_neg (by omega), if_neg (by omega), if_neg (by omega), if_neg (by omega), if_neg (by omega), if_pos (by omega)]; decide) (by unfold own; rw [if_neg (by omega), if_neg (by omega), if_neg (by omega), if_neg (by omega), if_neg (by omega), if_neg (by omega), if_neg (by omega), if_neg (by omega), if_neg (by omega), if_neg (by omega), if_pos (by omega)]; decide))]
    exact soundM_fn (fun s hs => z1r s (by omega)) (fun s hs => by rw [z1o 137 (by decide) (by decide)]; exact y137 s (by omega))
  rw [snd2] at snd
  rw [snd, Option.bind_some, cond_true]
  have z2r : ∀ s, s < 5 → (wI z1 136 t (Q.st j t)).1 136 s = Q.st j s := fun s hs => by
    rw [wI_at, z1r s hs]
    unfold upA
    by_cases w : s = t
    · rw [if_pos w, w]
    · rw [if_neg w, xt, if_neg w]
  have z2o : ∀ a, ¬ a = 132 → ¬ a = 136 → (wI z1 136 t (Q.st j t)).1 a = y.1 a := fun a m1 m2 => by rw [wI_ne m2, z1o a m1 m2]
  have z2m : ∀ k, (wI z1 136 t (Q.st j t)).1 132 k = if k = N then zI q else y.1 132 k := fun k => by rw [wI_ne (by decide), z1m]
  have z22 : (wI z1 136 t (Q.st j t)).2 = y.2 := z12
  have e2 : SB 8 x (wI z1 136 t (Q.st j t)) := e1.I (by decide) (Or.inl rfl)
  generalize wI z1 136 t (Q.st j t) = z2 at z2r z2o z2m z22 e2 ⊢
  cases gs : sdB x S (upA (x.1 140) (Q.st j) b) with
  | false =>
    have nk : ¬ okA (x.1 140) (rdB x) (sdB x S) Q j b := fun w => by
      have := w.2.2.2.1
      rw [gs] at this
      exact absurd this (by decide)
    rw [if_pos ib_f, aBit_b, cond_true]
    refine ⟨z2, false, rfl, ?_, z2r, ⟨fun w => absurd w (by decide), fun w => absurd w nk⟩, by rw [z2o 130 (by decide) (by decide)]⟩
    rw [no nk]
    unfold CQ
    rw [z2o 130 (by decide) (by decide), z2o 137 (by decide) (by decide), z2o 131 (by decide) (by decide), z2o 133 (by decide) (by decide), z2o 134 (by decide) (by decide), z2o 135 (by decide) (by decide)]
    refine ⟨e2, ⟨y8, y10, y137⟩, y131, y9, y133, ⟨y134, yfb⟩, fun k hk => ?_, fun τ hτ hm => ?_, fun m hm => ?_⟩
    · rw [z2m]
      by_cases w : numS B (x.1 140) (Q.st k) = N
      · rw [if_pos w]
      · rw [if_neg w]; exact ym1 k hk
    · rw [z2m] at hm
      by_cases w : numS B (x.1 140) τ = N
      · rw [num_inj hτ hvu (by rw [hNe]; exact w)]
        exact Or.inr gs
      · rw [if_neg w] at hm
        exact ym2 τ hτ hm
    · rw [z2m]
      by_cases w : m = N
      · rw [if_pos w, zI_int hq]; exact Int.le_refl _
      · rw [if_neg w]; exact ymq m hm
  | true =>
    have yk : okA (x.1 140) (rdB x) (sdB x S) Q j b := ⟨hj, hrd, by rw [xt]; exact g1, gs, fresh⟩
    have hn := hQ1 yk
    have ej : aIn (zI j) 6480 = true := aIn_t (by omega) (by omega)
    rw [if_neg ib_t]
    have z10 : z2.1 130 10 = zI Q.n := by rw [z2o 130 (by decide) (by decide)]; exact y10
    have key : ∀ v, (∀ k, k < 32 → bt v k = (bt (y.1 133 j) k && !(decide (Q.st j t = zI k)))) → ∃ z w, gm46_161 (zI j) (zI b) (b2i true) v z2 = some (b2i w, z) ∧ CQ S B x q (stp (x.1 140) (rdB x) (sdB x S) Q j b) z ∧ (∀ s, s < 5 → z.1 136 s = Q.st j s) ∧ (w = true ↔ okA (x.1 140) (rdB x) (sdB x S) Q j b) ∧ z.1 130 11 = y.1 130 11 := by
      intro v hv
      obtain ⟨z, c1, c2, c3, c4, c5, c6, c7⟩ := s43 z10 hn (v ||| (1 <<< (zI b &&& 31))) (zI j) (zI b)
      refine ⟨z, true, ?_, ?_, fun s hs => by rw [c6 136 (by decide) (by decide) (by decide) (by decide)]; exact z2r s hs, ⟨fun _ => yk, fun _ => rfl⟩, by rw [c5, if_neg (by decide), z2o 130 (by decide) (by decide)]⟩
      · unfold gm46_161
        rw [c1, Option.bind_some, aBit_b, cond_true]
      have e3 : SB 8 x z := e2.to ⟨fun a a1 a2 a3 => ⟨c6 a (fun w => a2 (by rw [w]; rfl)) (fun w => a2 (by rw [w]; rfl)) (fun w => a2 (by rw [w]; rfl)) (fun w => a2 (by rw [w]; rfl)), by rw [c7]⟩, fun k _ _ => by rw [c6 138 (by decide) (by decide) (by decide) (by decide)]⟩
      unfold stp
      rw [if_pos yk]
      unfold CQ
      have s1 : ∀ k, (Q.add (upA (x.1 140) (Q.st j) b) j b).st k = if k = Q.n then upA (x.1 140) (Q.st j) b else Q.st k := fun _ => rfl
      have s2 : ∀ k, (Q.add (upA (x.1 140) (Q.st j) b) j b).fr k = if k = Q.n then j else Q.fr k := fun _ => rfl
      have s3 : ∀ k, (Q.add (upA (x.1 140) (Q.st j) b) j b).by_ k = if k = Q.n then b else Q.by_ k := fun _ => rfl
      have s4 : (Q.add (upA (x.1 140) (Q.st j) b) j b).n = Q.n + 1 := rfl
      rw [c6 137 (by decide) (by decide) (by decide) (by decide), c6 131 (by decide) (by decide) (by decide) (by decide), c6 132 (by decide) (by decide) (by decide) (by decide), z2o 137 (by decide) (by decide), z2o 131 (by decide) (by decide), c5, c5, c5, if_neg (by decide), if_pos rfl, if_neg (by decide), z2o 130 (by decide) (by decide), s4]
      have hn1 : 1 ≤ Q.n := hI.1.1
      refine ⟨e3, ⟨y8, rfl, y137⟩, y131, y9, fun k hk => ?_, ⟨?_, fun k h0 hk => ?_⟩, fun k hk => ?_, fun τ hτ hm => ?_, fun m hm => ?_⟩
      · rw [c2, s1]
        by_cases w : k = Q.n
        · rw [if_pos w, if_pos w]
          refine bits_up k2 hb ht et hvj (y133 j hj) (fun i hi => ?_)
          rw [bt_or, hv i hi, bt_one31 (by omega)]
        · rw [if_neg w, if_neg w, z2o 133 (by decide) (by decide)]
          exact y133 k (by omega)
      · rw [c3, if_neg (by omega), z2o 134 (by decide) (by decide)]
        exact y134
      · rw [c3, c4, s2, s3]
        by_cases w : k = Q.n
        · rw [if_pos w, if_pos w, if_pos w, if_pos w]
          exact ⟨rfl, rfl⟩
        · rw [if_neg w, if_neg w, if_neg w, if_neg w, z2o 134 (by decide) (by decide), z2o 135 (by decide) (by decide)]
          exact yfb k h0 (by omega)
      · rw [z2m, s1]
        by_cases w : k = Q.n
        · rw [if_pos w, if_pos hNe]
        · rw [if_neg w]
          by_cases w2 : numS B (x.1 140) (Q.st k) = N
          · rw [if_pos w2]
          · rw [if_neg w2]; exact ym1 k (by omega)
      · rw [z2m] at hm
        by_cases w : numS B (x.1 140) τ = N
        · refine Or.inl ⟨Q.n, by omega, ?_⟩
          rw [s1, if_pos rfl]
          exact (num_inj hτ hvu (by rw [hNe]; exact w)).symm
        · rw [if_neg w] at hm
          rcases ym2 τ hτ hm with ⟨k, a1, a2⟩ | a
          · refine Or.inl ⟨k, by omega, ?_⟩
            rw [s1, if_neg (by omega)]
            exact a2
          · exact Or.inr a
      · rw [z2m]
        by_cases w : m = N
        · rw [if_pos w, zI_int hq]; exact Int.le_refl _
        · rw [if_neg w]; exact ymq m hm
    have xj : xi (zI j) = j := xi_zI (by omega)
    by_cases g3 : Q.st j t = -1
    · rw [if_pos g3, ej, cond_true, xj, z2o 133 (by decide) (by decide)]
      refine key _ (fun k hk => ?_)
      rw [decide_eq_false (fun w => by rw [g3] at w; exact zI_ne_m1 (by omega) w.symm)]
      cases bt (y.1 133 j) k <;> rfl
    · obtain ⟨o, ho, eo⟩ := aIn_ex ((hvj.1 t ht).resolve_left g3).1
      rw [if_neg g3, ej, cond_true, xj, z2o 133 (by decide) (by decide)]
      refine key _ (fun k hk => ?_)
      rw [bt_and, eo, bt_not _ hk, bt_one31 (by omega)]
      congr 2
      rw [Bool.eq_iff_iff, decide_eq_true_eq, decide_eq_true_eq, zI_inj (by omega) (by omega)]
      omega
end TRY
