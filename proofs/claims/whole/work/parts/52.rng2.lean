/-! Beginning a roll-out -/
theorem outM_cg {x y : Hs} (h1 : y.1 147 = x.1 147) (h2 : y.1 148 = x.1 148) (a : Int32) : outM y a = outM x a := by
  unfold outM
  rw [h1, h2]
theorem op_begin {c : Nat} {x : Hs} (h : Inv c x) (a1 : Int32) : OpOK c x (gm189 a1 x) (gm134 a1) o64 := by
  have h0 := h
  obtain ⟨S, B, Z, F, U, P, I, now, hN, hC, hR, hZ, hB, hF, hD, hP⟩ := h
  obtain ⟨⟨k1, k2⟩, ⟨e1, e2, e3, e4⟩, ⟨w3, w4, w5, w56, w57⟩, hLH, hbt, hit, hcd, hcl⟩ := id hC
  obtain ⟨r1, r2⟩ := id hR
  have t1 := s118 (B := B) a1 e4 k2
  cases h1 : aIn a1 B with
  | false =>
    refine OpOK.no h0 (k := 1) (b := 0) (by decide) ?_ ?_
    · simp only [gm189, gm66_53, gm66_52, gm66, s95_f hC h1, t1, h1, n10, n20, n21, Option.bind_some, b2i_t, b2i_f, i10, ↓reduceIte, cond_true, cond_false, kb0, kb1, kb2, s92_1, s92_0, s93_1, s93_0, s113_0, s113_1, s113_2, s113_3, aBit_b, aI01, xi0, xi1]
    · simp only [gm134_52, gm134_47, gm134, s95_f hC h1, t1, h1, n10, n20, n21, Option.bind_some, b2i_t, b2i_f, i10, ↓reduceIte, cond_true, cond_false, kb0, kb1, kb2, s92_1, s92_0, s93_1, s93_0, s113_0, s113_1, s113_2, s113_3, aBit_b, aI01, xi0, xi1]
  | true =>
  rw [h1] at t1
  have F1 := s95_t hC h1
  have i24 := aIn_up h1 k2
  obtain ⟨t, ht, et⟩ := aIn_ex (hit _ (aIn_lt h1))
  have it5 : aIn (zI t) 5 = true := aIn_t (by omega) (by omega)
  have xt : xi (zI t) = t := xi_zI (by omega)
  obtain ⟨b1, b2, b3, b4, b5⟩ := r2 t (by omega)
  by_cases g0 : x.1 155 t = -1
  case neg =>
    refine OpOK.no h0 (k := 2) (b := 0) (by decide) ?_ ?_
    · simp only [gm189, gm66_53, gm66_52, gm66, F1, t1, i24, w4, et, it5, xt, b2, if_neg g0, n10, n20, n21, Option.bind_some, b2i_t, b2i_f, i10, ↓reduceIte, cond_true, cond_false, kb0, kb1, kb2, s92_1, s92_0, s93_1, s93_0, s113_0, s113_1, s113_2, s113_3, aBit_b, aI01, xi0, xi1]
    · simp only [gm134_52, gm134_47, gm134, F1, t1, i24, w4, et, it5, xt, b2, if_neg g0, n10, n20, n21, Option.bind_some, b2i_t, b2i_f, i10, ↓reduceIte, cond_true, cond_false, kb0, kb1, kb2, s92_1, s92_0, s93_1, s93_0, s113_0, s113_1, s113_2, s113_3, aBit_b, aI01, xi0, xi1]
  case pos =>
  have u2 := s102 hC hR h1
  have v2 := s124 a1 x
  have nc : anyF (fun k => decide (x.1 148 k = a1)) 20 0 = false := by
    rw [← Bool.not_eq_true, anyF_0]
    rintro ⟨k, hk, w⟩
    have w := of_decide_eq_true w
    have hq := r1 (k / 5) (by omega) (k % 5) (by omega)
    rw [show 5 * (k / 5) + k % 5 = k by omega] at hq
    have hs : k % 5 = t := vB_s (by have := hq.2.2.1.2.1; rw [w] at this; exact this) h1 et (by omega) (by omega)
    have := b4 g0 (k / 5) (by omega)
    rw [← hs, show 5 * (k / 5) + k % 5 = k by omega, w] at this
    exact aIn_ne h1 this
  have om : outM x a1 = anyF (fun k => decide (x.1 147 k = a1)) 20 0 := by
    unfold outM
    rw [anyF_or, nc, Bool.or_false]
  rw [om] at v2
  cases q : anyF (fun k => decide (x.1 147 k = a1)) 20 0 with
  | true =>
    rw [q] at u2 v2
    refine OpOK.no h0 (k := 2) (b := 0) (by decide) ?_ ?_
    · simp only [gm189, gm66_53, gm66_52, gm66, F1, t1, i24, w4, et, it5, xt, b2, if_pos g0, u2, v2, n10, n20, n21, Option.bind_some, b2i_t, b2i_f, i10, ↓reduceIte, cond_true, cond_false, kb0, kb1, kb2, s92_1, s92_0, s93_1, s93_0, s113_0, s113_1, s113_2, s113_3, aBit_b, aI01, xi0, xi1]
    · simp only [gm134_52, gm134_47, gm134, F1, t1, i24, w4, et, it5, xt, b2, if_pos g0, u2, v2, n10, n20, n21, Option.bind_some, b2i_t, b2i_f, i10, ↓reduceIte, cond_true, cond_false, kb0, kb1, kb2, s92_1, s92_0, s93_1, s93_0, s113_0, s113_1, s113_2, s113_3, aBit_b, aI01, xi0, xi1]
  | false =>
  rw [q] at u2 v2
  by_cases g1 : x.1 145 (xi a1) = 0
  case neg =>
    refine OpOK.no h0 (k := 2) (b := 0) (by decide) ?_ ?_
    · simp only [gm189, gm66_53, gm66_52, gm66, F1, t1, i24, w4, w57, et, it5, xt, b2, if_pos g0, u2, v2, if_neg g1, n10, n20, n21, Option.bind_some, b2i_t, b2i_f, i10, ↓reduceIte, cond_true, cond_false, kb0, kb1, kb2, s92_1, s92_0, s93_1, s93_0, s113_0, s113_1, s113_2, s113_3, aBit_b, aI01, xi0, xi1]
    · simp only [gm134_52, gm134_47, gm134, F1, t1, i24, w4, w57, et, it5, xt, b2, if_pos g0, u2, v2, if_neg g1, n10, n20, n21, Option.bind_some, b2i_t, b2i_f, i10, ↓reduceIte, cond_true, cond_false, kb0, kb1, kb2, s92_1, s92_0, s93_1, s93_0, s113_0, s113_1, s113_2, s113_3, aBit_b, aI01, xi0, xi1]
  case pos =>
  have hA : gm189 a1 x = some ((0 : Int32), wJ (wI (wI (wI x (93 + t) 0 a1) (93 + t) 1 0) (93 + t) 3 0) 187 0 (zI t).toInt64) := by
    simp only [gm189, gm66_53, gm66_52, gm66, gm57, F1, i24, w4, w57, et, it5, xt, b2, if_pos g0, u2, if_pos g1, n10, n20, n21, Option.bind_some, b2i_t, b2i_f, i10, ↓reduceIte, cond_true, cond_false, kb0, kb1, kb2, s92_1, s92_0, s93_1, s93_0, s113_0, s113_1, s113_2, s113_3, aBit_b, aI01, xi0, xi1]
  have hM : gm134 a1 (wJ (wI (wI (wI x (93 + t) 0 a1) (93 + t) 1 0) (93 + t) 3 0) 187 0 (zI t).toInt64) = some (zI t, wI (wI (wI (wI (wJ (wI (wI (wI x (93 + t) 0 a1) (93 + t) 1 0) (93 + t) 3 0) 187 0 (zI t).toInt64) 138 57 0) 155 t a1) 156 t 0) 157 t 0) := by
    have c0 : ∀ a, 138 ≤ a → (wJ (wI (wI (wI x (93 + t) 0 a1) (93 + t) 1 0) (93 + t) 3 0) 187 0 (zI t).toInt64).1 a = x.1 a := fun a ha => by rw [wJ_I, wI_ne (by omega), wI_ne (by omega), wI_ne (by omega)]
    generalize wJ (wI (wI (wI x (93 + t) 0 a1) (93 + t) 1 0) (93 + t) 3 0) 187 0 (zI t).toInt64 = y at c0
    have t1 := s118 (x := y) (B := B) a1 (by rw [c0 138 (by decide)]; exact e4) k2
    rw [h1] at t1
    have v2 := s124 a1 y
    rw [outM_cg (x := x) (c0 147 (by decide)) (c0 148 (by decide)), om, q] at v2
    have z1 : (wI y 138 57 0).1 140 (xi a1) = zI t := by rw [wI_ne (by decide), c0 140 (by decide)]; exact et
    have z2 : (wI (wI y 138 57 0) 155 t a1).1 140 (xi a1) = zI t := z1
    have z3 : (wI (wI (wI y 138 57 0) 155 t a1) 156 t 0).1 140 (xi a1) = zI t := z1
    have z4 : (wI (wI (wI (wI y 138 57 0) 155 t a1) 156 t 0) 157 t 0).1 140 (xi a1) = zI t := z1
    simp only [gm134_52, gm134_47, gm134, t1, i24, c0 140 (by decide), c0 155 (by decide), c0 145 (by decide), et, it5, xt, if_pos g0, v2, if_pos g1, z1, z2, z3, z4, n10, n20, n21, Option.bind_some, b2i_t, b2i_f, i10, ↓reduceIte, cond_true, cond_false, kb0, kb1, kb2, s92_1, s92_0, s93_1, s93_0, s113_0, s113_1, s113_2, s113_3, aBit_b, aI01, xi0, xi1]
  have ot : own (93 + t) = 2 := by
    unfold own
    rw [if_neg (by omega), if_neg (by omega), if_neg (by omega), if_pos (by omega)]
  have e : SB 2 x (wI (wI (wI (wI (wJ (wI (wI (wI x (93 + t) 0 a1) (93 + t) 1 0) (93 + t) 3 0) 187 0 (zI t).toInt64) 138 57 0) 155 t a1) 156 t 0) 157 t 0) := by
    refine SB.I ?_ (by decide) (Or.inl rfl)
    refine SB.I ?_ (by decide) (Or.inl rfl)
    refine SB.I ?_ (by decide) (Or.inl rfl)
    refine SB.M ?_ (Or.inr rfl)
    refine SB.J ?_ (Or.inr rfl)
    refine SB.I ?_ (by omega) (Or.inl ot)
    refine SB.I ?_ (by omega) (Or.inl ot)
    refine SB.I ?_ (by omega) (Or.inl ot)
    exact SB.rf _ _
  have cc : ∀ a, ¬ a = 93 + t → ¬ a = 138 → ¬ a = 155 → ¬ a = 156 → ¬ a = 157 → (wI (wI (wI (wI (wJ (wI (wI (wI x (93 + t) 0 a1) (93 + t) 1 0) (93 + t) 3 0) 187 0 (zI t).toInt64) 138 57 0) 155 t a1) 156 t 0) 157 t 0).1 a = x.1 a := fun a m1 m2 m3 m4 m5 => by rw [wI_ne m5, wI_ne m4, wI_ne m3, wI_ne m2, wJ_I, wI_ne m1, wI_ne m1, wI_ne m1]
  have ct : ∀ k, (wI (wI (wI (wI (wJ (wI (wI (wI x (93 + t) 0 a1) (93 + t) 1 0) (93 + t) 3 0) 187 0 (zI t).toInt64) 138 57 0) 155 t a1) 156 t 0) 157 t 0).1 (93 + t) k = if k = 3 then 0 else if k = 1 then 0 else if k = 0 then a1 else x.1 (93 + t) k := fun k => by rw [wI_ne (by omega), wI_ne (by omega), wI_ne (by omega), wI_ne (by omega), wJ_I, wI_at, wI_at, wI_at]
  have c155 : ∀ k, (wI (wI (wI (wI (wJ (wI (wI (wI x (93 + t) 0 a1) (93 + t) 1 0) (93 + t) 3 0) 187 0 (zI t).toInt64) 138 57 0) 155 t a1) 156 t 0) 157 t 0).1 155 k = if k = t then a1 else x.1 155 k := fun k => by rw [wI_ne (by omega), wI_ne (by omega), wI_at, wI_ne (by omega), wJ_I, wI_ne (by omega), wI_ne (by omega), wI_ne (by omega)]
  have c156 : ∀ k, (wI (wI (wI (wI (wJ (wI (wI (wI x (93 + t) 0 a1) (93 + t) 1 0) (93 + t) 3 0) 187 0 (zI t).toInt64) 138 57 0) 155 t a1) 156 t 0) 157 t 0).1 156 k = if k = t then 0 else x.1 156 k := fun k => by rw [wI_ne (by omega), wI_at, wI_ne (by omega), wI_ne (by omega), wJ_I, wI_ne (by omega), wI_ne (by omega), wI_ne (by omega)]
  have c157 : ∀ k, (wI (wI (wI (wI (wJ (wI (wI (wI x (93 + t) 0 a1) (93 + t) 1 0) (93 + t) 3 0) 187 0 (zI t).toInt64) 138 57 0) 155 t a1) 156 t 0) 157 t 0).1 157 k = if k = t then 0 else x.1 157 k := fun k => by rw [wI_at, wI_ne (by omega), wI_ne (by omega), wI_ne (by omega), wJ_I, wI_ne (by omega), wI_ne (by omega), wI_ne (by omega)]
  refine ⟨0, _, _, _, hA, hM, ?_, fun _ => rfl, ?_, ?_, ?_⟩
  · rw [wI_ne (by decide), wI_ne (by decide), wI_ne (by decide), wI_j]
  · rw [wJ_I, wI_ne (by omega), wI_ne (by omega), wI_ne (by omega)]
  · exact cc 0 (by omega) (by decide) (by decide) (by decide) (by decide)
  refine ⟨S, B, Z, F, U, P, I, now, hN.fr e (by decide), hC.fr e (by decide), ?_, hZ.fr e (by decide), hB.fr e (by decide), hF.fr e (by decide), hD.fr e (by decide), hP.fr e (by decide)⟩
  have cj : ∀ a, (wI (wI (wI (wI (wJ (wI (wI (wI x (93 + t) 0 a1) (93 + t) 1 0) (93 + t) 3 0) 187 0 (zI t).toInt64) 138 57 0) 155 t a1) 156 t 0) 157 t 0).2.1 a = x.2.1 a ∨ a = 187 := by
    intro a
    by_cases ha : a = 187
    · exact Or.inr ha
    · exact Or.inl (wJ_ne ha)
  generalize wI (wI (wI (wI (wJ (wI (wI (wI x (93 + t) 0 a1) (93 + t) 1 0) (93 + t) 3 0) 187 0 (zI t).toInt64) 138 57 0) 155 t a1) 156 t 0) 157 t 0 = y at e cc ct c155 c156 c157 cj
  have q : ∀ a, ¬ a = 93 + t → (a < 138 ∨ 139 ≤ a) → (a < 155 ∨ 158 ≤ a) → y.1 a = x.1 a := fun a m1 m2 m3 => cc a m1 (by omega) (by omega) (by omega) (by omega)
  have hl : ∀ r, r < 4 → ∀ k, k < 8 → y.2.1 (60 + 8 * r + k) = x.2.1 (60 + 8 * r + k) := fun r hr k hk => (cj _).resolve_right (by omega)
  rw [q 140 (by omega) (by decide) (by decide)]
  refine ⟨fun r hr s hs => ?_, fun s hs => ?_⟩
  · rw [q (60 + 8 * r + 1) (by omega) (by omega) (by omega), q (60 + 8 * r + 2) (by omega) (by omega) (by omega), q (60 + 8 * r + 3) (by omega) (by omega) (by omega), hl r hr 4 (by omega), hl r hr 5 (by omega), hl r hr 6 (by omega), hl r hr 7 (by omega), q 147 (by omega) (by decide) (by decide), q 148 (by omega) (by decide) (by decide), q 149 (by omega) (by decide) (by decide), q 151 (by omega) (by decide) (by decide), q 152 (by omega) (by decide) (by decide), q 153 (by omega) (by decide) (by decide), q 154 (by omega) (by decide) (by decide)]
    obtain ⟨a1, a2, a3, d1, d2, d3, d4⟩ := r1 r hr s hs
    exact ⟨a1, a2, a3, d1.up (by omega), d2.up (by omega), d3.up (by omega), d4.up (by omega)⟩
  · rw [q 148 (by omega) (by decide) (by decide), q 150 (by omega) (by decide) (by decide), c155, c156, c157]
    by_cases hst : s = t
    · subst hst
      have hs1 : ∀ (a b : Int32), (if s = s then a else b) = a := fun a b => if_pos rfl
      rw [ct, ct, ct, ct, hs1, hs1, hs1]
      have n1 := aIn_ne h1
      refine ⟨Or.inr ⟨h1, et⟩, rfl, Or.inl rfl, fun w => absurd w n1, fun _ => ⟨rfl, rfl, rfl, fun r hr => Or.inl (b4 g0 r hr), fun _ w => absurd rfl w⟩⟩
    · rw [q (93 + s) (by omega) (by omega) (by omega), if_neg hst, if_neg hst, if_neg hst]
      exact r2 s hs
