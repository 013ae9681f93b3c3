/-! Duty's calls, on -/
theorem R162_103_1 (a1 : Int32) (a2 : Int32) (a5 : Int32) (x : Hs) : gm162_103 a1 a2 a5 1 x = some (0, wI x 138 57 1) := by
  unfold gm162_103
  rw [s113_1]
  rfl
theorem R162_103_2 (a1 : Int32) (a2 : Int32) (a5 : Int32) (x : Hs) : gm162_103 a1 a2 a5 2 x = some (0, wI x 138 57 2) := by
  unfold gm162_103
  rw [s113_2]
  rfl
theorem R162_103_3 (a1 : Int32) (a2 : Int32) (a5 : Int32) (x : Hs) : gm162_103 a1 a2 a5 3 x = some (0, wI x 138 57 3) := by
  unfold gm162_103
  rw [s113_3]
  rfl
theorem op_alert {c : Nat} {x : Hs} (h : Inv c x) (a1 a2 : Int32) : OpOK c x (gm204 a1 a2 x) (gm162 a1 a2) o64 := by
  have h0 := h
  obtain ⟨S, B, Z, F, U, P, I, now, hN, hC, hR, hZ, hB, hF, hD, hP⟩ := h
  obtain ⟨⟨k1, k2⟩, ⟨c1, c2, c3, c4⟩, -⟩ := id hC
  obtain ⟨⟨p1, p2, p3⟩, ⟨e1, e2, e3, e4⟩, w116, hst, hf, hcl, hdf, hun⟩ := id hD
  have T0 := s117 (x := x) a1 c2 k1
  have t2 := fun y => s114 a2 0 3 y
  have u2 := fun y => s99 a2 0 3 y
  have SM := fun a3 a4 => s162 hD.md a1 a2 a3 a4
  have on := opn_in x p3 a1
  cases h1 : aIn a1 S with
  | false =>
    rw [h1] at T0
    cases h2 : win a2 0 3 <;>
    (
      refine OpOK.no h0 (k := 1) (b := 0) (by decide) ?_ ?_
      · simp only [gm204, gm81_45, gm81, s94_f hC h1, T0, t2, h2, SM, n10, n20, n21, Option.bind_some, b2i_t, b2i_f, i10, ↓reduceIte, cond_true, cond_false, kb0, kb1, kb2, s92_1, s92_0, s93_1, s93_0, s113_0, s113_1, s113_2, s113_3, aBit_b, aI01, xi0, xi1]
      · simp only [gm162_57, gm162_55, gm162_156, R162_103_1, R162_103_2, R162_103_3, gm162_102, gm162_65, gm162, s94_f hC h1, T0, t2, h2, SM, n10, n20, n21, Option.bind_some, b2i_t, b2i_f, i10, ↓reduceIte, cond_true, cond_false, kb0, kb1, kb2, s92_1, s92_0, s93_1, s93_0, s113_0, s113_1, s113_2, s113_3, aBit_b, aI01, xi0, xi1])
  | true =>
  rw [h1] at T0
  have F1 := s94_t hC h1
  cases h2 : win a2 0 3 with
  | false =>
    refine OpOK.no h0 (k := 2) (b := 0) (by decide) ?_ ?_
    · simp only [gm204, gm81_45, gm81, F1, T0, t2, u2, h2, SM, i10, n10, n20, n21, Option.bind_some, b2i_t, b2i_f, i10, ↓reduceIte, cond_true, cond_false, kb0, kb1, kb2, s92_1, s92_0, s93_1, s93_0, s113_0, s113_1, s113_2, s113_3, aBit_b, aI01, xi0, xi1]
    · simp only [gm162_57, gm162_55, gm162_156, R162_103_1, R162_103_2, R162_103_3, gm162_102, gm162_65, gm162, F1, T0, t2, u2, h2, SM, i10, n10, n20, n21, Option.bind_some, b2i_t, b2i_f, i10, ↓reduceIte, cond_true, cond_false, kb0, kb1, kb2, s92_1, s92_0, s93_1, s93_0, s113_0, s113_1, s113_2, s113_3, aBit_b, aI01, xi0, xi1]
  | true =>
  have d18 := s18 hD a1
  obtain ⟨n1, n2, n3⟩ := hN
  rcases on with ⟨g1, g2⟩ | ⟨g1, g2, g3⟩
  · -- a new one
    by_cases g5 : I = 12
    · subst g5
      have g6 : zI 12 ≥ 12 := by decide
      have g7 : zI 12 = 12 := rfl
      refine OpOK.no h0 (k := 3) (b := 0) (by decide) ?_ ?_
      · simp only [gm204, gm81_45, gm81, F1, T0, t2, u2, h2, SM, d18, if_pos g1, e3, e4, if_pos g6, if_pos g7, n10, n20, n21, Option.bind_some, b2i_t, b2i_f, i10, ↓reduceIte, cond_true, cond_false, kb0, kb1, kb2, s92_1, s92_0, s93_1, s93_0, s113_0, s113_1, s113_2, s113_3, aBit_b, aI01, xi0, xi1]
      · simp only [gm162_57, gm162_55, gm162_156, R162_103_1, R162_103_2, R162_103_3, gm162_102, gm162_65, gm162, F1, T0, t2, u2, h2, SM, d18, if_pos g1, e3, e4, if_pos g6, if_pos g7, n10, n20, n21, Option.bind_some, b2i_t, b2i_f, i10, ↓reduceIte, cond_true, cond_false, kb0, kb1, kb2, s92_1, s92_0, s93_1, s93_0, s113_0, s113_1, s113_2, s113_3, aBit_b, aI01, xi0, xi1]
    have g6 : ¬ zI I ≥ 12 := by rw [show (12 : Int32) = zI 12 from rfl, zI_ge (by omega) (by omega)]; omega
    have g7 : ¬ zI I = 12 := by rw [show (12 : Int32) = zI 12 from rfl, zI_inj (by omega) (by omega)]; omega
    have g8 : zI (I + 1) - 1 = zI I := zI_sub (a := I + 1) (b := 1) (by omega)
    have i12 : aIn (zI I) 12 = true := aIn_t (by omega) (by omega)
    have xI : xi (zI I) = I := xi_zI (by omega)
    have tn : now / 480 < 21 := by omega
    have dv : zI now / 480 = zI (now / 480) := zI_div (by omega) (by omega) (b := 480) (by omega)
    have W1 := s17 hD tn
    have wP := dty_in hD tn
    obtain ⟨df4, df5, df6, df7⟩ := hdf I (Nat.le_refl _) (by omega)
    have z0 : ∀ v : Int32, (0 : Int32) ||| v = v := fun v => Int32.zero_or
    have na : zI now + 10 = zI (now + 10) := zI_add now 10
    have r4 : (wI (wI (wI (wI (wI x (118 + I) 0 a1) (118 + I) 1 a2) (118 + I) 2 1) (118 + I) 7 (zI now)) (118 + I) 3 (dty x P (now / 480))).1 (118 + I) 4 = 0 := by
      rw [wI_nj (by decide), wI_nj (by decide), wI_nj (by decide), wI_nj (by decide), wI_nj (by decide)]; exact df4
    have r7 : (wI (wI (wI (wI (wI (wI x (118 + I) 0 a1) (118 + I) 1 a2) (118 + I) 2 1) (118 + I) 7 (zI now)) (118 + I) 3 (dty x P (now / 480))) (118 + I) 4 (1 <<< ((dty x P (now / 480)) &&& 31))).1 (118 + I) 7 = zI now := by
      rw [wI_nj (by decide), wI_nj (by decide), wI_j]
    have r1 : (wI (wI (wI (wI (wI (wI (wI x (118 + I) 0 a1) (118 + I) 1 a2) (118 + I) 2 1) (118 + I) 7 (zI now)) (118 + I) 3 (dty x P (now / 480))) (118 + I) 4 (1 <<< ((dty x P (now / 480)) &&& 31))) (118 + I) 7 (zI (now + 10))).1 115 1 = zI I := by
      rw [wI_ne (by omega), wI_ne (by omega), wI_ne (by omega), wI_ne (by omega), wI_ne (by omega), wI_ne (by omega), wI_ne (by omega)]; exact e3
    have hA : gm204 a1 a2 x = some ((0 : Int32), wJ (wI (wI (wI (wI (wI (wI (wI (wI x (118 + I) 0 a1) (118 + I) 1 a2) (118 + I) 2 1) (118 + I) 7 (zI now)) (118 + I) 3 (dty x P (now / 480))) (118 + I) 4 (1 <<< ((dty x P (now / 480)) &&& 31))) (118 + I) 7 (zI (now + 10))) 115 1 (zI (I + 1))) 187 0 (zI I).toInt64) := by
      simp only [gm204, gm81_45, gm81, gm19, gm33, gm36, F1, u2, h2, d18, if_pos g1, e3, if_neg g6, n2, dv, W1, i12, xI, r4, z0, r7, na, r1, zI_succ, n10, n20, n21, Option.bind_some, b2i_t, b2i_f, i10, ↓reduceIte, cond_true, cond_false, kb0, kb1, kb2, s92_1, s92_0, s93_1, s93_0, s113_0, s113_1, s113_2, s113_3, aBit_b, aI01, xi0, xi1]
    have hM : gm162 a1 a2 (wJ (wI (wI (wI (wI (wI (wI (wI (wI x (118 + I) 0 a1) (118 + I) 1 a2) (118 + I) 2 1) (118 + I) 7 (zI now)) (118 + I) 3 (dty x P (now / 480))) (118 + I) 4 (1 <<< ((dty x P (now / 480)) &&& 31))) (118 + I) 7 (zI (now + 10))) 115 1 (zI (I + 1))) 187 0 (zI I).toInt64) = some (zI I, wI (wI (wI (wI (wI (wI (wI (wI (wI (wJ (wI (wI (wI (wI (wI (wI (wI (wI x (118 + I) 0 a1) (118 + I) 1 a2) (118 + I) 2 1) (118 + I) 7 (zI now)) (118 + I) 3 (dty x P (now / 480))) (118 + I) 4 (1 <<< ((dty x P (now / 480)) &&& 31))) (118 + I) 7 (zI (now + 10))) 115 1 (zI (I + 1))) 187 0 (zI I).toInt64) 138 57 0) 174 I a1) 175 I a2) 176 I 1) 177 I (zI now)) 178 I (1 <<< ((dty x P (now / 480)) &&& 31))) 179 I (dty x P (now / 480))) 180 I (-1)) 138 42 (zI (I + 1))) := by
      have c0 : ∀ a, 138 ≤ a → (wJ (wI (wI (wI (wI (wI (wI (wI (wI x (118 + I) 0 a1) (118 + I) 1 a2) (118 + I) 2 1) (118 + I) 7 (zI now)) (118 + I) 3 (dty x P (now / 480))) (118 + I) 4 (1 <<< ((dty x P (now / 480)) &&& 31))) (118 + I) 7 (zI (now + 10))) 115 1 (zI (I + 1))) 187 0 (zI I).toInt64).1 a = x.1 a := fun a ha => by rw [wJ_I, wI_ne (by omega), wI_ne (by omega), wI_ne (by omega), wI_ne (by omega), wI_ne (by omega), wI_ne (by omega), wI_ne (by omega), wI_ne (by omega)]
      generalize hy : wJ (wI (wI (wI (wI (wI (wI (wI (wI x (118 + I) 0 a1) (118 + I) 1 a2) (118 + I) 2 1) (118 + I) 7 (zI now)) (118 + I) 3 (dty x P (now / 480))) (118 + I) 4 (1 <<< ((dty x P (now / 480)) &&& 31))) (118 + I) 7 (zI (now + 10))) 115 1 (zI (I + 1))) 187 0 (zI I).toInt64 = y at c0
      have T0 := s117 (x := y) (S := S) a1 (by rw [c0 138 (by decide)]; exact c2) k1
      rw [h1] at T0
      have SM := fun a3 a4 => s162 (x := y) (hD.md.of (by rw [c0 138 (by decide)]) (by rw [c0 138 (by decide)]) (c0 181 (by decide)) (c0 174 (by decide))) a1 a2 a3 a4
      rw [opn_cg (x := x) (c0 174 (by decide)) (c0 181 (by decide)), g1] at SM
      have y42 : y.1 138 42 = zI I := by rw [c0 138 (by decide)]; exact e4
      have z42 : (wI y 138 57 0).1 138 42 = zI I := by rw [wI_nj (by decide)]; exact y42
      have z0 : (wI y 138 57 0).1 138 0 = zI now := by rw [wI_nj (by decide), c0 138 (by decide)]; exact n3
      have W2 := s160 (x := wI y 138 57 0) (hD.md.of (by rw [wI_nj (by decide), c0 138 (by decide)]) (by rw [wI_nj (by decide), c0 138 (by decide)]) (by rw [wI_ne (by decide), c0 181 (by decide)]) (by rw [wI_ne (by decide), c0 174 (by decide)])) tn
      rw [dty_cg (x := x) (by rw [wI_ne (by decide), c0 173 (by decide)])] at W2
      have st : gm162 a1 a2 y = gm162_103 a1 a2 (-1) 0 y := by
        simp only [gm162_57, gm162_55, gm162_156, gm162_102, gm162_65, gm162, T0, t2, h2, SM, y42, if_neg g7, n10, n20, n21, Option.bind_some, b2i_t, b2i_f, i10, ↓reduceIte, cond_true, cond_false, kb0, kb1, kb2, s92_1, s92_0, s93_1, s93_0, s113_0, s113_1, s113_2, s113_3, aBit_b, aI01, xi0, xi1]
      rw [st]
      unfold gm162_103
      rw [s113_0, Option.bind_some]
      generalize wI y 138 57 0 = z at z42 z0 W2
      simp only [↓reduceIte, z0, dv, W2, z42, i12, xI, wI_ne, not_false_eq_true, Nat.reduceEqDiff, zI_succ, wI_j, g8, Option.bind_some, cond_true]
    have oi : own (118 + I) = 7 := by
      unfold own
      rw [if_neg (by omega), if_neg (by omega), if_neg (by omega), if_neg (by omega), if_neg (by omega), if_neg (by omega), if_neg (by omega), if_pos (by omega)]
    have e : SB 7 x (wI (wI (wI (wI (wI (wI (wI (wI (wI (wJ (wI (wI (wI (wI (wI (wI (wI (wI x (118 + I) 0 a1) (118 + I) 1 a2) (118 + I) 2 1) (118 + I) 7 (zI now)) (118 + I) 3 (dty x P (now / 480))) (118 + I) 4 (1 <<< ((dty x P (now / 480)) &&& 31))) (118 + I) 7 (zI (now + 10))) 115 1 (zI (I + 1))) 187 0 (zI I).toInt64) 138 57 0) 174 I a1) 175 I a2) 176 I 1) 177 I (zI now)) 178 I (1 <<< ((dty x P (now / 480)) &&& 31))) 179 I (dty x P (now / 480))) 180 I (-1)) 138 42 (zI (I + 1))) := by
      refine SB.M ?_ (Or.inl rfl)
      refine SB.I ?_ (by decide) (Or.inl rfl)
      refine SB.I ?_ (by decide) (Or.inl rfl)
      refine SB.I ?_ (by decide) (Or.inl rfl)
      refine SB.I ?_ (by decide) (Or.inl rfl)
      refine SB.I ?_ (by decide) (Or.inl rfl)
      refine SB.I ?_ (by decide) (Or.inl rfl)
      refine SB.I ?_ (by decide) (Or.inl rfl)
      refine SB.M ?_ (Or.inr rfl)
      refine SB.J ?_ (Or.inr rfl)
      refine SB.I ?_ (by decide) (Or.inl rfl)
      refine SB.I ?_ (by omega) (Or.inl oi)
      refine SB.I ?_ (by omega) (Or.inl oi)
      refine SB.I ?_ (by omega) (Or.inl oi)
      refine SB.I ?_ (by omega) (Or.inl oi)
      refine SB.I ?_ (by omega) (Or.inl oi)
      refine SB.I ?_ (by omega) (Or.inl oi)
      refine SB.I ?_ (by omega) (Or.inl oi)
      exact SB.rf _ _
    have cq : ∀ a, ¬ a = (118 + I) → ¬ a = 115 → ¬ a = 138 → ¬ a = 174 → ¬ a = 175 → ¬ a = 176 → ¬ a = 177 → ¬ a = 178 → ¬ a = 179 → ¬ a = 180 → (wI (wI (wI (wI (wI (wI (wI (wI (wI (wJ (wI (wI (wI (wI (wI (wI (wI (wI x (118 + I) 0 a1) (118 + I) 1 a2) (118 + I) 2 1) (118 + I) 7 (zI now)) (118 + I) 3 (dty x P (now / 480))) (118 + I) 4 (1 <<< ((dty x P (now / 480)) &&& 31))) (118 + I) 7 (zI (now + 10))) 115 1 (zI (I + 1))) 187 0 (zI I).toInt64) 138 57 0) 174 I a1) 175 I a2) 176 I 1) 177 I (zI now)) 178 I (1 <<< ((dty x P (now / 480)) &&& 31))) 179 I (dty x P (now / 480))) 180 I (-1)) 138 42 (zI (I + 1))).1 a = x.1 a := by
      intro a m1 m2 m3 m4 m5 m6 m7 m8 m9 m10
      rw [wI_ne m3, wI_ne m10, wI_ne m9, wI_ne m8, wI_ne m7, wI_ne m6, wI_ne m5, wI_ne m4, wI_ne m3, wJ_I, wI_ne m2, wI_ne m1, wI_ne m1, wI_ne m1, wI_ne m1, wI_ne m1, wI_ne m1, wI_ne m1]
    have cQ : ∀ k, (wI (wI (wI (wI (wI (wI (wI (wI (wI (wJ (wI (wI (wI (wI (wI (wI (wI (wI x (118 + I) 0 a1) (118 + I) 1 a2) (118 + I) 2 1) (118 + I) 7 (zI now)) (118 + I) 3 (dty x P (now / 480))) (118 + I) 4 (1 <<< ((dty x P (now / 480)) &&& 31))) (118 + I) 7 (zI (now + 10))) 115 1 (zI (I + 1))) 187 0 (zI I).toInt64) 138 57 0) 174 I a1) 175 I a2) 176 I 1) 177 I (zI now)) 178 I (1 <<< ((dty x P (now / 480)) &&& 31))) 179 I (dty x P (now / 480))) 180 I (-1)) 138 42 (zI (I + 1))).1 (118 + I) k = if k = 7 then zI (now + 10) else if k = 4 then (1 <<< ((dty x P (now / 480)) &&& 31)) else if k = 3 then (dty x P (now / 480)) else if k = 7 then zI now else if k = 2 then 1 else if k = 1 then a2 else if k = 0 then a1 else x.1 (118 + I) k := by
      intro k
      rw [wI_ne (by omega), wI_ne (by omega), wI_ne (by omega), wI_ne (by omega), wI_ne (by omega), wI_ne (by omega), wI_ne (by omega), wI_ne (by omega), wI_ne (by omega), wJ_I, wI_ne (by omega), wI_at, wI_at, wI_at, wI_at, wI_at, wI_at, wI_at]
    have cA : ∀ a, 139 ≤ a → (wJ (wI (wI (wI (wI (wI (wI (wI (wI x (118 + I) 0 a1) (118 + I) 1 a2) (118 + I) 2 1) (118 + I) 7 (zI now)) (118 + I) 3 (dty x P (now / 480))) (118 + I) 4 (1 <<< ((dty x P (now / 480)) &&& 31))) (118 + I) 7 (zI (now + 10))) 115 1 (zI (I + 1))) 187 0 (zI I).toInt64).1 a = x.1 a := fun a ha => by rw [wJ_I, wI_ne (by omega), wI_ne (by omega), wI_ne (by omega), wI_ne (by omega), wI_ne (by omega), wI_ne (by omega), wI_ne (by omega), wI_ne (by omega)]
    have d115 : ∀ k, (wI (wI (wI (wI (wI (wI (wI (wI (wI (wJ (wI (wI (wI (wI (wI (wI (wI (wI x (118 + I) 0 a1) (118 + I) 1 a2) (118 + I) 2 1) (118 + I) 7 (zI now)) (118 + I) 3 (dty x P (now / 480))) (118 + I) 4 (1 <<< ((dty x P (now / 480)) &&& 31))) (118 + I) 7 (zI (now + 10))) 115 1 (zI (I + 1))) 187 0 (zI I).toInt64) 138 57 0) 174 I a1) 175 I a2) 176 I 1) 177 I (zI now)) 178 I (1 <<< ((dty x P (now / 480)) &&& 31))) 179 I (dty x P (now / 480))) 180 I (-1)) 138 42 (zI (I + 1))).1 115 k = if k = 1 then zI (I + 1) else x.1 115 k := by
      intro k
      rw [wI_ne (by omega), wI_ne (by omega), wI_ne (by omega), wI_ne (by omega), wI_ne (by omega), wI_ne (by omega), wI_ne (by omega), wI_ne (by omega), wI_ne (by omega), wJ_I, wI_at, wI_ne (by omega), wI_ne (by omega), wI_ne (by omega), wI_ne (by omega), wI_ne (by omega), wI_ne (by omega), wI_ne (by omega)]
    have d138 : ∀ k, ¬ k = 57 → (wI (wI (wI (wI (wI (wI (wI (wI (wI (wJ (wI (wI (wI (wI (wI (wI (wI (wI x (118 + I) 0 a1) (118 + I) 1 a2) (118 + I) 2 1) (118 + I) 7 (zI now)) (118 + I) 3 (dty x P (now / 480))) (118 + I) 4 (1 <<< ((dty x P (now / 480)) &&& 31))) (118 + I) 7 (zI (now + 10))) 115 1 (zI (I + 1))) 187 0 (zI I).toInt64) 138 57 0) 174 I a1) 175 I a2) 176 I 1) 177 I (zI now)) 178 I (1 <<< ((dty x P (now / 480)) &&& 31))) 179 I (dty x P (now / 480))) 180 I (-1)) 138 42 (zI (I + 1))).1 138 k = if k = 42 then zI (I + 1) else x.1 138 k := by
      intro k hk
      rw [wI_at, wI_ne (by omega), wI_ne (by omega), wI_ne (by omega), wI_ne (by omega), wI_ne (by omega), wI_ne (by omega), wI_ne (by omega), wI_nj hk, wJ_I, wI_ne (by omega), wI_ne (by omega), wI_ne (by omega), wI_ne (by omega), wI_ne (by omega), wI_ne (by omega), wI_ne (by omega), wI_ne (by omega)]
    have d174 : ∀ k, (wI (wI (wI (wI (wI (wI (wI (wI (wI (wJ (wI (wI (wI (wI (wI (wI (wI (wI x (118 + I) 0 a1) (118 + I) 1 a2) (118 + I) 2 1) (118 + I) 7 (zI now)) (118 + I) 3 (dty x P (now / 480))) (118 + I) 4 (1 <<< ((dty x P (now / 480)) &&& 31))) (118 + I) 7 (zI (now + 10))) 115 1 (zI (I + 1))) 187 0 (zI I).toInt64) 138 57 0) 174 I a1) 175 I a2) 176 I 1) 177 I (zI now)) 178 I (1 <<< ((dty x P (now / 480)) &&& 31))) 179 I (dty x P (now / 480))) 180 I (-1)) 138 42 (zI (I + 1))).1 174 k = if k = I then a1 else x.1 174 k := by
      intro k
      rw [wI_ne (by decide), wI_ne (by decide), wI_ne (by decide), wI_ne (by decide), wI_ne (by decide), wI_ne (by decide), wI_ne (by decide), wI_at, wI_ne (by decide), cA 174 (by decide)]
    have d175 : ∀ k, (wI (wI (wI (wI (wI (wI (wI (wI (wI (wJ (wI (wI (wI (wI (wI (wI (wI (wI x (118 + I) 0 a1) (118 + I) 1 a2) (118 + I) 2 1) (118 + I) 7 (zI now)) (118 + I) 3 (dty x P (now / 480))) (118 + I) 4 (1 <<< ((dty x P (now / 480)) &&& 31))) (118 + I) 7 (zI (now + 10))) 115 1 (zI (I + 1))) 187 0 (zI I).toInt64) 138 57 0) 174 I a1) 175 I a2) 176 I 1) 177 I (zI now)) 178 I (1 <<< ((dty x P (now / 480)) &&& 31))) 179 I (dty x P (now / 480))) 180 I (-1)) 138 42 (zI (I + 1))).1 175 k = if k = I then a2 else x.1 175 k := by
      intro k
      rw [wI_ne (by decide), wI_ne (by decide), wI_ne (by decide), wI_ne (by decide), wI_ne (by decide), wI_ne (by decide), wI_at, wI_ne (by decide), wI_ne (by decide), cA 175 (by decide)]
    have d176 : ∀ k, (wI (wI (wI (wI (wI (wI (wI (wI (wI (wJ (wI (wI (wI (wI (wI (wI (wI (wI x (118 + I) 0 a1) (118 + I) 1 a2) (118 + I) 2 1) (118 + I) 7 (zI now)) (118 + I) 3 (dty x P (now / 480))) (118 + I) 4 (1 <<< ((dty x P (now / 480)) &&& 31))) (118 + I) 7 (zI (now + 10))) 115 1 (zI (I + 1))) 187 0 (zI I).toInt64) 138 57 0) 174 I a1) 175 I a2) 176 I 1) 177 I (zI now)) 178 I (1 <<< ((dty x P (now / 480)) &&& 31))) 179 I (dty x P (now / 480))) 180 I (-1)) 138 42 (zI (I + 1))).1 176 k = if k = I then 1 else x.1 176 k := by
      intro k
      rw [wI_ne (by decide), wI_ne (by decide), wI_ne (by decide), wI_ne (by decide), wI_ne (by decide), wI_at, wI_ne (by decide), wI_ne (by decide), wI_ne (by decide), cA 176 (by decide)]
    have d177 : ∀ k, (wI (wI (wI (wI (wI (wI (wI (wI (wI (wJ (wI (wI (wI (wI (wI (wI (wI (wI x (118 + I) 0 a1) (118 + I) 1 a2) (118 + I) 2 1) (118 + I) 7 (zI now)) (118 + I) 3 (dty x P (now / 480))) (118 + I) 4 (1 <<< ((dty x P (now / 480)) &&& 31))) (118 + I) 7 (zI (now + 10))) 115 1 (zI (I + 1))) 187 0 (zI I).toInt64) 138 57 0) 174 I a1) 175 I a2) 176 I 1) 177 I (zI now)) 178 I (1 <<< ((dty x P (now / 480)) &&& 31))) 179 I (dty x P (now / 480))) 180 I (-1)) 138 42 (zI (I + 1))).1 177 k = if k = I then zI now else x.1 177 k := by
      intro k
      rw [wI_ne (by decide), wI_ne (by decide), wI_ne (by decide), wI_ne (by decide), wI_at, wI_ne (by decide), wI_ne (by decide), wI_ne (by decide), wI_ne (by decide), cA 177 (by decide)]
    have d178 : ∀ k, (wI (wI (wI (wI (wI (wI (wI (wI (wI (wJ (wI (wI (wI (wI (wI (wI (wI (wI x (118 + I) 0 a1) (118 + I) 1 a2) (118 + I) 2 1) (118 + I) 7 (zI now)) (118 + I) 3 (dty x P (now / 480))) (118 + I) 4 (1 <<< ((dty x P (now / 480)) &&& 31))) (118 + I) 7 (zI (now + 10))) 115 1 (zI (I + 1))) 187 0 (zI I).toInt64) 138 57 0) 174 I a1) 175 I a2) 176 I 1) 177 I (zI now)) 178 I (1 <<< ((dty x P (now / 480)) &&& 31))) 179 I (dty x P (now / 480))) 180 I (-1)) 138 42 (zI (I + 1))).1 178 k = if k = I then (1 <<< ((dty x P (now / 480)) &&& 31)) else x.1 178 k := by
      intro k
      rw [wI_ne (by decide), wI_ne (by decide), wI_ne (by decide), wI_at, wI_ne (by decide), wI_ne (by decide), wI_ne (by decide), wI_ne (by decide), wI_ne (by decide), cA 178 (by decide)]
    have d179 : ∀ k, (wI (wI (wI (wI (wI (wI (wI (wI (wI (wJ (wI (wI (wI (wI (wI (wI (wI (wI x (118 + I) 0 a1) (118 + I) 1 a2) (118 + I) 2 1) (118 + I) 7 (zI now)) (118 + I) 3 (dty x P (now / 480))) (118 + I) 4 (1 <<< ((dty x P (now / 480)) &&& 31))) (118 + I) 7 (zI (now + 10))) 115 1 (zI (I + 1))) 187 0 (zI I).toInt64) 138 57 0) 174 I a1) 175 I a2) 176 I 1) 177 I (zI now)) 178 I (1 <<< ((dty x P (now / 480)) &&& 31))) 179 I (dty x P (now / 480))) 180 I (-1)) 138 42 (zI (I + 1))).1 179 k = if k = I then (dty x P (now / 480)) else x.1 179 k := by
      intro k
      rw [wI_ne (by decide), wI_ne (by decide), wI_at, wI_ne (by decide), wI_ne (by decide), wI_ne (by decide), wI_ne (by decide), wI_ne (by decide), wI_ne (by decide), cA 179 (by decide)]
    have d180 : ∀ k, (wI (wI (wI (wI (wI (wI (wI (wI (wI (wJ (wI (wI (wI (wI (wI (wI (wI (wI x (118 + I) 0 a1) (118 + I) 1 a2) (118 + I) 2 1) (118 + I) 7 (zI now)) (118 + I) 3 (dty x P (now / 480))) (118 + I) 4 (1 <<< ((dty x P (now / 480)) &&& 31))) (118 + I) 7 (zI (now + 10))) 115 1 (zI (I + 1))) 187 0 (zI I).toInt64) 138 57 0) 174 I a1) 175 I a2) 176 I 1) 177 I (zI now)) 178 I (1 <<< ((dty x P (now / 480)) &&& 31))) 179 I (dty x P (now / 480))) 180 I (-1)) 138 42 (zI (I + 1))).1 180 k = if k = I then (-1) else x.1 180 k := by
      intro k
      rw [wI_ne (by decide), wI_at, wI_ne (by decide), wI_ne (by decide), wI_ne (by decide), wI_ne (by decide), wI_ne (by decide), wI_ne (by decide), wI_ne (by decide), cA 180 (by decide)]
    refine ⟨0, _, _, _, hA, hM, ?_, fun _ => rfl, ?_, ?_, ?_⟩
    · rw [wI_nj (by decide), wI_ne (by decide), wI_ne (by decide), wI_ne (by decide), wI_ne (by decide), wI_ne (by decide), wI_ne (by decide), wI_ne (by decide), wI_j]
    · rw [wJ_I, wI_ne (by omega), wI_ne (by omega), wI_ne (by omega), wI_ne (by omega), wI_ne (by omega), wI_ne (by omega), wI_ne (by omega), wI_ne (by omega)]
    · exact cq 0 (by omega) (by decide) (by decide) (by decide) (by decide) (by decide) (by decide) (by decide) (by decide) (by decide)
    refine ⟨S, B, Z, F, U, P, I + 1, now, INow.fr ⟨n1, n2, n3⟩ e (by decide), hC.fr e (by decide), hR.fx e (by decide) (by decide), hZ.fr e (by decide), hB.fr e (by decide), hF.fr e (by decide), ?_, hP.fr e (by decide)⟩
    generalize wI (wI (wI (wI (wI (wI (wI (wI (wI (wJ (wI (wI (wI (wI (wI (wI (wI (wI x (118 + I) 0 a1) (118 + I) 1 a2) (118 + I) 2 1) (118 + I) 7 (zI now)) (118 + I) 3 (dty x P (now / 480))) (118 + I) 4 (1 <<< ((dty x P (now / 480)) &&& 31))) (118 + I) 7 (zI (now + 10))) 115 1 (zI (I + 1))) 187 0 (zI I).toInt64) 138 57 0) 174 I a1) 175 I a2) 176 I 1) 177 I (zI now)) 178 I (1 <<< ((dty x P (now / 480)) &&& 31))) 179 I (dty x P (now / 480))) 180 I (-1)) 138 42 (zI (I + 1)) = y at e cq cQ d115 d138 d174 d175 d176 d177 d178 d179 d180
    have q116 := cq 116 (by omega) (by decide) (by decide) (by decide) (by decide) (by decide) (by decide) (by decide) (by decide) (by decide)
    have q173 := cq 173 (by omega) (by decide) (by decide) (by decide) (by decide) (by decide) (by decide) (by decide) (by decide) (by decide)
    have q181 := cq 181 (by omega) (by decide) (by decide) (by decide) (by decide) (by decide) (by decide) (by decide) (by decide) (by decide)
    have qj : ∀ j, j < 12 → ¬ j = I → y.1 (118 + j) = x.1 (118 + j) := fun j hj hjI => cq (118 + j) (by omega) (by omega) (by omega) (by omega) (by omega) (by omega) (by omega) (by omega) (by omega) (by omega)
    refine ⟨⟨p1, p2, by omega⟩, ?_, ?_, ?_, fun j hj => ?_, ?_, fun j hj hj2 => ?_, fun j k hj hk => ?_, fun j hj => ?_⟩
    · rw [d115, d115, d138 40 (by decide), d138 42 (by decide)]; exact ⟨e1, e2, rfl, rfl⟩
    · rw [q116, q173]; exact w116
    · rw [q173]; exact hst
    · rw [d174, d175, d176, d177, d178, d179, d180, q181]
      by_cases hji : j = I
      · subst hji
        rw [cQ, cQ, cQ, cQ, cQ, cQ, cQ, cQ]
        simp only [if_pos (rfl : j = j)]
        refine ⟨⟨rfl, rfl, rfl, rfl, rfl, df5, df6.trans df7.symm⟩, wP, fun k hk => ?_, fun _ => df7, now, Nat.le_refl _, rfl, fun _ => ?_⟩
        · show bt (1 <<< ((dty x P (now / 480)) &&& 31)) k = false
          obtain ⟨t, ht, et⟩ := aIn_ex wP
          rw [et, bt_one31 (by omega), decide_eq_false (by omega)]
        · show zI (now + 10) = zI (now + 10 * ((now - now) / 10 + 1))
          rw [Nat.sub_self]
      · rw [qj j (by omega) hji, if_neg hji, if_neg hji, if_neg hji, if_neg hji, if_neg hji, if_neg hji, if_neg hji]
        exact hf j (by omega)
    · rw [q181]; exact hcl
    · rw [qj j hj2 (by omega), q181]
      exact hdf j (by omega) hj2
    · rw [q181, d174, d174]
      by_cases hji : j = I
      · by_cases hki : k = I
        · intro _ _ _; omega
        · rw [if_pos hji, if_neg hki]
          exact fun _ w1 w2 => absurd ⟨w2.symm, w1⟩ (g2 k (by omega))
      · by_cases hki : k = I
        · rw [if_neg hji, if_pos hki]
          exact fun w1 _ w2 => absurd ⟨w2, w1⟩ (g2 j (by omega))
        · rw [if_neg hji, if_neg hki]; exact hun.1 j k (by omega) (by omega)
    · rw [d174]
      by_cases hji : j = I
      · rw [if_pos hji]; exact aIn_up h1 k1
      · rw [if_neg hji]; exact hun.2 j (by omega)
  · -- one more of an open one
    obtain ⟨i, hi, ei⟩ := aIn_ex g1
    have i12 : aIn (zI i) 12 = true := aIn_t (by omega) (by omega)
    have xii : xi (zI i) = i := xi_zI (by omega)
    have gm : ¬ zI i = -1 := zI_ne_m1 (by omega)
    rw [ei] at d18
    obtain ⟨⟨f0, f1, f2, f3, f4, f5, f6⟩, f7, f8, f9, f10⟩ := hf i hi
    have r1 : (wI x (118 + i) 2 (x.1 176 i + 1)).1 (118 + i) 1 = x.1 175 i := by rw [wI_nj (by decide)]; exact f1
    have hA : gm204 a1 a2 x = some ((0 : Int32), wJ (wI (wI x (118 + i) 2 (x.1 176 i + 1)) (118 + i) 1 (if x.1 175 i < a2 then a2 else x.1 175 i)) 187 0 (zI i).toInt64) := by
      simp only [gm204, gm81_45, gm81, gm34, F1, u2, h2, d18, if_neg gm, i12, xii, f2, r1, n10, n20, n21, Option.bind_some, b2i_t, b2i_f, i10, ↓reduceIte, cond_true, cond_false, kb0, kb1, kb2, s92_1, s92_0, s93_1, s93_0, s113_0, s113_1, s113_2, s113_3, aBit_b, aI01, xi0, xi1]
    have hM : gm162 a1 a2 (wJ (wI (wI x (118 + i) 2 (x.1 176 i + 1)) (118 + i) 1 (if x.1 175 i < a2 then a2 else x.1 175 i)) 187 0 (zI i).toInt64) = some (zI i, wI (wI (wI (wJ (wI (wI x (118 + i) 2 (x.1 176 i + 1)) (118 + i) 1 (if x.1 175 i < a2 then a2 else x.1 175 i)) 187 0 (zI i).toInt64) 138 57 0) 176 i (x.1 176 i + 1)) 175 i (if x.1 175 i < a2 then a2 else x.1 175 i)) := by
      have c0 : ∀ a, 138 ≤ a → (wJ (wI (wI x (118 + i) 2 (x.1 176 i + 1)) (118 + i) 1 (if x.1 175 i < a2 then a2 else x.1 175 i)) 187 0 (zI i).toInt64).1 a = x.1 a := fun a ha => by rw [wJ_I, wI_ne (by omega), wI_ne (by omega)]
      generalize wJ (wI (wI x (118 + i) 2 (x.1 176 i + 1)) (118 + i) 1 (if x.1 175 i < a2 then a2 else x.1 175 i)) 187 0 (zI i).toInt64 = y at c0
      have T0 := s117 (x := y) (S := S) a1 (by rw [c0 138 (by decide)]; exact c2) k1
      rw [h1] at T0
      have SM := fun a3 a4 => s162 (x := y) (hD.md.of (by rw [c0 138 (by decide)]) (by rw [c0 138 (by decide)]) (c0 181 (by decide)) (c0 174 (by decide))) a1 a2 a3 a4
      rw [opn_cg (x := x) (c0 174 (by decide)) (c0 181 (by decide)), ei] at SM
      have z176 : (wI y 138 57 0).1 176 = x.1 176 := by rw [wI_ne (by decide), c0 176 (by decide)]
      have z175 : (wI (wI y 138 57 0) 176 i (x.1 176 i + 1)).1 175 = x.1 175 := by rw [wI_ne (by decide), wI_ne (by decide), c0 175 (by decide)]
      by_cases q : a2 ≤ x.1 175 i
      · have q' : ¬ x.1 175 i < a2 := by rw [i_lt]; rw [i_le] at q; omega
        have st : gm162 a1 a2 y = gm162_103 a1 a2 (zI i) 0 y := by
          simp only [gm162_57, gm162_55, gm162_156, gm162_102, gm162_65, gm162, T0, t2, h2, SM, if_neg gm, n10, n20, n21, Option.bind_some, b2i_t, b2i_f, i10, ↓reduceIte, cond_true, cond_false, kb0, kb1, kb2, s92_1, s92_0, s93_1, s93_0, s113_0, s113_1, s113_2, s113_3, aBit_b, aI01, xi0, xi1]
        rw [st]
        unfold gm162_103
        rw [s113_0, Option.bind_some]
        simp only [gm162_156, ↓reduceIte, if_neg gm, i12, xii, z176, z175, if_pos q, if_neg q', cond_true]
      · have q' : x.1 175 i < a2 := by rw [i_lt]; rw [i_le] at q; omega
        have st : gm162 a1 a2 y = gm162_103 a1 a2 (zI i) 0 y := by
          simp only [gm162_57, gm162_55, gm162_156, gm162_102, gm162_65, gm162, T0, t2, h2, SM, if_neg gm, n10, n20, n21, Option.bind_some, b2i_t, b2i_f, i10, ↓reduceIte, cond_true, cond_false, kb0, kb1, kb2, s92_1, s92_0, s93_1, s93_0, s113_0, s113_1, s113_2, s113_3, aBit_b, aI01, xi0, xi1]
        rw [st]
        unfold gm162_103
        rw [s113_0, Option.bind_some]
        simp only [gm162_156, ↓reduceIte, if_neg gm, i12, xii, z176, z175, if_neg q, if_pos q', cond_true]
    have oi : own (118 + i) = 7 := by
      unfold own
      rw [if_neg (by omega), if_neg (by omega), if_neg (by omega), if_neg (by omega), if_neg (by omega), if_neg (by omega), if_neg (by omega), if_pos (by omega)]
    have e : SB 7 x (wI (wI (wI (wJ (wI (wI x (118 + i) 2 (x.1 176 i + 1)) (118 + i) 1 (if x.1 175 i < a2 then a2 else x.1 175 i)) 187 0 (zI i).toInt64) 138 57 0) 176 i (x.1 176 i + 1)) 175 i (if x.1 175 i < a2 then a2 else x.1 175 i)) := by
      refine SB.I ?_ (by decide) (Or.inl rfl)
      refine SB.I ?_ (by decide) (Or.inl rfl)
      refine SB.M ?_ (Or.inr rfl)
      refine SB.J ?_ (Or.inr rfl)
      refine SB.I ?_ (by omega) (Or.inl oi)
      refine SB.I ?_ (by omega) (Or.inl oi)
      exact SB.rf _ _
    generalize hv : (if x.1 175 i < a2 then a2 else x.1 175 i) = v at hA hM e
    have cc : ∀ a, ¬ a = 118 + i → ¬ a = 138 → ¬ a = 175 → ¬ a = 176 → (wI (wI (wI (wJ (wI (wI x (118 + i) 2 (x.1 176 i + 1)) (118 + i) 1 v) 187 0 (zI i).toInt64) 138 57 0) 176 i (x.1 176 i + 1)) 175 i v).1 a = x.1 a := fun a m1 m2 m3 m4 => by rw [wI_ne m3, wI_ne m4, wI_ne m2, wJ_I, wI_ne m1, wI_ne m1]
    have ci : ∀ k, (wI (wI (wI (wJ (wI (wI x (118 + i) 2 (x.1 176 i + 1)) (118 + i) 1 v) 187 0 (zI i).toInt64) 138 57 0) 176 i (x.1 176 i + 1)) 175 i v).1 (118 + i) k = if k = 1 then v else if k = 2 then x.1 176 i + 1 else x.1 (118 + i) k := fun k => by rw [wI_ne (by omega), wI_ne (by omega), wI_ne (by omega), wJ_I, wI_at, wI_at]
    have c175 : ∀ k, (wI (wI (wI (wJ (wI (wI x (118 + i) 2 (x.1 176 i + 1)) (118 + i) 1 v) 187 0 (zI i).toInt64) 138 57 0) 176 i (x.1 176 i + 1)) 175 i v).1 175 k = if k = i then v else x.1 175 k := fun k => by rw [wI_at, wI_ne (by decide), wI_ne (by decide), wJ_I, wI_ne (by omega), wI_ne (by omega)]
    have c176 : ∀ k, (wI (wI (wI (wJ (wI (wI x (118 + i) 2 (x.1 176 i + 1)) (118 + i) 1 v) 187 0 (zI i).toInt64) 138 57 0) 176 i (x.1 176 i + 1)) 175 i v).1 176 k = if k = i then x.1 176 i + 1 else x.1 176 k := fun k => by rw [wI_ne (by decide), wI_at, wI_ne (by decide), wJ_I, wI_ne (by omega), wI_ne (by omega)]
    have c138 : ∀ k, ¬ k = 57 → (wI (wI (wI (wJ (wI (wI x (118 + i) 2 (x.1 176 i + 1)) (118 + i) 1 v) 187 0 (zI i).toInt64) 138 57 0) 176 i (x.1 176 i + 1)) 175 i v).1 138 k = x.1 138 k := fun k hk => by rw [wI_ne (by decide), wI_ne (by decide), wI_nj hk, wJ_I, wI_ne (by omega), wI_ne (by omega)]
    refine ⟨0, _, _, _, hA, hM, ?_, fun _ => rfl, ?_, ?_, ?_⟩
    · rw [wI_ne (by decide), wI_ne (by decide), wI_j]
    · rw [wJ_I, wI_ne (by omega), wI_ne (by omega)]
    · exact cc 0 (by omega) (by decide) (by decide) (by decide)
    refine ⟨S, B, Z, F, U, P, I, now, INow.fr ⟨n1, n2, n3⟩ e (by decide), hC.fr e (by decide), hR.fx e (by decide) (by decide), hZ.fr e (by decide), hB.fr e (by decide), hF.fr e (by decide), ?_, hP.fr e (by decide)⟩
    generalize wI (wI (wI (wJ (wI (wI x (118 + i) 2 (x.1 176 i + 1)) (118 + i) 1 v) 187 0 (zI i).toInt64) 138 57 0) 176 i (x.1 176 i + 1)) 175 i v = y at e cc ci c175 c176 c138
    have q := fun a m1 m2 m3 m4 => cc a m1 m2 m3 m4
    refine ⟨⟨p1, p2, p3⟩, ?_, ?_, ?_, fun j hj => ?_, ?_, fun j hj hj2 => ?_, ?_⟩
    · rw [cc 115 (by omega) (by decide) (by decide) (by decide), c138 40 (by decide), c138 42 (by decide)]; exact ⟨e1, e2, e3, e4⟩
    · rw [cc 116 (by omega) (by decide) (by decide) (by decide), cc 173 (by omega) (by decide) (by decide) (by decide)]; exact w116
    · rw [cc 173 (by omega) (by decide) (by decide) (by decide)]; exact hst
    · rw [cc 174 (by omega) (by decide) (by decide) (by decide), cc 177 (by omega) (by decide) (by decide) (by decide), cc 178 (by omega) (by decide) (by decide) (by decide), cc 179 (by omega) (by decide) (by decide) (by decide), cc 180 (by omega) (by decide) (by decide) (by decide), cc 181 (by omega) (by decide) (by decide) (by decide), c175, c176]
      by_cases hji : j = i
      · subst hji
        rw [ci, ci, ci, ci, ci, ci, ci, ci]
        simp only [if_pos (rfl : j = j)]
        exact ⟨⟨f0, rfl, rfl, f3, f4, f5, f6⟩, f7, f8, f9, f10⟩
      · rw [cc (118 + j) (by omega) (by omega) (by omega) (by omega), if_neg hji, if_neg hji]
        exact hf j hj
    · rw [cc 181 (by omega) (by decide) (by decide) (by decide)]; exact hcl
    · rw [cc (118 + j) (by omega) (by omega) (by omega) (by omega), cc 181 (by omega) (by decide) (by decide) (by decide)]
      exact hdf j hj hj2
    · rw [cc 181 (by omega) (by decide) (by decide) (by decide), cc 174 (by omega) (by decide) (by decide) (by decide)]; exact hun
