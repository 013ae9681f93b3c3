/-! Freezes, exceptions, budgets -/
theorem op_freeze {c : Nat} {x : Hs} (h : Inv c x) (a1 a2 a3 : Int32) : OpOK c x (gm193 a1 a2 a3 x) (gm143 a1 a2 a3) o64 := by
  have h0 := h
  obtain ⟨S, B, Z, F, U, P, I, now, hN, hC, hR, hZ, hB, hF, hD, hP⟩ := h
  obtain ⟨⟨k1, k2⟩, ⟨e1, e2, e3, e4⟩, -⟩ := id hC
  obtain ⟨z1, ⟨z2, z3⟩, ⟨w100, w101, w102, w99⟩, hex⟩ := id hZ
  have t2 := fun y => s114 a2 0 9999 y
  have u2 := fun y => s99 a2 0 9999 y
  have u3 := fun y => s99 a3 (a2 + 1) 9999 y
  by_cases g : a1 = -1 ∨ aIn a1 S = true
  case neg =>
    have g1 : ¬ a1 = -1 := fun w => g (Or.inl w)
    have g2 : aIn a1 S = false := by
      cases q : aIn a1 S with
      | false => rfl
      | true => exact absurd (Or.inr q) g
    have T0 := s117 (x := x) a1 e2 k1
    rw [g2] at T0
    cases q2 : win a2 0 9999 with
    | false =>
      refine OpOK.no h0 (k := 1) (b := 0) (by decide) ?_ ?_
      · simp only [gm193, gm70_59, gm70_39, gm70_38, gm70_10, gm70, if_neg g1, s94_f hC g2, T0, t2, q2, n10, n20, n21, Option.bind_some, b2i_t, b2i_f, i10, ↓reduceIte, cond_true, cond_false, kb0, kb1, kb2, s92_1, s92_0, s93_1, s93_0, s113_0, s113_1, s113_2, s113_3, aBit_b, aI01, xi0, xi1]
      · simp only [gm143_83, gm143_48, gm143_47, gm143_18, gm143_13, gm143, if_neg g1, s94_f hC g2, T0, t2, q2, n10, n20, n21, Option.bind_some, b2i_t, b2i_f, i10, ↓reduceIte, cond_true, cond_false, kb0, kb1, kb2, s92_1, s92_0, s93_1, s93_0, s113_0, s113_1, s113_2, s113_3, aBit_b, aI01, xi0, xi1]
    | true =>
      by_cases q3 : a3 ≤ a2
      · refine OpOK.no h0 (k := 1) (b := 0) (by decide) ?_ ?_
        · simp only [gm193, gm70_59, gm70_39, gm70_38, gm70_10, gm70, if_neg g1, s94_f hC g2, T0, t2, q2, if_pos q3, n10, n20, n21, Option.bind_some, b2i_t, b2i_f, i10, ↓reduceIte, cond_true, cond_false, kb0, kb1, kb2, s92_1, s92_0, s93_1, s93_0, s113_0, s113_1, s113_2, s113_3, aBit_b, aI01, xi0, xi1]
        · simp only [gm143_83, gm143_48, gm143_47, gm143_18, gm143_13, gm143, if_neg g1, s94_f hC g2, T0, t2, q2, if_pos q3, n10, n20, n21, Option.bind_some, b2i_t, b2i_f, i10, ↓reduceIte, cond_true, cond_false, kb0, kb1, kb2, s92_1, s92_0, s93_1, s93_0, s113_0, s113_1, s113_2, s113_3, aBit_b, aI01, xi0, xi1]
      · by_cases q4 : a3 > 9999
        · refine OpOK.no h0 (k := 1) (b := 0) (by decide) ?_ ?_
          · simp only [gm193, gm70_59, gm70_39, gm70_38, gm70_10, gm70, if_neg g1, s94_f hC g2, T0, t2, q2, if_neg q3, if_pos q4, n10, n20, n21, Option.bind_some, b2i_t, b2i_f, i10, ↓reduceIte, cond_true, cond_false, kb0, kb1, kb2, s92_1, s92_0, s93_1, s93_0, s113_0, s113_1, s113_2, s113_3, aBit_b, aI01, xi0, xi1]
          · simp only [gm143_83, gm143_48, gm143_47, gm143_18, gm143_13, gm143, if_neg g1, s94_f hC g2, T0, t2, q2, if_neg q3, if_pos q4, n10, n20, n21, Option.bind_some, b2i_t, b2i_f, i10, ↓reduceIte, cond_true, cond_false, kb0, kb1, kb2, s92_1, s92_0, s93_1, s93_0, s113_0, s113_1, s113_2, s113_3, aBit_b, aI01, xi0, xi1]
        · refine OpOK.no h0 (k := 1) (b := 0) (by decide) ?_ ?_
          · simp only [gm193, gm70_59, gm70_39, gm70_38, gm70_10, gm70, if_neg g1, s94_f hC g2, T0, t2, q2, if_neg q3, if_neg q4, n10, n20, n21, Option.bind_some, b2i_t, b2i_f, i10, ↓reduceIte, cond_true, cond_false, kb0, kb1, kb2, s92_1, s92_0, s93_1, s93_0, s113_0, s113_1, s113_2, s113_3, aBit_b, aI01, xi0, xi1]
          · simp only [gm143_83, gm143_48, gm143_47, gm143_18, gm143_13, gm143, if_neg g1, s94_f hC g2, T0, t2, q2, if_neg q3, if_neg q4, n10, n20, n21, Option.bind_some, b2i_t, b2i_f, i10, ↓reduceIte, cond_true, cond_false, kb0, kb1, kb2, s92_1, s92_0, s93_1, s93_0, s113_0, s113_1, s113_2, s113_3, aBit_b, aI01, xi0, xi1]
  case pos =>
  have GC : gm70 a1 a2 a3 x = gm70_10 a1 a2 a3 x := by
    unfold gm70
    by_cases g1 : a1 = -1
    · rw [if_pos g1]
    · rw [if_neg g1, s94_t hC (g.resolve_left g1)]
      rfl
  have GM : ∀ y : Hs, y.1 138 1 = zI S → gm143 a1 a2 a3 y = gm143_18 a1 a2 a3 1 y := by
    intro y hy
    unfold gm143 gm143_13
    by_cases g1 : a1 = -1
    · rw [if_pos g1]
    · rw [if_neg g1, s117 a1 hy k1, g.resolve_left g1]
      rfl
  have GX := GM x e2
  cases q2 : win a2 0 9999 with
  | false =>
    refine OpOK.no h0 (k := 2) (b := 0) (by decide) ?_ ?_
    · simp only [gm193, gm70_59, gm70_39, gm70_38, gm70_10, GC, GX, t2, u2, q2, n10, n20, n21, Option.bind_some, b2i_t, b2i_f, i10, ↓reduceIte, cond_true, cond_false, kb0, kb1, kb2, s92_1, s92_0, s93_1, s93_0, s113_0, s113_1, s113_2, s113_3, aBit_b, aI01, xi0, xi1]
    · simp only [gm143_83, gm143_48, gm143_47, gm143_18, gm143_13, GC, GX, t2, u2, q2, n10, n20, n21, Option.bind_some, b2i_t, b2i_f, i10, ↓reduceIte, cond_true, cond_false, kb0, kb1, kb2, s92_1, s92_0, s93_1, s93_0, s113_0, s113_1, s113_2, s113_3, aBit_b, aI01, xi0, xi1]
  | true =>
  have hw := (win_iff _ _ _).mp q2
  rw [show (0 : Int32).toInt = 0 from rfl, show (9999 : Int32).toInt = 9999 from rfl] at hw
  have ha1 : (a2 + 1).toInt = a2.toInt + 1 := i_add (by rw [show (1 : Int32).toInt = 1 from rfl]; omega) (by rw [show (1 : Int32).toInt = 1 from rfl]; omega)
  have q5 : win a3 (a2 + 1) 9999 = true ↔ ¬ a3 ≤ a2 ∧ ¬ a3 > 9999 := by
    rw [win_iff, ha1, i_le, i_gt, show (9999 : Int32).toInt = 9999 from rfl]
    omega
  by_cases q3 : a3 ≤ a2
  · have q6 : win a3 (a2 + 1) 9999 = false := by
      rw [← Bool.not_eq_true, q5]
      exact fun w => w.1 q3
    refine OpOK.no h0 (k := 2) (b := 0) (by decide) ?_ ?_
    · simp only [gm193, gm70_59, gm70_39, gm70_38, gm70_10, GC, GX, t2, u2, q2, u3, q6, if_pos q3, n10, n20, n21, Option.bind_some, b2i_t, b2i_f, i10, ↓reduceIte, cond_true, cond_false, kb0, kb1, kb2, s92_1, s92_0, s93_1, s93_0, s113_0, s113_1, s113_2, s113_3, aBit_b, aI01, xi0, xi1]
    · simp only [gm143_83, gm143_48, gm143_47, gm143_18, gm143_13, GC, GX, t2, u2, q2, u3, q6, if_pos q3, n10, n20, n21, Option.bind_some, b2i_t, b2i_f, i10, ↓reduceIte, cond_true, cond_false, kb0, kb1, kb2, s92_1, s92_0, s93_1, s93_0, s113_0, s113_1, s113_2, s113_3, aBit_b, aI01, xi0, xi1]
  by_cases q4 : a3 > 9999
  · have q6 : win a3 (a2 + 1) 9999 = false := by
      rw [← Bool.not_eq_true, q5]
      exact fun w => w.2 q4
    refine OpOK.no h0 (k := 2) (b := 0) (by decide) ?_ ?_
    · simp only [gm193, gm70_59, gm70_39, gm70_38, gm70_10, GC, GX, t2, u2, q2, u3, q6, if_neg q3, if_pos q4, n10, n20, n21, Option.bind_some, b2i_t, b2i_f, i10, ↓reduceIte, cond_true, cond_false, kb0, kb1, kb2, s92_1, s92_0, s93_1, s93_0, s113_0, s113_1, s113_2, s113_3, aBit_b, aI01, xi0, xi1]
    · simp only [gm143_83, gm143_48, gm143_47, gm143_18, gm143_13, GC, GX, t2, u2, q2, u3, q6, if_neg q3, if_pos q4, n10, n20, n21, Option.bind_some, b2i_t, b2i_f, i10, ↓reduceIte, cond_true, cond_false, kb0, kb1, kb2, s92_1, s92_0, s93_1, s93_0, s113_0, s113_1, s113_2, s113_3, aBit_b, aI01, xi0, xi1]
  have q6 := q5.mpr ⟨q3, q4⟩
  by_cases g5 : Z = 8
  · subst g5
    have g6 : zI 8 ≥ 8 := by decide
    have g7 : zI 8 = 8 := rfl
    refine OpOK.no h0 (k := 3) (b := 0) (by decide) ?_ ?_
    · simp only [gm193, gm70_59, gm70_39, gm70_38, gm70_10, GC, GX, t2, u2, q2, u3, q6, if_neg q3, if_neg q4, z2, z3, if_pos g6, if_pos g7, n10, n20, n21, Option.bind_some, b2i_t, b2i_f, i10, ↓reduceIte, cond_true, cond_false, kb0, kb1, kb2, s92_1, s92_0, s93_1, s93_0, s113_0, s113_1, s113_2, s113_3, aBit_b, aI01, xi0, xi1]
    · simp only [gm143_83, gm143_48, gm143_47, gm143_18, gm143_13, GC, GX, t2, u2, q2, u3, q6, if_neg q3, if_neg q4, z2, z3, if_pos g6, if_pos g7, n10, n20, n21, Option.bind_some, b2i_t, b2i_f, i10, ↓reduceIte, cond_true, cond_false, kb0, kb1, kb2, s92_1, s92_0, s93_1, s93_0, s113_0, s113_1, s113_2, s113_3, aBit_b, aI01, xi0, xi1]
  have g6 : ¬ zI Z ≥ 8 := by rw [show (8 : Int32) = zI 8 from rfl, zI_ge (by omega) (by omega)]; omega
  have g7 : ¬ zI Z = 8 := by rw [show (8 : Int32) = zI 8 from rfl, zI_inj (by omega) (by omega)]; omega
  have i8 : aIn (zI Z) 8 = true := aIn_t (by omega) (by omega)
  have xZ : xi (zI Z) = Z := xi_zI (by omega)
  have r1 : (wI x 100 Z a1).1 98 0 = zI Z := z2
  have r2 : (wI (wI x 100 Z a1) 101 Z a2).1 98 0 = zI Z := z2
  have r3 : (wI (wI (wI x 100 Z a1) 101 Z a2) 102 Z a3).1 98 0 = zI Z := z2
  have hA : gm193 a1 a2 a3 x = some ((0 : Int32), wJ (wI (wI (wI (wI x 100 Z a1) 101 Z a2) 102 Z a3) 98 0 (zI (Z + 1))) 187 0 (zI (Z + 1)).toInt64) := by
    simp only [gm193, gm70_59, gm70_39, gm70_38, gm70_10, GC, gm30, u2, q2, u3, q6, z2, if_neg g6, i8, xZ, r1, r2, r3, zI_succ, wI_j, n10, n20, n21, Option.bind_some, b2i_t, b2i_f, i10, ↓reduceIte, cond_true, cond_false, kb0, kb1, kb2, s92_1, s92_0, s93_1, s93_0, s113_0, s113_1, s113_2, s113_3, aBit_b, aI01, xi0, xi1]
  have hM : gm143 a1 a2 a3 (wJ (wI (wI (wI (wI x 100 Z a1) 101 Z a2) 102 Z a3) 98 0 (zI (Z + 1))) 187 0 (zI (Z + 1)).toInt64) = some (zI (Z + 1), wI (wI (wI (wI (wI (wJ (wI (wI (wI (wI x 100 Z a1) 101 Z a2) 102 Z a3) 98 0 (zI (Z + 1))) 187 0 (zI (Z + 1)).toInt64) 138 57 0) 163 Z a1) 164 Z a2) 165 Z a3) 138 27 (zI (Z + 1))) := by
    have c0 : ∀ a, 138 ≤ a → (wJ (wI (wI (wI (wI x 100 Z a1) 101 Z a2) 102 Z a3) 98 0 (zI (Z + 1))) 187 0 (zI (Z + 1)).toInt64).1 a = x.1 a := fun a ha => by rw [wJ_I, wI_ne (by omega), wI_ne (by omega), wI_ne (by omega), wI_ne (by omega)]
    generalize wJ (wI (wI (wI (wI x 100 Z a1) 101 Z a2) 102 Z a3) 98 0 (zI (Z + 1))) 187 0 (zI (Z + 1)).toInt64 = y at c0
    have y3 : y.1 138 27 = zI Z := by rw [c0 138 (by decide)]; exact z3
    have GY := GM y (by rw [c0 138 (by decide)]; exact e2)
    have z1 : (wI y 138 57 0).1 138 27 = zI Z := by rw [wI_nj (by decide)]; exact y3
    have z2 : (wI (wI y 138 57 0) 163 Z a1).1 138 27 = zI Z := z1
    have z3 : (wI (wI (wI y 138 57 0) 163 Z a1) 164 Z a2).1 138 27 = zI Z := z1
    have z4 : (wI (wI (wI (wI y 138 57 0) 163 Z a1) 164 Z a2) 165 Z a3).1 138 27 = zI Z := z1
    simp only [gm143_83, gm143_48, gm143_47, gm143_18, gm143_13, GY, t2, q2, if_neg q3, if_neg q4, y3, if_neg g7, z1, z2, z3, z4, i8, xZ, zI_succ, wI_j, n10, n20, n21, Option.bind_some, b2i_t, b2i_f, i10, ↓reduceIte, cond_true, cond_false, kb0, kb1, kb2, s92_1, s92_0, s93_1, s93_0, s113_0, s113_1, s113_2, s113_3, aBit_b, aI01, xi0, xi1]
  have e : SB 4 x (wI (wI (wI (wI (wI (wJ (wI (wI (wI (wI x 100 Z a1) 101 Z a2) 102 Z a3) 98 0 (zI (Z + 1))) 187 0 (zI (Z + 1)).toInt64) 138 57 0) 163 Z a1) 164 Z a2) 165 Z a3) 138 27 (zI (Z + 1))) := by
    refine SB.M ?_ (Or.inl rfl)
    refine SB.I ?_ (by decide) (Or.inl rfl)
    refine SB.I ?_ (by decide) (Or.inl rfl)
    refine SB.I ?_ (by decide) (Or.inl rfl)
    refine SB.M ?_ (Or.inr rfl)
    refine SB.J ?_ (Or.inr rfl)
    refine SB.I ?_ (by decide) (Or.inl rfl)
    refine SB.I ?_ (by decide) (Or.inl rfl)
    refine SB.I ?_ (by decide) (Or.inl rfl)
    refine SB.I ?_ (by decide) (Or.inl rfl)
    exact SB.rf _ _
  refine ⟨0, _, _, _, hA, hM, rfl, fun _ => rfl, rfl, rfl, ?_⟩
  refine ⟨S, B, Z + 1, F, U, P, I, now, hN.fr e (by decide), hC.fr e (by decide), hR.fr e (by decide), ?_, hB.fr e (by decide), hF.fr e (by decide), hD.fr e (by decide), hP.fr e (by decide)⟩
  refine ⟨by omega, ⟨rfl, rfl⟩, ⟨?_, ?_, ?_, w99⟩, hex⟩
  · show (fun k => if k = Z then a1 else x.1 100 k) = (fun k => if k = Z then a1 else x.1 163 k)
    rw [w100]
  · show (fun k => if k = Z then a2 else x.1 101 k) = (fun k => if k = Z then a2 else x.1 164 k)
    rw [w101]
  · show (fun k => if k = Z then a3 else x.1 102 k) = (fun k => if k = Z then a3 else x.1 165 k)
    rw [w102]
theorem op_except {c : Nat} {x : Hs} (h : Inv c x) (a1 : Int32) : OpOK c x (gm194 a1 x) (gm144 a1) o64 := by
  have h0 := h
  obtain ⟨S, B, Z, F, U, P, I, now, hN, hC, hR, hZ, hB, hF, hD, hP⟩ := h
  obtain ⟨⟨k1, k2⟩, ⟨e1, e2, e3, e4⟩, -⟩ := id hC
  obtain ⟨z1, ⟨z2, z3⟩, ⟨w100, w101, w102, w99⟩, hex⟩ := id hZ
  have T0 := s117 (x := x) a1 e2 k1
  cases h1 : aIn a1 S with
  | false =>
    refine OpOK.no h0 (k := 1) (b := 0) (by decide) ?_ ?_
    · simp only [gm194, gm71_24, gm71, s94_f hC h1, T0, h1, n10, n20, n21, Option.bind_some, b2i_t, b2i_f, i10, ↓reduceIte, cond_true, cond_false, kb0, kb1, kb2, s92_1, s92_0, s93_1, s93_0, s113_0, s113_1, s113_2, s113_3, aBit_b, aI01, xi0, xi1]
    · simp only [gm144_31, gm144, s94_f hC h1, T0, h1, n10, n20, n21, Option.bind_some, b2i_t, b2i_f, i10, ↓reduceIte, cond_true, cond_false, kb0, kb1, kb2, s92_1, s92_0, s93_1, s93_0, s113_0, s113_1, s113_2, s113_3, aBit_b, aI01, xi0, xi1]
  | true =>
  rw [h1] at T0
  have F1 := s94_t hC h1
  have i5 := aIn_up h1 k1
  have hx := (aIn_iff _ _).mp (hex _ (aIn_lt i5))
  by_cases g : x.1 158 (xi a1) = 9
  · have g6 : (9 : Int32) ≥ 9 := by decide
    refine OpOK.no h0 (k := 2) (b := 0) (by decide) ?_ ?_
    · simp only [gm194, gm71_24, gm71, F1, T0, i5, w99, g, if_pos g6, n10, n20, n21, Option.bind_some, b2i_t, b2i_f, i10, ↓reduceIte, cond_true, cond_false, kb0, kb1, kb2, s92_1, s92_0, s93_1, s93_0, s113_0, s113_1, s113_2, s113_3, aBit_b, aI01, xi0, xi1]
    · simp only [gm144_31, gm144, F1, T0, i5, w99, g, if_pos g6, n10, n20, n21, Option.bind_some, b2i_t, b2i_f, i10, ↓reduceIte, cond_true, cond_false, kb0, kb1, kb2, s92_1, s92_0, s93_1, s93_0, s113_0, s113_1, s113_2, s113_3, aBit_b, aI01, xi0, xi1]
  have gi : ¬ (x.1 158 (xi a1)).toInt = 9 := fun w => g ((i_eq _ _).mpr w)
  have g6 : ¬ x.1 158 (xi a1) ≥ 9 := by rw [i_ge, show (9 : Int32).toInt = 9 from rfl]; omega
  have hA : gm194 a1 x = some ((0 : Int32), wJ (wI x 99 (xi a1) (x.1 158 (xi a1) + 1)) 187 0 (x.1 158 (xi a1) + 1).toInt64) := by
    simp only [gm194, gm71_24, gm71, F1, i5, w99, if_neg g6, wI_j, n10, n20, n21, Option.bind_some, b2i_t, b2i_f, i10, ↓reduceIte, cond_true, cond_false, kb0, kb1, kb2, s92_1, s92_0, s93_1, s93_0, s113_0, s113_1, s113_2, s113_3, aBit_b, aI01, xi0, xi1]
  have hM : gm144 a1 (wJ (wI x 99 (xi a1) (x.1 158 (xi a1) + 1)) 187 0 (x.1 158 (xi a1) + 1).toInt64) = some ((x.1 158 (xi a1) + 1), wI (wI (wJ (wI x 99 (xi a1) (x.1 158 (xi a1) + 1)) 187 0 (x.1 158 (xi a1) + 1).toInt64) 138 57 0) 158 (xi a1) (x.1 158 (xi a1) + 1)) := by
    have c0 : ∀ a, 138 ≤ a → (wJ (wI x 99 (xi a1) (x.1 158 (xi a1) + 1)) 187 0 (x.1 158 (xi a1) + 1).toInt64).1 a = x.1 a := fun a ha => by rw [wJ_I, wI_ne (by omega)]
    generalize wJ (wI x 99 (xi a1) (x.1 158 (xi a1) + 1)) 187 0 (x.1 158 (xi a1) + 1).toInt64 = y at c0
    have T0 := s117 (x := y) (S := S) a1 (by rw [c0 138 (by decide)]; exact e2) k1
    rw [h1] at T0
    have z : (wI y 138 57 0).1 158 = x.1 158 := by rw [wI_ne (by decide), c0 158 (by decide)]
    simp only [gm144_31, gm144, T0, i5, c0 158 (by decide), if_neg g, z, wI_j, n10, n20, n21, Option.bind_some, b2i_t, b2i_f, i10, ↓reduceIte, cond_true, cond_false, kb0, kb1, kb2, s92_1, s92_0, s93_1, s93_0, s113_0, s113_1, s113_2, s113_3, aBit_b, aI01, xi0, xi1]
  have e : SB 4 x (wI (wI (wJ (wI x 99 (xi a1) (x.1 158 (xi a1) + 1)) 187 0 (x.1 158 (xi a1) + 1).toInt64) 138 57 0) 158 (xi a1) (x.1 158 (xi a1) + 1)) := by
    refine SB.I ?_ (by decide) (Or.inl rfl)
    refine SB.M ?_ (Or.inr rfl)
    refine SB.J ?_ (Or.inr rfl)
    refine SB.I ?_ (by decide) (Or.inl rfl)
    exact SB.rf _ _
  refine ⟨0, _, _, _, hA, hM, rfl, fun _ => rfl, rfl, rfl, ?_⟩
  refine ⟨S, B, Z, F, U, P, I, now, hN.fr e (by decide), hC.fr e (by decide), hR.fr e (by decide), ?_, hB.fr e (by decide), hF.fr e (by decide), hD.fr e (by decide), hP.fr e (by decide)⟩
  refine ⟨z1, ⟨z2, z3⟩, ⟨w100, w101, w102, ?_⟩, ?_⟩
  · show (fun k => if k = xi a1 then _ else x.1 99 k) = (fun k => if k = xi a1 then _ else x.1 158 k)
    rw [w99]
  · intro s hs
    show aIn (if s = xi a1 then (x.1 158 (xi a1) + 1) else x.1 158 s) 10 = true
    by_cases hsa : s = xi a1
    · rw [if_pos hsa, aIn_iff, i_add] <;> rw [show (1 : Int32).toInt = 1 from rfl] <;> omega
    · rw [if_neg hsa]; exact hex s hs
theorem op_budget {c : Nat} {x : Hs} (h : Inv c x) (a1 a2 : Int32) : OpOK c x (gm195 a1 a2 x) (gm145 a1 a2) o64 := by
  have h0 := h
  obtain ⟨S, B, Z, F, U, P, I, now, hN, hC, hR, hZ, hB, hF, hD, hP⟩ := h
  obtain ⟨⟨k1, k2⟩, ⟨e1, e2, e3, e4⟩, -⟩ := id hC
  obtain ⟨w104, hb⟩ := id hB
  have T0 := s117 (x := x) a1 e2 k1
  have t2 := fun y => s114 a2 1 1000 y
  have u2 := fun y => s99 a2 1 1000 y
  cases h1 : aIn a1 S with
  | false =>
    refine OpOK.no h0 (k := 1) (b := 0) (by decide) ?_ ?_
    · simp only [gm195, gm72, s94_f hC h1, T0, h1, n10, n20, n21, Option.bind_some, b2i_t, b2i_f, i10, ↓reduceIte, cond_true, cond_false, kb0, kb1, kb2, s92_1, s92_0, s93_1, s93_0, s113_0, s113_1, s113_2, s113_3, aBit_b, aI01, xi0, xi1]
    · simp only [gm145_29, gm145, s94_f hC h1, T0, h1, n10, n20, n21, Option.bind_some, b2i_t, b2i_f, i10, ↓reduceIte, cond_true, cond_false, kb0, kb1, kb2, s92_1, s92_0, s93_1, s93_0, s113_0, s113_1, s113_2, s113_3, aBit_b, aI01, xi0, xi1]
  | true =>
  rw [h1] at T0
  have F1 := s94_t hC h1
  have i5 := aIn_up h1 k1
  cases q2 : win a2 1 1000 with
  | false =>
    refine OpOK.no h0 (k := 2) (b := 0) (by decide) ?_ ?_
    · simp only [gm195, gm72, F1, T0, t2, u2, q2, n10, n20, n21, Option.bind_some, b2i_t, b2i_f, i10, ↓reduceIte, cond_true, cond_false, kb0, kb1, kb2, s92_1, s92_0, s93_1, s93_0, s113_0, s113_1, s113_2, s113_3, aBit_b, aI01, xi0, xi1]
    · simp only [gm145_29, gm145, F1, T0, t2, u2, q2, n10, n20, n21, Option.bind_some, b2i_t, b2i_f, i10, ↓reduceIte, cond_true, cond_false, kb0, kb1, kb2, s92_1, s92_0, s93_1, s93_0, s113_0, s113_1, s113_2, s113_3, aBit_b, aI01, xi0, xi1]
  | true =>
  have hw := (win_iff _ _ _).mp q2
  rw [show (1 : Int32).toInt = 1 from rfl, show (1000 : Int32).toInt = 1000 from rfl] at hw
  have hA : gm195 a1 a2 x = some ((0 : Int32), wJ (wI x 104 (xi a1) a2) 187 0 (x.1 159 (xi a1)).toInt64) := by
    simp only [gm195, gm72, F1, u2, q2, i5, w104, n10, n20, n21, Option.bind_some, b2i_t, b2i_f, i10, ↓reduceIte, cond_true, cond_false, kb0, kb1, kb2, s92_1, s92_0, s93_1, s93_0, s113_0, s113_1, s113_2, s113_3, aBit_b, aI01, xi0, xi1]
  have hM : gm145 a1 a2 (wJ (wI x 104 (xi a1) a2) 187 0 (x.1 159 (xi a1)).toInt64) = some (x.1 159 (xi a1), wI (wI (wJ (wI x 104 (xi a1) a2) 187 0 (x.1 159 (xi a1)).toInt64) 138 57 0) 159 (xi a1) a2) := by
    have c0 : ∀ a, 138 ≤ a → (wJ (wI x 104 (xi a1) a2) 187 0 (x.1 159 (xi a1)).toInt64).1 a = x.1 a := fun a ha => by rw [wJ_I, wI_ne (by omega)]
    generalize wJ (wI x 104 (xi a1) a2) 187 0 (x.1 159 (xi a1)).toInt64 = y at c0
    have T0 := s117 (x := y) (S := S) a1 (by rw [c0 138 (by decide)]; exact e2) k1
    rw [h1] at T0
    have z : (wI y 138 57 0).1 159 = x.1 159 := by rw [wI_ne (by decide), c0 159 (by decide)]
    simp only [gm145_29, gm145, T0, t2, q2, i5, z, n10, n20, n21, Option.bind_some, b2i_t, b2i_f, i10, ↓reduceIte, cond_true, cond_false, kb0, kb1, kb2, s92_1, s92_0, s93_1, s93_0, s113_0, s113_1, s113_2, s113_3, aBit_b, aI01, xi0, xi1]
  have e : SB 5 x (wI (wI (wJ (wI x 104 (xi a1) a2) 187 0 (x.1 159 (xi a1)).toInt64) 138 57 0) 159 (xi a1) a2) := by
    refine SB.I ?_ (by decide) (Or.inl rfl)
    refine SB.M ?_ (Or.inr rfl)
    refine SB.J ?_ (Or.inr rfl)
    refine SB.I ?_ (by decide) (Or.inl rfl)
    exact SB.rf _ _
  refine ⟨0, _, _, _, hA, hM, rfl, fun _ => rfl, rfl, rfl, ?_⟩
  refine ⟨S, B, Z, F, U, P, I, now, hN.fr e (by decide), hC.fr e (by decide), hR.fr e (by decide), hZ.fr e (by decide), ?_, hF.fr e (by decide), hD.fr e (by decide), hP.fr e (by decide)⟩
  refine ⟨?_, fun s hs => ?_⟩
  · show (fun k => if k = xi a1 then _ else x.1 104 k) = (fun k => if k = xi a1 then _ else x.1 159 k)
    rw [w104]
  · obtain ⟨b1, b2, b3, b4, b5, b6⟩ := hb s hs
    refine ⟨?_, b2, b3.up (by omega), b4.up (by omega), b5, b6⟩
    show 0 < (if s = xi a1 then a2 else x.1 159 s).toInt ∧ (if s = xi a1 then a2 else x.1 159 s).toInt ≤ 1000
    by_cases hsa : s = xi a1
    · rw [if_pos hsa]; omega
    · rw [if_neg hsa]; exact b1
