/-! The catalogue's calls, on -/
theorem op_column {c : Nat} {x : Hs} (h : Inv c x) (a1 a2 : Int32) : OpOK c x (gm188 a1 a2 x) (gm129 a1 a2) o64 := by
  have h0 := h
  obtain ⟨S, B, Z, F, U, P, I, now, hN, hC, hR, hZ, hB, hF, hD, hP⟩ := h
  obtain ⟨⟨k1, k2⟩, ⟨e1, e2, e3, e4⟩, ⟨w3, w4, w5, w56, w57⟩, hLH, hbt, hit, hcd, hcl⟩ := id hC
  have t1 : ∀ y, gm114 a1 0 4 y = some (b2i (aIn a1 5)) := fun y => by rw [s114, show (4 : Int32) = zI 4 from rfl, win_lit a1 (by omega)]
  have t2 := fun y => s114 a2 1 100 y
  have u2 := fun y => s99 a2 1 100 y
  cases h1 : aIn a1 5 with
  | false =>
    have F1 : gm91 a1 5 x = some (.inr 0, x) := s91_f (n := 5) x h1 (by omega)
    by_cases h2 : a2 = -1
    · refine OpOK.no h0 (k := 1) (b := 0) (by decide) ?_ ?_
      · simp only [gm188, gm65_124, gm65_62, gm65_61, gm65_123, gm65_94, gm65_93, gm65_25, gm65_20, gm65, F1, t1, h1, if_pos h2, n10, n20, n21, Option.bind_some, b2i_t, b2i_f, i10, ↓reduceIte, cond_true, cond_false, kb0, kb1, kb2, s92_1, s92_0, s93_1, s93_0, s113_0, s113_1, s113_2, s113_3, aBit_b, aI01, xi0, xi1]
      · simp only [gm129_185, gm129_117, gm129_87, gm129_82, gm129_86, gm129_27, gm129_22, gm129, F1, t1, h1, if_pos h2, n10, n20, n21, Option.bind_some, b2i_t, b2i_f, i10, ↓reduceIte, cond_true, cond_false, kb0, kb1, kb2, s92_1, s92_0, s93_1, s93_0, s113_0, s113_1, s113_2, s113_3, aBit_b, aI01, xi0, xi1]
    · cases h3 : win a2 1 100 <;>
      (
        refine OpOK.no h0 (k := 1) (b := 0) (by decide) ?_ ?_
        · simp only [gm188, gm65_124, gm65_62, gm65_61, gm65_123, gm65_94, gm65_93, gm65_25, gm65_20, gm65, F1, t1, h1, t2, h3, if_neg h2, n10, n20, n21, Option.bind_some, b2i_t, b2i_f, i10, ↓reduceIte, cond_true, cond_false, kb0, kb1, kb2, s92_1, s92_0, s93_1, s93_0, s113_0, s113_1, s113_2, s113_3, aBit_b, aI01, xi0, xi1]
        · simp only [gm129_185, gm129_117, gm129_87, gm129_82, gm129_86, gm129_27, gm129_22, gm129, F1, t1, h1, t2, h3, if_neg h2, n10, n20, n21, Option.bind_some, b2i_t, b2i_f, i10, ↓reduceIte, cond_true, cond_false, kb0, kb1, kb2, s92_1, s92_0, s93_1, s93_0, s113_0, s113_1, s113_2, s113_3, aBit_b, aI01, xi0, xi1])
  | true =>
  have F1 : gm91 a1 5 x = some (.inl (), x) := s91_t (n := 5) x h1 (by omega)
  have i5 := h1
  have hc := hcl (xi a1) (aIn_lt h1)
  have u7 := s105 hC hR a1
  have v7 := s128 e4 k2 a1
  by_cases h2 : a2 = -1
  · by_cases h4 : x.1 146 (xi a1) = 100
    · have h5 : x.1 58 (xi a1) = 100 := by
        rcases hc with ⟨p1, p2⟩ | ⟨p1, p2⟩ | ⟨p1, p2⟩
        · rw [p2] at h4; exact absurd h4 (by decide)
        · rw [p2] at h4; exact absurd h4 (by decide)
        · rw [p1]; exact h4
      have g1 : ¬ (100 : Int32) = -2 := by decide
      cases q : anyF (fun b => hs (x.1 144 b) a1 && outM x (zI b)) B 0 with
      | true =>
        rw [q] at u7 v7
        refine OpOK.no h0 (k := 3) (b := 0) (by decide) ?_ ?_
        · simp only [gm188, gm65_124, gm65_62, gm65_61, gm65_123, gm65_94, gm65_93, gm65_25, gm65_20, gm65, F1, t1, h1, if_pos h2, i5, h4, h5, u7, v7, if_neg g1, n10, n20, n21, Option.bind_some, b2i_t, b2i_f, i10, ↓reduceIte, cond_true, cond_false, kb0, kb1, kb2, s92_1, s92_0, s93_1, s93_0, s113_0, s113_1, s113_2, s113_3, aBit_b, aI01, xi0, xi1]
        · simp only [gm129_185, gm129_117, gm129_87, gm129_82, gm129_86, gm129_27, gm129_22, gm129, F1, t1, h1, if_pos h2, i5, h4, h5, u7, v7, if_neg g1, n10, n20, n21, Option.bind_some, b2i_t, b2i_f, i10, ↓reduceIte, cond_true, cond_false, kb0, kb1, kb2, s92_1, s92_0, s93_1, s93_0, s113_0, s113_1, s113_2, s113_3, aBit_b, aI01, xi0, xi1]
      | false =>
        rw [q] at u7
        have hA : gm188 a1 a2 x = some ((0 : Int32), wJ (wI x 58 (xi a1) (-1)) 187 0 ((-1) : Int32).toInt64) := by
          simp only [gm188, gm65_124, gm65_62, gm65_61, gm65_123, gm65_94, gm65_93, gm65_25, gm65_20, gm65, F1, i5, wI_j, if_pos h2, h5, u7, n10, n20, n21, Option.bind_some, b2i_t, b2i_f, i10, ↓reduceIte, cond_true, cond_false, kb0, kb1, kb2, s92_1, s92_0, s93_1, s93_0, s113_0, s113_1, s113_2, s113_3, aBit_b, aI01, xi0, xi1]
        have hM : gm129 a1 a2 (wJ (wI x 58 (xi a1) (-1)) 187 0 ((-1) : Int32).toInt64) = some ((-1), wI (wI (wJ (wI x 58 (xi a1) (-1)) 187 0 ((-1) : Int32).toInt64) 138 57 0) 146 (xi a1) (-2)) := by
          have c0 : ∀ a, 138 ≤ a → (wJ (wI x 58 (xi a1) (-1)) 187 0 ((-1) : Int32).toInt64).1 a = x.1 a := fun a ha => by rw [wJ_I, wI_ne (by omega)]
          generalize wJ (wI x 58 (xi a1) (-1)) 187 0 ((-1) : Int32).toInt64 = y at c0
          have z : (wI y 138 57 0).1 146 = x.1 146 := by rw [wI_ne (by decide), c0 146 (by decide)]
          have v7 := s128 (x := y) (B := B) (by rw [c0 138 (by decide)]; exact e4) k2 a1
          rw [show (anyF (fun b => hs (y.1 144 b) a1 && outM y (zI b)) B 0) = (anyF (fun b => hs (x.1 144 b) a1 && outM x (zI b)) B 0) by unfold outM; rw [c0 144 (by decide), c0 147 (by decide), c0 148 (by decide)]] at v7
          simp only [gm129_185, gm129_117, gm129_87, gm129_82, gm129_86, gm129_27, gm129_22, gm129, t1, h1, t2, i5, z, c0 146 (by decide), wI_j, v7, if_pos h2, h4, q, if_neg g1, n10, n20, n21, Option.bind_some, b2i_t, b2i_f, i10, ↓reduceIte, cond_true, cond_false, kb0, kb1, kb2, s92_1, s92_0, s93_1, s93_0, s113_0, s113_1, s113_2, s113_3, aBit_b, aI01, xi0, xi1]
        have e : SB 1 x (wI (wI (wJ (wI x 58 (xi a1) (-1)) 187 0 ((-1) : Int32).toInt64) 138 57 0) 146 (xi a1) (-2)) := ((((SB.rf 1 x).I (by decide) (Or.inl rfl)).J (Or.inr rfl)).M (Or.inr rfl)).I (by decide) (Or.inl rfl)
        refine ⟨0, _, _, _, hA, hM, ?_, fun _ => rfl, rfl, rfl, ?_⟩
        · rw [wI_ne (by decide), wI_j]
        ·
          refine ⟨S, B, Z, F, U, P, I, now, hN.fr e (by decide), ?_, hR.fr e (by decide), hZ.fr e (by decide), hB.fr e (by decide), hF.fr e (by decide), hD.fr e (by decide), hP.fr e (by decide)⟩
          refine ⟨⟨k1, k2⟩, ⟨e1, e2, e3, e4⟩, ⟨w3, w4, w5, w56, w57⟩, ?_, hbt, hit, hcd, ?_⟩
          · exact LH_of hLH (fun a h1 h2 => by rw [wI_ne (by omega), wI_ne (by omega), wJ_I, wI_ne (by omega)]) rfl rfl
          · intro k hk
            rw [wI_ne (by decide), wI_ne (by decide), wJ_I, wI_at, wI_at]
            by_cases hkk : k = xi a1
            · rw [if_pos hkk, if_pos hkk]
              exact Or.inr (Or.inl ⟨rfl, rfl⟩)
            · rw [if_neg hkk, if_neg hkk, wI_ne (by decide), wJ_I, wI_ne (by decide)]
              exact hcl k hk
    · have h5 : ¬ x.1 58 (xi a1) = 100 := by
        rcases hc with ⟨p1, p2⟩ | ⟨p1, p2⟩ | ⟨p1, p2⟩
        · rw [p1]; decide
        · rw [p1]; decide
        · rw [p1]; exact h4
      by_cases h6 : x.1 146 (xi a1) = -2
      · refine OpOK.no h0 (k := 3) (b := 0) (by decide) ?_ ?_
        · simp only [gm188, gm65_124, gm65_62, gm65_61, gm65_123, gm65_94, gm65_93, gm65_25, gm65_20, gm65, F1, t1, h1, if_pos h2, i5, if_pos h6, if_neg h5, n10, n20, n21, Option.bind_some, b2i_t, b2i_f, i10, ↓reduceIte, cond_true, cond_false, kb0, kb1, kb2, s92_1, s92_0, s93_1, s93_0, s113_0, s113_1, s113_2, s113_3, aBit_b, aI01, xi0, xi1]
        · simp only [gm129_185, gm129_117, gm129_87, gm129_82, gm129_86, gm129_27, gm129_22, gm129, F1, t1, h1, if_pos h2, i5, if_pos h6, if_neg h5, n10, n20, n21, Option.bind_some, b2i_t, b2i_f, i10, ↓reduceIte, cond_true, cond_false, kb0, kb1, kb2, s92_1, s92_0, s93_1, s93_0, s113_0, s113_1, s113_2, s113_3, aBit_b, aI01, xi0, xi1]
      · refine OpOK.no h0 (k := 3) (b := 0) (by decide) ?_ ?_
        · simp only [gm188, gm65_124, gm65_62, gm65_61, gm65_123, gm65_94, gm65_93, gm65_25, gm65_20, gm65, F1, t1, h1, if_pos h2, i5, if_neg h6, if_neg h4, if_neg h5, n10, n20, n21, Option.bind_some, b2i_t, b2i_f, i10, ↓reduceIte, cond_true, cond_false, kb0, kb1, kb2, s92_1, s92_0, s93_1, s93_0, s113_0, s113_1, s113_2, s113_3, aBit_b, aI01, xi0, xi1]
        · simp only [gm129_185, gm129_117, gm129_87, gm129_82, gm129_86, gm129_27, gm129_22, gm129, F1, t1, h1, if_pos h2, i5, if_neg h6, if_neg h4, if_neg h5, n10, n20, n21, Option.bind_some, b2i_t, b2i_f, i10, ↓reduceIte, cond_true, cond_false, kb0, kb1, kb2, s92_1, s92_0, s93_1, s93_0, s113_0, s113_1, s113_2, s113_3, aBit_b, aI01, xi0, xi1]
  · cases h3 : win a2 1 100 with
    | false =>
      by_cases h6 : x.1 146 (xi a1) = -2
      · refine OpOK.no h0 (k := 2) (b := 0) (by decide) ?_ ?_
        · simp only [gm188, gm65_124, gm65_62, gm65_61, gm65_123, gm65_94, gm65_93, gm65_25, gm65_20, gm65, F1, t1, h1, if_neg h2, t2, u2, h3, i5, if_pos h6, n10, n20, n21, Option.bind_some, b2i_t, b2i_f, i10, ↓reduceIte, cond_true, cond_false, kb0, kb1, kb2, s92_1, s92_0, s93_1, s93_0, s113_0, s113_1, s113_2, s113_3, aBit_b, aI01, xi0, xi1]
        · simp only [gm129_185, gm129_117, gm129_87, gm129_82, gm129_86, gm129_27, gm129_22, gm129, F1, t1, h1, if_neg h2, t2, u2, h3, i5, if_pos h6, n10, n20, n21, Option.bind_some, b2i_t, b2i_f, i10, ↓reduceIte, cond_true, cond_false, kb0, kb1, kb2, s92_1, s92_0, s93_1, s93_0, s113_0, s113_1, s113_2, s113_3, aBit_b, aI01, xi0, xi1]
      · by_cases h7 : x.1 146 (xi a1) ≥ 100
        · refine OpOK.no h0 (k := 2) (b := 0) (by decide) ?_ ?_
          · simp only [gm188, gm65_124, gm65_62, gm65_61, gm65_123, gm65_94, gm65_93, gm65_25, gm65_20, gm65, F1, t1, h1, if_neg h2, t2, u2, h3, i5, if_neg h6, if_pos h7, n10, n20, n21, Option.bind_some, b2i_t, b2i_f, i10, ↓reduceIte, cond_true, cond_false, kb0, kb1, kb2, s92_1, s92_0, s93_1, s93_0, s113_0, s113_1, s113_2, s113_3, aBit_b, aI01, xi0, xi1]
          · simp only [gm129_185, gm129_117, gm129_87, gm129_82, gm129_86, gm129_27, gm129_22, gm129, F1, t1, h1, if_neg h2, t2, u2, h3, i5, if_neg h6, if_pos h7, n10, n20, n21, Option.bind_some, b2i_t, b2i_f, i10, ↓reduceIte, cond_true, cond_false, kb0, kb1, kb2, s92_1, s92_0, s93_1, s93_0, s113_0, s113_1, s113_2, s113_3, aBit_b, aI01, xi0, xi1]
        · refine OpOK.no h0 (k := 2) (b := 0) (by decide) ?_ ?_
          · simp only [gm188, gm65_124, gm65_62, gm65_61, gm65_123, gm65_94, gm65_93, gm65_25, gm65_20, gm65, F1, t1, h1, if_neg h2, t2, u2, h3, i5, if_neg h6, if_neg h7, n10, n20, n21, Option.bind_some, b2i_t, b2i_f, i10, ↓reduceIte, cond_true, cond_false, kb0, kb1, kb2, s92_1, s92_0, s93_1, s93_0, s113_0, s113_1, s113_2, s113_3, aBit_b, aI01, xi0, xi1]
          · simp only [gm129_185, gm129_117, gm129_87, gm129_82, gm129_86, gm129_27, gm129_22, gm129, F1, t1, h1, if_neg h2, t2, u2, h3, i5, if_neg h6, if_neg h7, n10, n20, n21, Option.bind_some, b2i_t, b2i_f, i10, ↓reduceIte, cond_true, cond_false, kb0, kb1, kb2, s92_1, s92_0, s93_1, s93_0, s113_0, s113_1, s113_2, s113_3, aBit_b, aI01, xi0, xi1]
    | true =>
      have hw := (win_iff _ _ _).mp h3
      rw [show (1 : Int32).toInt = 1 from rfl, show (100 : Int32).toInt = 100 from rfl] at hw
      rcases hc with ⟨p1, p2⟩ | ⟨p1, p2⟩ | ⟨p1, p2⟩
      · have g1 : ¬ (-2 : Int32) = -1 := by decide
        have g2 : ¬ (-2 : Int32) = 100 := by decide
        have g3 : ¬ (-1 : Int32) = -2 := by decide
        have g4 : ¬ (-1 : Int32) ≥ 100 := by decide
        have hA : gm188 a1 a2 x = some ((0 : Int32), wJ (wI x 58 (xi a1) 0) 187 0 (0 : Int32).toInt64) := by
          simp only [gm188, gm65_124, gm65_62, gm65_61, gm65_123, gm65_94, gm65_93, gm65_25, gm65_20, gm65, F1, i5, wI_j, if_neg h2, u2, h3, p1, if_neg g1, if_neg g2, n10, n20, n21, Option.bind_some, b2i_t, b2i_f, i10, ↓reduceIte, cond_true, cond_false, kb0, kb1, kb2, s92_1, s92_0, s93_1, s93_0, s113_0, s113_1, s113_2, s113_3, aBit_b, aI01, xi0, xi1]
        have hM : gm129 a1 a2 (wJ (wI x 58 (xi a1) 0) 187 0 (0 : Int32).toInt64) = some (0, wI (wI (wJ (wI x 58 (xi a1) 0) 187 0 (0 : Int32).toInt64) 138 57 0) 146 (xi a1) 0) := by
          have c0 : ∀ a, 138 ≤ a → (wJ (wI x 58 (xi a1) 0) 187 0 (0 : Int32).toInt64).1 a = x.1 a := fun a ha => by rw [wJ_I, wI_ne (by omega)]
          generalize wJ (wI x 58 (xi a1) 0) 187 0 (0 : Int32).toInt64 = y at c0
          have z : (wI y 138 57 0).1 146 = x.1 146 := by rw [wI_ne (by decide), c0 146 (by decide)]
          have v7 := s128 (x := y) (B := B) (by rw [c0 138 (by decide)]; exact e4) k2 a1
          rw [show (anyF (fun b => hs (y.1 144 b) a1 && outM y (zI b)) B 0) = (anyF (fun b => hs (x.1 144 b) a1 && outM x (zI b)) B 0) by unfold outM; rw [c0 144 (by decide), c0 147 (by decide), c0 148 (by decide)]] at v7
          simp only [gm129_185, gm129_117, gm129_87, gm129_82, gm129_86, gm129_27, gm129_22, gm129, t1, h1, t2, i5, z, c0 146 (by decide), wI_j, v7, if_neg h2, h3, p2, if_neg g3, if_neg g4, n10, n20, n21, Option.bind_some, b2i_t, b2i_f, i10, ↓reduceIte, cond_true, cond_false, kb0, kb1, kb2, s92_1, s92_0, s93_1, s93_0, s113_0, s113_1, s113_2, s113_3, aBit_b, aI01, xi0, xi1]
        have e : SB 1 x (wI (wI (wJ (wI x 58 (xi a1) 0) 187 0 (0 : Int32).toInt64) 138 57 0) 146 (xi a1) 0) := ((((SB.rf 1 x).I (by decide) (Or.inl rfl)).J (Or.inr rfl)).M (Or.inr rfl)).I (by decide) (Or.inl rfl)
        refine ⟨0, _, _, _, hA, hM, ?_, fun _ => rfl, rfl, rfl, ?_⟩
        · rw [wI_ne (by decide), wI_j]
        ·
          refine ⟨S, B, Z, F, U, P, I, now, hN.fr e (by decide), ?_, hR.fr e (by decide), hZ.fr e (by decide), hB.fr e (by decide), hF.fr e (by decide), hD.fr e (by decide), hP.fr e (by decide)⟩
          refine ⟨⟨k1, k2⟩, ⟨e1, e2, e3, e4⟩, ⟨w3, w4, w5, w56, w57⟩, ?_, hbt, hit, hcd, ?_⟩
          · exact LH_of hLH (fun a h1 h2 => by rw [wI_ne (by omega), wI_ne (by omega), wJ_I, wI_ne (by omega)]) rfl rfl
          · intro k hk
            rw [wI_ne (by decide), wI_ne (by decide), wJ_I, wI_at, wI_at]
            by_cases hkk : k = xi a1
            · rw [if_pos hkk, if_pos hkk]
              exact Or.inr (Or.inr ⟨rfl, rfl⟩)
            · rw [if_neg hkk, if_neg hkk, wI_ne (by decide), wJ_I, wI_ne (by decide)]
              exact hcl k hk
      · refine OpOK.no h0 (k := 3) (b := 0) (by decide) ?_ ?_
        · simp only [gm188, gm65_124, gm65_62, gm65_61, gm65_123, gm65_94, gm65_93, gm65_25, gm65_20, gm65, F1, t1, h1, if_neg h2, t2, u2, h3, i5, p1, p2, n10, n20, n21, Option.bind_some, b2i_t, b2i_f, i10, ↓reduceIte, cond_true, cond_false, kb0, kb1, kb2, s92_1, s92_0, s93_1, s93_0, s113_0, s113_1, s113_2, s113_3, aBit_b, aI01, xi0, xi1]
        · simp only [gm129_185, gm129_117, gm129_87, gm129_82, gm129_86, gm129_27, gm129_22, gm129, F1, t1, h1, if_neg h2, t2, u2, h3, i5, p1, p2, n10, n20, n21, Option.bind_some, b2i_t, b2i_f, i10, ↓reduceIte, cond_true, cond_false, kb0, kb1, kb2, s92_1, s92_0, s93_1, s93_0, s113_0, s113_1, s113_2, s113_3, aBit_b, aI01, xi0, xi1]
      · by_cases h4 : x.1 146 (xi a1) = 100
        · have g1 : ¬ (100 : Int32) = -1 := by decide
          have g3 : ¬ (100 : Int32) = -2 := by decide
          have g4 : (100 : Int32) ≥ 100 := by decide
          refine OpOK.no h0 (k := 3) (b := 0) (by decide) ?_ ?_
          · simp only [gm188, gm65_124, gm65_62, gm65_61, gm65_123, gm65_94, gm65_93, gm65_25, gm65_20, gm65, F1, t1, h1, if_neg h2, t2, u2, h3, i5, p1, h4, if_neg g1, if_neg g3, if_pos g4, n10, n20, n21, Option.bind_some, b2i_t, b2i_f, i10, ↓reduceIte, cond_true, cond_false, kb0, kb1, kb2, s92_1, s92_0, s93_1, s93_0, s113_0, s113_1, s113_2, s113_3, aBit_b, aI01, xi0, xi1]
          · simp only [gm129_185, gm129_117, gm129_87, gm129_82, gm129_86, gm129_27, gm129_22, gm129, F1, t1, h1, if_neg h2, t2, u2, h3, i5, p1, h4, if_neg g1, if_neg g3, if_pos g4, n10, n20, n21, Option.bind_some, b2i_t, b2i_f, i10, ↓reduceIte, cond_true, cond_false, kb0, kb1, kb2, s92_1, s92_0, s93_1, s93_0, s113_0, s113_1, s113_2, s113_3, aBit_b, aI01, xi0, xi1]
        · rw [aIn_iff] at p2
          have g1 : ¬ x.1 146 (xi a1) = -1 := by rw [i_eq, m1_int]; omega
          have g2 : ¬ x.1 146 (xi a1) = -2 := by rw [i_eq, show (-2 : Int32).toInt = -2 from rfl]; omega
          have h4i : ¬ (x.1 146 (xi a1)).toInt = 100 := fun w => h4 ((i_eq _ _).mpr w)
          have g3 : ¬ x.1 146 (xi a1) ≥ 100 := by rw [i_ge, show (100 : Int32).toInt = 100 from rfl]; omega
          have g5 : (x.1 146 (xi a1) + a2).toInt = (x.1 146 (xi a1)).toInt + a2.toInt := i_add (by omega) (by omega)
          by_cases h8 : x.1 146 (xi a1) + a2 ≤ 100
          · have h8i := h8
            rw [i_le, g5, show (100 : Int32).toInt = 100 from rfl] at h8i
            have g6 : (if x.1 146 (xi a1) + a2 < 100 then x.1 146 (xi a1) + a2 else 100) = x.1 146 (xi a1) + a2 := by
              by_cases h9 : x.1 146 (xi a1) + a2 < 100
              · rw [if_pos h9]
              · rw [if_neg h9, i_eq, g5]
                rw [i_lt, g5, show (100 : Int32).toInt = 100 from rfl] at h9
                rw [show (100 : Int32).toInt = 100 from rfl]
                omega
            have hA : gm188 a1 a2 x = some ((0 : Int32), wJ (wI x 58 (xi a1) (x.1 146 (xi a1) + a2)) 187 0 ((x.1 146 (xi a1) + a2) : Int32).toInt64) := by
              simp only [gm188, gm65_124, gm65_62, gm65_61, gm65_123, gm65_94, gm65_93, gm65_25, gm65_20, gm65, F1, i5, wI_j, if_neg h2, u2, h3, p1, if_neg g1, if_neg g2, if_neg h4, g6, n10, n20, n21, Option.bind_some, b2i_t, b2i_f, i10, ↓reduceIte, cond_true, cond_false, kb0, kb1, kb2, s92_1, s92_0, s93_1, s93_0, s113_0, s113_1, s113_2, s113_3, aBit_b, aI01, xi0, xi1]
            have hM : gm129 a1 a2 (wJ (wI x 58 (xi a1) (x.1 146 (xi a1) + a2)) 187 0 ((x.1 146 (xi a1) + a2) : Int32).toInt64) = some ((x.1 146 (xi a1) + a2), wI (wI (wJ (wI x 58 (xi a1) (x.1 146 (xi a1) + a2)) 187 0 ((x.1 146 (xi a1) + a2) : Int32).toInt64) 138 57 0) 146 (xi a1) (x.1 146 (xi a1) + a2)) := by
              have c0 : ∀ a, 138 ≤ a → (wJ (wI x 58 (xi a1) (x.1 146 (xi a1) + a2)) 187 0 ((x.1 146 (xi a1) + a2) : Int32).toInt64).1 a = x.1 a := fun a ha => by rw [wJ_I, wI_ne (by omega)]
              generalize wJ (wI x 58 (xi a1) (x.1 146 (xi a1) + a2)) 187 0 ((x.1 146 (xi a1) + a2) : Int32).toInt64 = y at c0
              have z : (wI y 138 57 0).1 146 = x.1 146 := by rw [wI_ne (by decide), c0 146 (by decide)]
              have v7 := s128 (x := y) (B := B) (by rw [c0 138 (by decide)]; exact e4) k2 a1
              rw [show (anyF (fun b => hs (y.1 144 b) a1 && outM y (zI b)) B 0) = (anyF (fun b => hs (x.1 144 b) a1 && outM x (zI b)) B 0) by unfold outM; rw [c0 144 (by decide), c0 147 (by decide), c0 148 (by decide)]] at v7
              simp only [gm129_185, gm129_117, gm129_87, gm129_82, gm129_86, gm129_27, gm129_22, gm129, t1, h1, t2, i5, z, c0 146 (by decide), wI_j, v7, if_neg h2, h3, if_neg g1, if_neg g2, if_neg g3, if_pos h8, n10, n20, n21, Option.bind_some, b2i_t, b2i_f, i10, ↓reduceIte, cond_true, cond_false, kb0, kb1, kb2, s92_1, s92_0, s93_1, s93_0, s113_0, s113_1, s113_2, s113_3, aBit_b, aI01, xi0, xi1]
            have e : SB 1 x (wI (wI (wJ (wI x 58 (xi a1) (x.1 146 (xi a1) + a2)) 187 0 ((x.1 146 (xi a1) + a2) : Int32).toInt64) 138 57 0) 146 (xi a1) (x.1 146 (xi a1) + a2)) := ((((SB.rf 1 x).I (by decide) (Or.inl rfl)).J (Or.inr rfl)).M (Or.inr rfl)).I (by decide) (Or.inl rfl)
            refine ⟨0, _, _, _, hA, hM, ?_, fun _ => rfl, rfl, rfl, ?_⟩
            · rw [wI_ne (by decide), wI_j]
            ·
              refine ⟨S, B, Z, F, U, P, I, now, hN.fr e (by decide), ?_, hR.fr e (by decide), hZ.fr e (by decide), hB.fr e (by decide), hF.fr e (by decide), hD.fr e (by decide), hP.fr e (by decide)⟩
              refine ⟨⟨k1, k2⟩, ⟨e1, e2, e3, e4⟩, ⟨w3, w4, w5, w56, w57⟩, ?_, hbt, hit, hcd, ?_⟩
              · exact LH_of hLH (fun a h1 h2 => by rw [wI_ne (by omega), wI_ne (by omega), wJ_I, wI_ne (by omega)]) rfl rfl
              · intro k hk
                rw [wI_ne (by decide), wI_ne (by decide), wJ_I, wI_at, wI_at]
                by_cases hkk : k = xi a1
                · rw [if_pos hkk, if_pos hkk]
                  exact Or.inr (Or.inr ⟨rfl, by rw [aIn_iff, g5]; omega⟩)
                · rw [if_neg hkk, if_neg hkk, wI_ne (by decide), wJ_I, wI_ne (by decide)]
                  exact hcl k hk
          · have h8i := h8
            rw [i_le, g5, show (100 : Int32).toInt = 100 from rfl] at h8i
            have g6 : (if x.1 146 (xi a1) + a2 < 100 then x.1 146 (xi a1) + a2 else 100) = 100 := by
              rw [if_neg]
              rw [i_lt, g5, show (100 : Int32).toInt = 100 from rfl]
              omega
            have hA : gm188 a1 a2 x = some ((0 : Int32), wJ (wI x 58 (xi a1) 100) 187 0 (100 : Int32).toInt64) := by
              simp only [gm188, gm65_124, gm65_62, gm65_61, gm65_123, gm65_94, gm65_93, gm65_25, gm65_20, gm65, F1, i5, wI_j, if_neg h2, u2, h3, p1, if_neg g1, if_neg g2, if_neg h4, g6, n10, n20, n21, Option.bind_some, b2i_t, b2i_f, i10, ↓reduceIte, cond_true, cond_false, kb0, kb1, kb2, s92_1, s92_0, s93_1, s93_0, s113_0, s113_1, s113_2, s113_3, aBit_b, aI01, xi0, xi1]
            have hM : gm129 a1 a2 (wJ (wI x 58 (xi a1) 100) 187 0 (100 : Int32).toInt64) = some (100, wI (wI (wJ (wI x 58 (xi a1) 100) 187 0 (100 : Int32).toInt64) 138 57 0) 146 (xi a1) 100) := by
              have c0 : ∀ a, 138 ≤ a → (wJ (wI x 58 (xi a1) 100) 187 0 (100 : Int32).toInt64).1 a = x.1 a := fun a ha => by rw [wJ_I, wI_ne (by omega)]
              generalize wJ (wI x 58 (xi a1) 100) 187 0 (100 : Int32).toInt64 = y at c0
              have z : (wI y 138 57 0).1 146 = x.1 146 := by rw [wI_ne (by decide), c0 146 (by decide)]
              have v7 := s128 (x := y) (B := B) (by rw [c0 138 (by decide)]; exact e4) k2 a1
              rw [show (anyF (fun b => hs (y.1 144 b) a1 && outM y (zI b)) B 0) = (anyF (fun b => hs (x.1 144 b) a1 && outM x (zI b)) B 0) by unfold outM; rw [c0 144 (by decide), c0 147 (by decide), c0 148 (by decide)]] at v7
              simp only [gm129_185, gm129_117, gm129_87, gm129_82, gm129_86, gm129_27, gm129_22, gm129, t1, h1, t2, i5, z, c0 146 (by decide), wI_j, v7, if_neg h2, h3, if_neg g1, if_neg g2, if_neg g3, if_neg h8, n10, n20, n21, Option.bind_some, b2i_t, b2i_f, i10, ↓reduceIte, cond_true, cond_false, kb0, kb1, kb2, s92_1, s92_0, s93_1, s93_0, s113_0, s113_1, s113_2, s113_3, aBit_b, aI01, xi0, xi1]
            have e : SB 1 x (wI (wI (wJ (wI x 58 (xi a1) 100) 187 0 (100 : Int32).toInt64) 138 57 0) 146 (xi a1) 100) := ((((SB.rf 1 x).I (by decide) (Or.inl rfl)).J (Or.inr rfl)).M (Or.inr rfl)).I (by decide) (Or.inl rfl)
            refine ⟨0, _, _, _, hA, hM, ?_, fun _ => rfl, rfl, rfl, ?_⟩
            · rw [wI_ne (by decide), wI_j]
            ·
              refine ⟨S, B, Z, F, U, P, I, now, hN.fr e (by decide), ?_, hR.fr e (by decide), hZ.fr e (by decide), hB.fr e (by decide), hF.fr e (by decide), hD.fr e (by decide), hP.fr e (by decide)⟩
              refine ⟨⟨k1, k2⟩, ⟨e1, e2, e3, e4⟩, ⟨w3, w4, w5, w56, w57⟩, ?_, hbt, hit, hcd, ?_⟩
              · exact LH_of hLH (fun a h1 h2 => by rw [wI_ne (by omega), wI_ne (by omega), wJ_I, wI_ne (by omega)]) rfl rfl
              · intro k hk
                rw [wI_ne (by decide), wI_ne (by decide), wJ_I, wI_at, wI_at]
                by_cases hkk : k = xi a1
                · rw [if_pos hkk, if_pos hkk]
                  exact Or.inr (Or.inr ⟨rfl, rfl⟩)
                · rw [if_neg hkk, if_neg hkk, wI_ne (by decide), wJ_I, wI_ne (by decide)]
                  exact hcl k hk
