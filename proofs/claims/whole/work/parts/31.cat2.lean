/-! The catalogue's calls -/
theorem op_service {c : Nat} {x : Hs} (h : Inv c x) : OpOK c x (gm182 x) gm120 o64 := by
  have h0 := h
  obtain ⟨S, B, Z, F, U, P, I, now, hN, hC, hR, hZ, hB, hF, hD, hP⟩ := h
  obtain ⟨⟨k1, k2⟩, ⟨e1, e2, e3, e4⟩, ⟨w3, w4, w5, w56, w57⟩, hLH, hbt, hit, hcd, hcl⟩ := id hC
  by_cases h5 : S = 5
  · subst h5
    have g1 : zI 5 ≥ 5 := by decide
    have g2 : zI 5 = 5 := rfl
    refine OpOK.no h0 (k := 1) (b := 0) (by decide) ?_ ?_
    · simp only [gm182, gm59_16, gm59, e1, e2, if_pos g1, if_pos g2, n10, n20, n21, Option.bind_some, b2i_t, b2i_f, i10, ↓reduceIte, cond_true, cond_false, kb0, kb1, kb2, s92_1, s92_0, s93_1, s93_0, s113_0, s113_1, s113_2, s113_3, aBit_b, aI01, xi0, xi1]
    · simp only [gm120_14, gm120, e1, e2, if_pos g1, if_pos g2, n10, n20, n21, Option.bind_some, b2i_t, b2i_f, i10, ↓reduceIte, cond_true, cond_false, kb0, kb1, kb2, s92_1, s92_0, s93_1, s93_0, s113_0, s113_1, s113_2, s113_3, aBit_b, aI01, xi0, xi1]
  · have g1 : ¬ (zI S ≥ 5) := by rw [show (5 : Int32) = zI 5 from rfl, zI_ge (by omega) (by omega)]; omega
    have g2 : ¬ (zI S = 5) := by rw [show (5 : Int32) = zI 5 from rfl, zI_inj (by omega) (by omega)]; omega
    have g3 : zI (S + 1) - 1 = zI S := zI_sub (a := S + 1) (b := 1) (by omega)
    have hA : gm182 x = some ((0 : Int32), wJ (wI x 2 0 (zI (S + 1))) 187 0 (zI S).toInt64) := by
      simp only [gm182, gm59_16, gm59, gm6, e1, if_neg g1, zI_succ, wI_j, g3, n10, n20, n21, Option.bind_some, b2i_t, b2i_f, i10, ↓reduceIte, cond_true, cond_false, kb0, kb1, kb2, s92_1, s92_0, s93_1, s93_0, s113_0, s113_1, s113_2, s113_3, aBit_b, aI01, xi0, xi1]
    have hM : gm120 (wJ (wI x 2 0 (zI (S + 1))) 187 0 (zI S).toInt64) = some (zI S, wI (wI (wJ (wI x 2 0 (zI (S + 1))) 187 0 (zI S).toInt64) 138 57 0) 138 1 (zI (S + 1))) := by
      have y2 : (wJ (wI x 2 0 (zI (S + 1))) 187 0 (zI S).toInt64).1 138 1 = zI S := e2
      generalize wJ (wI x 2 0 (zI (S + 1))) 187 0 (zI S).toInt64 = y at y2
      have z2 : (wI y 138 57 0).1 138 1 = zI S := y2
      simp only [gm120_14, gm120, y2, if_neg g2, z2, zI_succ, wI_j, g3, n10, n20, n21, Option.bind_some, b2i_t, b2i_f, i10, ↓reduceIte, cond_true, cond_false, kb0, kb1, kb2, s92_1, s92_0, s93_1, s93_0, s113_0, s113_1, s113_2, s113_3, aBit_b, aI01, xi0, xi1]
    refine ⟨0, _, _, _, hA, hM, ?_, fun _ => ?_, rfl, rfl, ?_⟩
    · rw [wI_nj (by decide), wI_j]
    · rfl
    · have e : SB 1 x (wI (wI (wJ (wI x 2 0 (zI (S + 1))) 187 0 (zI S).toInt64) 138 57 0) 138 1 (zI (S + 1))) := ((((SB.rf 1 x).I (by decide) (Or.inl rfl)).J (Or.inr rfl)).M (Or.inr rfl)).M (Or.inl rfl)
      refine ⟨S + 1, B, Z, F, U, P, I, now, hN.fr e (by decide), ?_, hR.fr e (by decide), hZ.fr e (by decide), hB.fr e (by decide), hF.fr e (by decide), hD.fr e (by decide), hP.fr e (by decide)⟩
      refine ⟨⟨by omega, k2⟩, ⟨rfl, rfl, e3, e4⟩, ⟨w3, w4, w5, w56, w57⟩, ?_, hbt, fun b hb => aIn_up (hit b hb) (by omega), hcd, hcl⟩
      exact LH_of hLH (fun a h1 h2 => by rw [wI_ne (by omega), wI_ne (by omega), wJ_I, wI_ne (by omega)]) rfl rfl
theorem op_needs {c : Nat} {x : Hs} (h : Inv c x) (a1 a2 : Int32) : OpOK c x (gm183 a1 a2 x) (gm122 a1 a2) o64 := by
  have h0 := h
  obtain ⟨S, B, Z, F, U, P, I, now, hN, hC, hR, hZ, hB, hF, hD, hP⟩ := h
  obtain ⟨⟨k1, k2⟩, ⟨e1, e2, e3, e4⟩, ⟨w3, w4, w5, w56, w57⟩, hLH, hbt, hit, hcd, hcl⟩ := id hC
  have t1 := s117 (S := S) a1 e2 k1
  have t2 := s117 (S := S) a2 e2 k1
  cases h1 : aIn a1 S with
  | false =>
    refine OpOK.no h0 (k := 1) (b := 0) (by decide) ?_ ?_
    · simp only [gm183, gm60_62, gm60_61, gm60_20, gm60, s94_f hC h1, t1, h1, n10, n20, n21, Option.bind_some, b2i_t, b2i_f, i10, ↓reduceIte, cond_true, cond_false, kb0, kb1, kb2, s92_1, s92_0, s93_1, s93_0, s113_0, s113_1, s113_2, s113_3, aBit_b, aI01, xi0, xi1]
    · simp only [gm122_74, gm122_69, gm122_21, gm122_20, gm122, s94_f hC h1, t1, h1, n10, n20, n21, Option.bind_some, b2i_t, b2i_f, i10, ↓reduceIte, cond_true, cond_false, kb0, kb1, kb2, s92_1, s92_0, s93_1, s93_0, s113_0, s113_1, s113_2, s113_3, aBit_b, aI01, xi0, xi1]
  | true =>
  cases h2 : aIn a2 S with
  | false =>
    refine OpOK.no h0 (k := 1) (b := 0) (by decide) ?_ ?_
    · simp only [gm183, gm60_62, gm60_61, gm60_20, gm60, s94_t hC h1, s94_f hC h2, t1, t2, h1, h2, n10, n20, n21, Option.bind_some, b2i_t, b2i_f, i10, ↓reduceIte, cond_true, cond_false, kb0, kb1, kb2, s92_1, s92_0, s93_1, s93_0, s113_0, s113_1, s113_2, s113_3, aBit_b, aI01, xi0, xi1]
    · simp only [gm122_74, gm122_69, gm122_21, gm122_20, gm122, s94_t hC h1, s94_f hC h2, t1, t2, h1, h2, n10, n20, n21, Option.bind_some, b2i_t, b2i_f, i10, ↓reduceIte, cond_true, cond_false, kb0, kb1, kb2, s92_1, s92_0, s93_1, s93_0, s113_0, s113_1, s113_2, s113_3, aBit_b, aI01, xi0, xi1]
  | true =>
  have F1 := s94_t hC h1
  have F2 := s94_t hC h2
  rw [h1] at t1
  rw [h2] at t2
  by_cases h3 : a1 = a2
  · refine OpOK.no h0 (k := 2) (b := 0) (by decide) ?_ ?_
    · simp only [gm183, gm60_62, gm60_61, gm60_20, gm60, F1, F2, t1, t2, if_pos h3, n10, n20, n21, Option.bind_some, b2i_t, b2i_f, i10, ↓reduceIte, cond_true, cond_false, kb0, kb1, kb2, s92_1, s92_0, s93_1, s93_0, s113_0, s113_1, s113_2, s113_3, aBit_b, aI01, xi0, xi1]
    · simp only [gm122_74, gm122_69, gm122_21, gm122_20, gm122, F1, F2, t1, t2, if_pos h3, n10, n20, n21, Option.bind_some, b2i_t, b2i_f, i10, ↓reduceIte, cond_true, cond_false, kb0, kb1, kb2, s92_1, s92_0, s93_1, s93_0, s113_0, s113_1, s113_2, s113_3, aBit_b, aI01, xi0, xi1]
  have i5 := aIn_up h1 k1
  have u1 := s7 a2 x i5
  have u2 := s9 e3 k2 a1
  have u3 := s9 e3 k2 a2
  rw [w3] at u1
  rw [w4] at u2 u3
  have v1 := s115 (x.1 139 (xi a1)) a2 x
  have v2 := s121 e4 k2 a1
  have v3 := s121 e4 k2 a2
  cases q1 : hs (x.1 139 (xi a1)) a2 with
  | true =>
    rw [q1] at u1 v1
    refine OpOK.no h0 (k := 3) (b := 0) (by decide) ?_ ?_
    · simp only [gm183, gm60_62, gm60_61, gm60_20, gm60, F1, F2, t1, t2, if_neg h3, u1, v1, i5, n10, n20, n21, Option.bind_some, b2i_t, b2i_f, i10, ↓reduceIte, cond_true, cond_false, kb0, kb1, kb2, s92_1, s92_0, s93_1, s93_0, s113_0, s113_1, s113_2, s113_3, aBit_b, aI01, xi0, xi1]
    · simp only [gm122_74, gm122_69, gm122_21, gm122_20, gm122, F1, F2, t1, t2, if_neg h3, u1, v1, i5, n10, n20, n21, Option.bind_some, b2i_t, b2i_f, i10, ↓reduceIte, cond_true, cond_false, kb0, kb1, kb2, s92_1, s92_0, s93_1, s93_0, s113_0, s113_1, s113_2, s113_3, aBit_b, aI01, xi0, xi1]
  | false =>
  rw [q1] at u1 v1
  cases q2 : anyF (fun b => decide (x.1 140 b = a1)) B 0 with
  | true =>
    rw [q2] at u2 v2
    refine OpOK.no h0 (k := 3) (b := 0) (by decide) ?_ ?_
    · simp only [gm183, gm60_62, gm60_61, gm60_20, gm60, F1, F2, t1, t2, if_neg h3, u1, v1, u2, v2, i5, n10, n20, n21, Option.bind_some, b2i_t, b2i_f, i10, ↓reduceIte, cond_true, cond_false, kb0, kb1, kb2, s92_1, s92_0, s93_1, s93_0, s113_0, s113_1, s113_2, s113_3, aBit_b, aI01, xi0, xi1]
    · simp only [gm122_74, gm122_69, gm122_21, gm122_20, gm122, F1, F2, t1, t2, if_neg h3, u1, v1, u2, v2, i5, n10, n20, n21, Option.bind_some, b2i_t, b2i_f, i10, ↓reduceIte, cond_true, cond_false, kb0, kb1, kb2, s92_1, s92_0, s93_1, s93_0, s113_0, s113_1, s113_2, s113_3, aBit_b, aI01, xi0, xi1]
  | false =>
  rw [q2] at u2 v2
  cases q3 : anyF (fun b => decide (x.1 140 b = a2)) B 0 with
  | true =>
    rw [q3] at u3 v3
    refine OpOK.no h0 (k := 3) (b := 0) (by decide) ?_ ?_
    · simp only [gm183, gm60_62, gm60_61, gm60_20, gm60, F1, F2, t1, t2, if_neg h3, u1, v1, u2, v2, u3, v3, i5, n10, n20, n21, Option.bind_some, b2i_t, b2i_f, i10, ↓reduceIte, cond_true, cond_false, kb0, kb1, kb2, s92_1, s92_0, s93_1, s93_0, s113_0, s113_1, s113_2, s113_3, aBit_b, aI01, xi0, xi1]
    · simp only [gm122_74, gm122_69, gm122_21, gm122_20, gm122, F1, F2, t1, t2, if_neg h3, u1, v1, u2, v2, u3, v3, i5, n10, n20, n21, Option.bind_some, b2i_t, b2i_f, i10, ↓reduceIte, cond_true, cond_false, kb0, kb1, kb2, s92_1, s92_0, s93_1, s93_0, s113_0, s113_1, s113_2, s113_3, aBit_b, aI01, xi0, xi1]
  | false =>
  rw [q3] at u3 v3
  have hb2 := bt_set (hbt (xi a1)) (aIn_up h2 k1) (by decide)
  obtain ⟨w, p1, p2⟩ := pop_ok (fun k hk => hb2 k (by omega))
  have hA : gm183 a1 a2 x = some ((0 : Int32), wJ (wI x 3 (xi a1) (x.1 139 (xi a1) ||| (1 <<< (a2 &&& 31)))) 187 0 w.toInt64) := by
    simp only [gm183, gm60_62, gm60_61, gm60_20, gm60, gm8, F1, F2, if_neg h3, u1, u2, u3, i5, w3, wI_j, p1, n10, n20, n21, Option.bind_some, b2i_t, b2i_f, i10, ↓reduceIte, cond_true, cond_false, kb0, kb1, kb2, s92_1, s92_0, s93_1, s93_0, s113_0, s113_1, s113_2, s113_3, aBit_b, aI01, xi0, xi1]
  have hM : gm122 a1 a2 (wJ (wI x 3 (xi a1) (x.1 139 (xi a1) ||| (1 <<< (a2 &&& 31)))) 187 0 w.toInt64) = some (w, wI (wI (wJ (wI x 3 (xi a1) (x.1 139 (xi a1) ||| (1 <<< (a2 &&& 31)))) 187 0 w.toInt64) 138 57 0) 139 (xi a1) (x.1 139 (xi a1) ||| (1 <<< (a2 &&& 31)))) := by
    generalize hy : wJ (wI x 3 (xi a1) (x.1 139 (xi a1) ||| (1 <<< (a2 &&& 31)))) 187 0 w.toInt64 = y
    have y1 : y.1 138 1 = zI S := by rw [← hy]; exact e2
    have y3 : y.1 138 3 = zI B := by rw [← hy]; exact e4
    have y139 : y.1 139 = x.1 139 := by rw [← hy]; rfl
    have y140 : y.1 140 = x.1 140 := by rw [← hy]; rfl
    have t1 := s117 (S := S) a1 y1 k1
    have t2 := s117 (S := S) a2 y1 k1
    have v1 := s115 (x.1 139 (xi a1)) a2 y
    have v2 := s121 y3 k2 a1
    have v3 := s121 y3 k2 a2
    rw [y140] at v2 v3
    have z139 : (wI y 138 57 0).1 139 = x.1 139 := by rw [wI_ne (by decide), y139]
    simp only [gm122_74, gm122_69, gm122_21, gm122_20, gm122, t1, t2, h1, h2, if_neg h3, y139, v1, v2, v3, q1, q2, q3, i5, z139, wI_j, p2, n10, n20, n21, Option.bind_some, b2i_t, b2i_f, i10, ↓reduceIte, cond_true, cond_false, kb0, kb1, kb2, s92_1, s92_0, s93_1, s93_0, s113_0, s113_1, s113_2, s113_3, aBit_b, aI01, xi0, xi1]
  refine ⟨0, _, _, _, hA, hM, ?_, fun _ => rfl, rfl, rfl, ?_⟩
  · rw [wI_ne (by decide), wI_j]
  · have e : SB 1 x (wI (wI (wJ (wI x 3 (xi a1) (x.1 139 (xi a1) ||| (1 <<< (a2 &&& 31)))) 187 0 w.toInt64) 138 57 0) 139 (xi a1) (x.1 139 (xi a1) ||| (1 <<< (a2 &&& 31)))) := ((((SB.rf 1 x).I (by decide) (Or.inl rfl)).J (Or.inr rfl)).M (Or.inr rfl)).I (by decide) (Or.inl rfl)
    refine ⟨S, B, Z, F, U, P, I, now, hN.fr e (by decide), ?_, hR.fr e (by decide), hZ.fr e (by decide), hB.fr e (by decide), hF.fr e (by decide), hD.fr e (by decide), hP.fr e (by decide)⟩
    refine ⟨⟨k1, k2⟩, ⟨e1, e2, e3, e4⟩, ⟨?_, w4, w5, w56, w57⟩, ?_, ?_, hit, hcd, hcl⟩
    · rw [wI_ne (by decide), wI_ne (by decide), wJ_I, wI_fn, wI_fn, wI_ne (by decide), wJ_I, wI_ne (by decide), w3]
    · exact LH_of hLH (fun a h1 h2 => by rw [wI_ne (by omega), wI_ne (by omega), wJ_I, wI_ne (by omega)]) rfl rfl
    · intro s k hk
      rw [wI_at]
      by_cases hs : s = xi a1
      · rw [if_pos hs]; exact hb2 k hk
      · rw [if_neg hs]; exact hbt s k hk
