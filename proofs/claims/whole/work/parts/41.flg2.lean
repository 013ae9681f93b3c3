/-! The flags' calls -/
theorem cfl_cg {x y : Hs} (h : ∀ a, 166 ≤ a → a ≤ 168 → y.1 a = x.1 a) (l a b but : Int32) : cfl y l a b but = cfl x l a b but := by
  unfold cfl
  rw [h 166 (by decide) (by decide), h 167 (by decide) (by decide), h 168 (by decide) (by decide)]
theorem R148_94_1 (a1 : Int32) (a2 : Int32) (a3 : Int32) (a4 : Int32) (x : Hs) : gm148_94 a1 a2 a3 a4 1 x = some (0, wI x 138 57 1) := by
  unfold gm148_94
  rw [s113_1]
  rfl
theorem R148_94_2 (a1 : Int32) (a2 : Int32) (a3 : Int32) (a4 : Int32) (x : Hs) : gm148_94 a1 a2 a3 a4 2 x = some (0, wI x 138 57 2) := by
  unfold gm148_94
  rw [s113_2]
  rfl
theorem R148_94_3 (a1 : Int32) (a2 : Int32) (a3 : Int32) (a4 : Int32) (x : Hs) : gm148_94 a1 a2 a3 a4 3 x = some (0, wI x 138 57 3) := by
  unfold gm148_94
  rw [s113_3]
  rfl
theorem op_flag {c : Nat} {x : Hs} (h : Inv c x) (a1 a2 a3 a4 : Int32) : OpOK c x (gm197 a1 a2 a3 a4 x) (gm148 a1 a2 a3 a4) o64 := by
  have h0 := h
  obtain ⟨S, B, Z, F, U, P, I, now, hN, hC, hR, hZ, hB, hF, hD, hP⟩ := h
  obtain ⟨⟨k1, k2⟩, ⟨e1, e2, e3, e4⟩, ⟨w108, w109, w110, w111, w112, w113, w114⟩, hkl, hnd, hus, hkz, hkb⟩ := id hF
  have t0 : ∀ y, y.1 138 31 = zI F → gm114 a4 (-1) (y.1 138 31 - 1) y = some (b2i (decide (a4 = -1) || aIn a4 F)) := by
    intro y hy
    rw [hy, s114]
    congr 2
    rw [Bool.eq_iff_iff, win_iff, Bool.or_eq_true, decide_eq_true_eq, aIn_iff, i_eq, m1_int]
    have h1 : (zI F - 1).toInt = F - 1 := by
      rw [i_sub] <;> rw [zI_int (by omega), show (1 : Int32).toInt = 1 from rfl] <;> omega
    rw [h1]
    omega
  have t1 : ∀ y, gm114 a1 0 3 y = some (b2i (win a1 0 3)) := fun y => s114 a1 0 3 y
  have t2 := fun y => s114 a2 0 100 y
  have t3 := fun y => s114 a3 a2 100 y
  have u1 := fun y => s99 a1 0 3 y
  have u2 := fun y => s99 a2 0 100 y
  have u3 := fun y => s99 a3 a2 100 y
  have T0 := t0 x e2
  have T0z := T0
  rw [e2] at T0z
  by_cases g : a4 = -1 ∨ aIn a4 F = true
  case neg =>
    have g1 : ¬ a4 = -1 := fun w => g (Or.inl w)
    have g2 : aIn a4 F = false := by
      cases q : aIn a4 F with
      | false => rfl
      | true => exact absurd (Or.inr q) g
    rw [decide_eq_false g1, g2] at T0
    cases q1 : win a1 0 3 <;> cases q2 : win a2 0 100 <;> cases q3 : win a3 a2 100 <;>
    (
      refine OpOK.no h0 (k := 1) (b := 0) (by decide) ?_ ?_
      · simp only [gm197, gm74_68, gm74_67, gm74_34, gm74_33, gm74_12, gm74, T0, if_neg g1, s97_f hF g2, Bool.or_false, t1, t2, t3, q1, q2, q3, n10, n20, n21, Option.bind_some, b2i_t, b2i_f, i10, ↓reduceIte, cond_true, cond_false, kb0, kb1, kb2, s92_1, s92_0, s93_1, s93_0, s113_0, s113_1, s113_2, s113_3, aBit_b, aI01, xi0, xi1]
      · simp only [R148_94_1, R148_94_2, R148_94_3, gm148_89, gm148_48, gm148_47, gm148, T0, if_neg g1, s97_f hF g2, Bool.or_false, t1, t2, t3, q1, q2, q3, n10, n20, n21, Option.bind_some, b2i_t, b2i_f, i10, ↓reduceIte, cond_true, cond_false, kb0, kb1, kb2, s92_1, s92_0, s93_1, s93_0, s113_0, s113_1, s113_2, s113_3, aBit_b, aI01, xi0, xi1])
  case pos =>
  have G : ∀ y, IFlg F U y → gm74 a1 a2 a3 a4 y = gm74_12 a1 a2 a3 a4 y := by
    intro y hy
    unfold gm74
    by_cases g1 : a4 = -1
    · rw [if_pos g1]
    · rw [if_neg g1, s97_t hy (g.resolve_left g1)]
      rfl
  have GX := G x hF
  have g9 : (decide (a4 = -1) || aIn a4 F) = true := by
    rw [Bool.or_eq_true, decide_eq_true_eq]; exact g
  rw [g9] at T0 T0z
  cases q1 : win a1 0 3 with
  | false =>
    refine OpOK.no h0 (k := 2) (b := 0) (by decide) ?_ ?_
    · simp only [gm197, gm74_68, gm74_67, gm74_34, gm74_33, gm74_12, GX, T0, t1, u1, q1, n10, n20, n21, Option.bind_some, b2i_t, b2i_f, i10, ↓reduceIte, cond_true, cond_false, kb0, kb1, kb2, s92_1, s92_0, s93_1, s93_0, s113_0, s113_1, s113_2, s113_3, aBit_b, aI01, xi0, xi1]
    · simp only [R148_94_1, R148_94_2, R148_94_3, gm148_89, gm148_48, gm148_47, gm148, GX, T0, t1, u1, q1, n10, n20, n21, Option.bind_some, b2i_t, b2i_f, i10, ↓reduceIte, cond_true, cond_false, kb0, kb1, kb2, s92_1, s92_0, s93_1, s93_0, s113_0, s113_1, s113_2, s113_3, aBit_b, aI01, xi0, xi1]
  | true =>
  cases q2 : win a2 0 100 with
  | false =>
    refine OpOK.no h0 (k := 2) (b := 0) (by decide) ?_ ?_
    · simp only [gm197, gm74_68, gm74_67, gm74_34, gm74_33, gm74_12, GX, T0, t1, u1, q1, t2, u2, q2, gm100, n10, n20, n21, Option.bind_some, b2i_t, b2i_f, i10, ↓reduceIte, cond_true, cond_false, kb0, kb1, kb2, s92_1, s92_0, s93_1, s93_0, s113_0, s113_1, s113_2, s113_3, aBit_b, aI01, xi0, xi1]
    · simp only [R148_94_1, R148_94_2, R148_94_3, gm148_89, gm148_48, gm148_47, gm148, GX, T0, t1, u1, q1, t2, u2, q2, gm100, n10, n20, n21, Option.bind_some, b2i_t, b2i_f, i10, ↓reduceIte, cond_true, cond_false, kb0, kb1, kb2, s92_1, s92_0, s93_1, s93_0, s113_0, s113_1, s113_2, s113_3, aBit_b, aI01, xi0, xi1]
  | true =>
  cases q3 : win a3 a2 100 with
  | false =>
    refine OpOK.no h0 (k := 2) (b := 0) (by decide) ?_ ?_
    · simp only [gm197, gm74_68, gm74_67, gm74_34, gm74_33, gm74_12, GX, T0, t1, u1, q1, t2, u2, q2, t3, u3, q3, gm100, n10, n20, n21, Option.bind_some, b2i_t, b2i_f, i10, ↓reduceIte, cond_true, cond_false, kb0, kb1, kb2, s92_1, s92_0, s93_1, s93_0, s113_0, s113_1, s113_2, s113_3, aBit_b, aI01, xi0, xi1]
    · simp only [R148_94_1, R148_94_2, R148_94_3, gm148_89, gm148_48, gm148_47, gm148, GX, T0, t1, u1, q1, t2, u2, q2, t3, u3, q3, gm100, n10, n20, n21, Option.bind_some, b2i_t, b2i_f, i10, ↓reduceIte, cond_true, cond_false, kb0, kb1, kb2, s92_1, s92_0, s93_1, s93_0, s113_0, s113_1, s113_2, s113_3, aBit_b, aI01, xi0, xi1]
  | true =>
  by_cases g5 : F = 12
  · subst g5
    have g6 : zI 12 ≥ 12 := by decide
    have g7 : zI 12 = 12 := rfl
    refine OpOK.no h0 (k := 3) (b := 0) (by decide) ?_ ?_
    · simp only [gm197, gm74_68, gm74_67, gm74_34, gm74_33, gm74_12, GX, T0z, t1, u1, q1, t2, u2, q2, t3, u3, q3, gm100, e1, e2, if_pos g6, if_pos g7, n10, n20, n21, Option.bind_some, b2i_t, b2i_f, i10, ↓reduceIte, cond_true, cond_false, kb0, kb1, kb2, s92_1, s92_0, s93_1, s93_0, s113_0, s113_1, s113_2, s113_3, aBit_b, aI01, xi0, xi1]
    · simp only [R148_94_1, R148_94_2, R148_94_3, gm148_89, gm148_48, gm148_47, gm148, GX, T0z, t1, u1, q1, t2, u2, q2, t3, u3, q3, gm100, e1, e2, if_pos g6, if_pos g7, n10, n20, n21, Option.bind_some, b2i_t, b2i_f, i10, ↓reduceIte, cond_true, cond_false, kb0, kb1, kb2, s92_1, s92_0, s93_1, s93_0, s113_0, s113_1, s113_2, s113_3, aBit_b, aI01, xi0, xi1]
  have g6 : ¬ zI F ≥ 12 := by rw [show (12 : Int32) = zI 12 from rfl, zI_ge (by omega) (by omega)]; omega
  have g7 : ¬ zI F = 12 := by rw [show (12 : Int32) = zI 12 from rfl, zI_inj (by omega) (by omega)]; omega
  have u4 := s24 hF a1 a2 a3 (-1)
  have t4 := s147 e2 k1 a1 a2 a3 (-1)
  cases q4 : anyF (cfl x a1 a2 a3 (-1)) F 0 with
  | true =>
    rw [q4] at u4 t4
    refine OpOK.no h0 (k := 3) (b := 0) (by decide) ?_ ?_
    · simp only [gm197, gm74_68, gm74_67, gm74_34, gm74_33, gm74_12, GX, T0z, t1, u1, q1, t2, u2, q2, t3, u3, q3, gm100, e1, e2, if_neg g6, if_neg g7, u4, t4, Bool.not_true, n10, n20, n21, Option.bind_some, b2i_t, b2i_f, i10, ↓reduceIte, cond_true, cond_false, kb0, kb1, kb2, s92_1, s92_0, s93_1, s93_0, s113_0, s113_1, s113_2, s113_3, aBit_b, aI01, xi0, xi1]
    · simp only [R148_94_1, R148_94_2, R148_94_3, gm148_89, gm148_48, gm148_47, gm148, GX, T0z, t1, u1, q1, t2, u2, q2, t3, u3, q3, gm100, e1, e2, if_neg g6, if_neg g7, u4, t4, Bool.not_true, n10, n20, n21, Option.bind_some, b2i_t, b2i_f, i10, ↓reduceIte, cond_true, cond_false, kb0, kb1, kb2, s92_1, s92_0, s93_1, s93_0, s113_0, s113_1, s113_2, s113_3, aBit_b, aI01, xi0, xi1]
  | false =>
  rw [q4] at u4
  have i12 : aIn (zI F) 12 = true := aIn_t (by omega) (by omega)
  have xF : xi (zI F) = F := xi_zI (by omega)
  have g3 : zI (F + 1) - 1 = zI F := zI_sub (a := F + 1) (b := 1) (by omega)
  have r1 : (wI (wI (wI (wI x 108 F a1) 109 F a2) 110 F a3) 112 F a4).1 107 0 = zI F := e1
  have hA : gm197 a1 a2 a3 a4 x = some ((0 : Int32), wJ (wI (wI (wI (wI (wI x 108 F a1) 109 F a2) 110 F a3) 112 F a4) 107 0 (zI (F + 1))) 187 0 (zI F).toInt64) := by
    simp only [gm197, gm74_68, gm74_67, gm74_34, gm74_33, gm74_12, GX, gm23, u1, q1, u2, q2, u3, q3, gm100, e1, if_neg g6, u4, Bool.not_false, i12, xF, r1, zI_succ, n10, n20, n21, Option.bind_some, b2i_t, b2i_f, i10, ↓reduceIte, cond_true, cond_false, kb0, kb1, kb2, s92_1, s92_0, s93_1, s93_0, s113_0, s113_1, s113_2, s113_3, aBit_b, aI01, xi0, xi1]
  have hM : gm148 a1 a2 a3 a4 (wJ (wI (wI (wI (wI (wI x 108 F a1) 109 F a2) 110 F a3) 112 F a4) 107 0 (zI (F + 1))) 187 0 (zI F).toInt64) = some (zI F, wI (wI (wI (wI (wI (wI (wJ (wI (wI (wI (wI (wI x 108 F a1) 109 F a2) 110 F a3) 112 F a4) 107 0 (zI (F + 1))) 187 0 (zI F).toInt64) 138 57 0) 166 F a1) 167 F a2) 168 F a3) 169 F a4) 138 31 (zI (F + 1))) := by
    have c0 : ∀ a, 138 ≤ a → (wJ (wI (wI (wI (wI (wI x 108 F a1) 109 F a2) 110 F a3) 112 F a4) 107 0 (zI (F + 1))) 187 0 (zI F).toInt64).1 a = x.1 a := fun a ha => by rw [wJ_I, wI_ne (by omega), wI_ne (by omega), wI_ne (by omega), wI_ne (by omega), wI_ne (by omega)]
    generalize wJ (wI (wI (wI (wI (wI x 108 F a1) 109 F a2) 110 F a3) 112 F a4) 107 0 (zI (F + 1))) 187 0 (zI F).toInt64 = y at c0
    have y2 : y.1 138 31 = zI F := by rw [c0 138 (by decide)]; exact e2
    have T0 := t0 y y2
    rw [g9, y2] at T0
    have t4 := s147 y2 k1 a1 a2 a3 (-1)
    rw [cfl_cg (fun a h1 h2 => c0 a (by omega)), q4] at t4
    have z1 : (wI y 138 57 0).1 138 31 = zI F := by rw [wI_nj (by decide)]; exact y2
    have z2 : (wI (wI y 138 57 0) 166 F a1).1 138 31 = zI F := z1
    have z3 : (wI (wI (wI y 138 57 0) 166 F a1) 167 F a2).1 138 31 = zI F := z1
    have z4 : (wI (wI (wI (wI y 138 57 0) 166 F a1) 167 F a2) 168 F a3).1 138 31 = zI F := z1
    have z5 : (wI (wI (wI (wI (wI y 138 57 0) 166 F a1) 167 F a2) 168 F a3) 169 F a4).1 138 31 = zI F := z1
    simp only [gm148_94, gm148_89, gm148_48, gm148_47, gm148, T0, t1, q1, t2, q2, t3, q3, y2, if_neg g7, t4, z1, z2, z3, z4, z5, i12, xF, zI_succ, wI_j, g3, n10, n20, n21, Option.bind_some, b2i_t, b2i_f, i10, ↓reduceIte, cond_true, cond_false, kb0, kb1, kb2, s92_1, s92_0, s93_1, s93_0, s113_0, s113_1, s113_2, s113_3, aBit_b, aI01, xi0, xi1]
  have e : SB 6 x (wI (wI (wI (wI (wI (wI (wJ (wI (wI (wI (wI (wI x 108 F a1) 109 F a2) 110 F a3) 112 F a4) 107 0 (zI (F + 1))) 187 0 (zI F).toInt64) 138 57 0) 166 F a1) 167 F a2) 168 F a3) 169 F a4) 138 31 (zI (F + 1))) := by
    refine SB.M ?_ (Or.inl rfl)
    refine SB.I ?_ (by decide) (Or.inl rfl)
    refine SB.I ?_ (by decide) (Or.inl rfl)
    refine SB.I ?_ (by decide) (Or.inl rfl)
    refine SB.I ?_ (by decide) (Or.inl rfl)
    refine SB.M ?_ (Or.inr rfl)
    refine SB.J ?_ (Or.inr rfl)
    refine SB.I ?_ (by decide) (Or.inl rfl)
    refine SB.I ?_ (by decide) (Or.inl rfl)
    refine SB.I ?_ (by decide) (Or.inl rfl)
    refine SB.I ?_ (by decide) (Or.inl rfl)
    refine SB.I ?_ (by decide) (Or.inl rfl)
    exact SB.rf _ _
  refine ⟨0, _, _, _, hA, hM, ?_, fun _ => rfl, rfl, rfl, ?_⟩
  · rfl
  ·
    refine ⟨S, B, Z, F + 1, U, P, I, now, hN.fr e (by decide), hC.fr e (by decide), hR.fr e (by decide), hZ.fr e (by decide), hB.fr e (by decide), ?_, hD.fr e (by decide), hP.fr e (by decide)⟩
    refine ⟨⟨by omega, k2⟩, ⟨rfl, rfl, e3, e4⟩, ⟨?_, ?_, ?_, w111, ?_, w113, w114⟩, hkl, ?_, hus, hkz, hkb⟩
    · show (fun k => if k = F then a1 else x.1 108 k) = (fun k => if k = F then a1 else x.1 166 k)
      rw [w108]
    · show (fun k => if k = F then a2 else x.1 109 k) = (fun k => if k = F then a2 else x.1 167 k)
      rw [w109]
    · show (fun k => if k = F then a3 else x.1 110 k) = (fun k => if k = F then a3 else x.1 168 k)
      rw [w110]
    · show (fun k => if k = F then a4 else x.1 112 k) = (fun k => if k = F then a4 else x.1 169 k)
      rw [w112]
    · intro k hk
      show (if k = F then a4 else x.1 169 k) = -1 ∨ aIn (if k = F then a4 else x.1 169 k) k = true
      by_cases hkF : k = F
      · rw [if_pos hkF, hkF]; exact g
      · rw [if_neg hkF]; exact hnd k (by omega)
theorem op_resize {c : Nat} {x : Hs} (h : Inv c x) (a1 a2 a3 : Int32) : OpOK c x (gm198 a1 a2 a3 x) (gm150 a1 a2 a3) o64 := by
  have h0 := h
  obtain ⟨S, B, Z, F, U, P, I, now, hN, hC, hR, hZ, hB, hF, hD, hP⟩ := h
  obtain ⟨⟨k1, k2⟩, ⟨e1, e2, e3, e4⟩, ⟨w108, w109, w110, w111, w112, w113, w114⟩, hkl, hnd, hus, hkz, hkb⟩ := id hF
  have T0 := s149 (x := x) a1 e2 k1
  have t2 := fun y => s114 a2 0 100 y
  have t3 := fun y => s114 a3 a2 100 y
  have u2 := fun y => s99 a2 0 100 y
  have u3 := fun y => s99 a3 a2 100 y
  cases h1 : aIn a1 F with
  | false =>
    rw [h1] at T0
    cases q2 : win a2 0 100 <;> cases q3 : win a3 a2 100 <;>
    (
      refine OpOK.no h0 (k := 1) (b := 0) (by decide) ?_ ?_
      · simp only [gm198, gm75, T0, s97_f hF h1, t2, t3, q2, q3, n10, n20, n21, Option.bind_some, b2i_t, b2i_f, i10, ↓reduceIte, cond_true, cond_false, kb0, kb1, kb2, s92_1, s92_0, s93_1, s93_0, s113_0, s113_1, s113_2, s113_3, aBit_b, aI01, xi0, xi1]
      · simp only [gm150_74, gm150_32, gm150_31, gm150, T0, s97_f hF h1, t2, t3, q2, q3, n10, n20, n21, Option.bind_some, b2i_t, b2i_f, i10, ↓reduceIte, cond_true, cond_false, kb0, kb1, kb2, s92_1, s92_0, s93_1, s93_0, s113_0, s113_1, s113_2, s113_3, aBit_b, aI01, xi0, xi1])
  | true =>
  rw [h1] at T0
  have F1 := s97_t hF h1
  cases q2 : win a2 0 100 with
  | false =>
    refine OpOK.no h0 (k := 2) (b := 0) (by decide) ?_ ?_
    · simp only [gm198, gm75, F1, T0, t2, u2, q2, gm100, n10, n20, n21, Option.bind_some, b2i_t, b2i_f, i10, ↓reduceIte, cond_true, cond_false, kb0, kb1, kb2, s92_1, s92_0, s93_1, s93_0, s113_0, s113_1, s113_2, s113_3, aBit_b, aI01, xi0, xi1]
    · simp only [gm150_74, gm150_32, gm150_31, gm150, F1, T0, t2, u2, q2, gm100, n10, n20, n21, Option.bind_some, b2i_t, b2i_f, i10, ↓reduceIte, cond_true, cond_false, kb0, kb1, kb2, s92_1, s92_0, s93_1, s93_0, s113_0, s113_1, s113_2, s113_3, aBit_b, aI01, xi0, xi1]
  | true =>
  cases q3 : win a3 a2 100 with
  | false =>
    refine OpOK.no h0 (k := 2) (b := 0) (by decide) ?_ ?_
    · simp only [gm198, gm75, F1, T0, t2, u2, q2, t3, u3, q3, gm100, n10, n20, n21, Option.bind_some, b2i_t, b2i_f, i10, ↓reduceIte, cond_true, cond_false, kb0, kb1, kb2, s92_1, s92_0, s93_1, s93_0, s113_0, s113_1, s113_2, s113_3, aBit_b, aI01, xi0, xi1]
    · simp only [gm150_74, gm150_32, gm150_31, gm150, F1, T0, t2, u2, q2, t3, u3, q3, gm100, n10, n20, n21, Option.bind_some, b2i_t, b2i_f, i10, ↓reduceIte, cond_true, cond_false, kb0, kb1, kb2, s92_1, s92_0, s93_1, s93_0, s113_0, s113_1, s113_2, s113_3, aBit_b, aI01, xi0, xi1]
  | true =>
  have i12 := aIn_up h1 k1
  have u4 := s24 hF (x.1 166 (xi a1)) a2 a3 a1
  have t4 := s147 e2 k1 (x.1 166 (xi a1)) a2 a3 a1
  cases q4 : anyF (cfl x (x.1 166 (xi a1)) a2 a3 a1) F 0 with
  | true =>
    rw [q4] at u4 t4
    refine OpOK.no h0 (k := 3) (b := 0) (by decide) ?_ ?_
    · simp only [gm198, gm75, F1, T0, t2, u2, q2, t3, u3, q3, gm100, i12, w108, u4, t4, Bool.not_true, n10, n20, n21, Option.bind_some, b2i_t, b2i_f, i10, ↓reduceIte, cond_true, cond_false, kb0, kb1, kb2, s92_1, s92_0, s93_1, s93_0, s113_0, s113_1, s113_2, s113_3, aBit_b, aI01, xi0, xi1]
    · simp only [gm150_74, gm150_32, gm150_31, gm150, F1, T0, t2, u2, q2, t3, u3, q3, gm100, i12, w108, u4, t4, Bool.not_true, n10, n20, n21, Option.bind_some, b2i_t, b2i_f, i10, ↓reduceIte, cond_true, cond_false, kb0, kb1, kb2, s92_1, s92_0, s93_1, s93_0, s113_0, s113_1, s113_2, s113_3, aBit_b, aI01, xi0, xi1]
  | false =>
  rw [q4] at u4
  have hA : gm198 a1 a2 a3 x = some ((0 : Int32), wJ (wI (wI x 109 (xi a1) a2) 110 (xi a1) a3) 187 0 (x.1 168 (xi a1) - x.1 167 (xi a1)).toInt64) := by
    simp only [gm198, gm75, F1, u2, q2, u3, q3, gm100, i12, w108, u4, Bool.not_false, w109, w110, n10, n20, n21, Option.bind_some, b2i_t, b2i_f, i10, ↓reduceIte, cond_true, cond_false, kb0, kb1, kb2, s92_1, s92_0, s93_1, s93_0, s113_0, s113_1, s113_2, s113_3, aBit_b, aI01, xi0, xi1]
  have hM : gm150 a1 a2 a3 (wJ (wI (wI x 109 (xi a1) a2) 110 (xi a1) a3) 187 0 (x.1 168 (xi a1) - x.1 167 (xi a1)).toInt64) = some (x.1 168 (xi a1) - x.1 167 (xi a1), wI (wI (wI (wJ (wI (wI x 109 (xi a1) a2) 110 (xi a1) a3) 187 0 (x.1 168 (xi a1) - x.1 167 (xi a1)).toInt64) 138 57 0) 167 (xi a1) a2) 168 (xi a1) a3) := by
    have c0 : ∀ a, 138 ≤ a → (wJ (wI (wI x 109 (xi a1) a2) 110 (xi a1) a3) 187 0 (x.1 168 (xi a1) - x.1 167 (xi a1)).toInt64).1 a = x.1 a := fun a ha => by rw [wJ_I, wI_ne (by omega), wI_ne (by omega)]
    generalize wJ (wI (wI x 109 (xi a1) a2) 110 (xi a1) a3) 187 0 (x.1 168 (xi a1) - x.1 167 (xi a1)).toInt64 = y at c0
    have y2 : y.1 138 31 = zI F := by rw [c0 138 (by decide)]; exact e2
    have T0 := s149 (x := y) a1 y2 k1
    rw [h1] at T0
    have t4 := s147 y2 k1 (x.1 166 (xi a1)) a2 a3 a1
    rw [cfl_cg (fun a h1 h2 => c0 a (by omega)), q4] at t4
    have z1 : (wI y 138 57 0).1 167 = x.1 167 := by rw [wI_ne (by decide), c0 167 (by decide)]
    have z2 : (wI y 138 57 0).1 168 = x.1 168 := by rw [wI_ne (by decide), c0 168 (by decide)]
    simp only [gm150_74, gm150_32, gm150_31, gm150, T0, t2, q2, t3, q3, i12, c0 166 (by decide), t4, z1, z2, n10, n20, n21, Option.bind_some, b2i_t, b2i_f, i10, ↓reduceIte, cond_true, cond_false, kb0, kb1, kb2, s92_1, s92_0, s93_1, s93_0, s113_0, s113_1, s113_2, s113_3, aBit_b, aI01, xi0, xi1]
  have e : SB 6 x (wI (wI (wI (wJ (wI (wI x 109 (xi a1) a2) 110 (xi a1) a3) 187 0 (x.1 168 (xi a1) - x.1 167 (xi a1)).toInt64) 138 57 0) 167 (xi a1) a2) 168 (xi a1) a3) := by
    refine SB.I ?_ (by decide) (Or.inl rfl)
    refine SB.I ?_ (by decide) (Or.inl rfl)
    refine SB.M ?_ (Or.inr rfl)
    refine SB.J ?_ (Or.inr rfl)
    refine SB.I ?_ (by decide) (Or.inl rfl)
    refine SB.I ?_ (by decide) (Or.inl rfl)
    exact SB.rf _ _
  refine ⟨0, _, _, _, hA, hM, rfl, fun _ => rfl, rfl, rfl, ?_⟩
  refine ⟨S, B, Z, F, U, P, I, now, hN.fr e (by decide), hC.fr e (by decide), hR.fr e (by decide), hZ.fr e (by decide), hB.fr e (by decide), ?_, hD.fr e (by decide), hP.fr e (by decide)⟩
  refine ⟨⟨k1, k2⟩, ⟨e1, e2, e3, e4⟩, ⟨w108, ?_, ?_, w111, w112, w113, w114⟩, hkl, hnd, hus, hkz, hkb⟩
  · show (fun k => if k = xi a1 then a2 else x.1 109 k) = (fun k => if k = xi a1 then a2 else x.1 167 k)
    rw [w109]
  · show (fun k => if k = xi a1 then a3 else x.1 110 k) = (fun k => if k = xi a1 then a3 else x.1 168 k)
    rw [w110]
theorem op_kill {c : Nat} {x : Hs} (h : Inv c x) (a1 : Int32) : OpOK c x (gm199 a1 x) (gm151 a1) o01 := by
  have h0 := h
  obtain ⟨S, B, Z, F, U, P, I, now, hN, hC, hR, hZ, hB, hF, hD, hP⟩ := h
  obtain ⟨⟨k1, k2⟩, ⟨e1, e2, e3, e4⟩, ⟨w108, w109, w110, w111, w112, w113, w114⟩, hkl, hnd, hus, hkz, hkb⟩ := id hF
  have T0 := s149 (x := x) a1 e2 k1
  have j1 : ¬ (1 : Int32) = 0 := by decide
  cases h1 : aIn a1 F with
  | false =>
    refine OpOK.no h0 (k := 1) (b := 0) (by decide) ?_ ?_
    · simp only [gm199_15, gm199, gm76_30, gm76, s97_f hF h1, T0, h1, n10, n20, n21, Option.bind_some, b2i_t, b2i_f, i10, ↓reduceIte, cond_true, cond_false, kb0, kb1, kb2, s92_1, s92_0, s93_1, s93_0, s113_0, s113_1, s113_2, s113_3, aBit_b, aI01, xi0, xi1]
    · simp only [gm151_41, gm151_14, gm151, s97_f hF h1, T0, h1, n10, n20, n21, Option.bind_some, b2i_t, b2i_f, i10, ↓reduceIte, cond_true, cond_false, kb0, kb1, kb2, s92_1, s92_0, s93_1, s93_0, s113_0, s113_1, s113_2, s113_3, aBit_b, aI01, xi0, xi1]
  | true =>
  have F1 := s97_t hF h1
  have i12 := aIn_up h1 k1
  rcases hkl (xi a1) with q | q
  ·
    have hA : gm199 a1 x = some ((0 : Int32), wJ (wI x 111 (xi a1) 1) 187 0 1) := by
      simp only [gm199_15, gm199, gm76_30, gm76, F1, i12, w111, q, wI_j, if_neg j1, n10, n20, n21, Option.bind_some, b2i_t, b2i_f, i10, ↓reduceIte, cond_true, cond_false, kb0, kb1, kb2, s92_1, s92_0, s93_1, s93_0, s113_0, s113_1, s113_2, s113_3, aBit_b, aI01, xi0, xi1]
      rfl
    have hM : gm151 a1 (wJ (wI x 111 (xi a1) 1) 187 0 1) = some (1, wI (wI (wJ (wI x 111 (xi a1) 1) 187 0 1) 138 57 0) 170 (xi a1) 1) := by
      have c0 : ∀ a, 138 ≤ a → (wJ (wI x 111 (xi a1) 1) 187 0 1).1 a = x.1 a := fun a ha => by rw [wJ_I, wI_ne (by omega)]
      generalize wJ (wI x 111 (xi a1) 1) 187 0 1 = y at c0
      have T0 := s149 (x := y) (F := F) a1 (by rw [c0 138 (by decide)]; exact e2) k1
      rw [h1] at T0
      have z : (wI y 138 57 0).1 170 = x.1 170 := by rw [wI_ne (by decide), c0 170 (by decide)]
      simp only [gm151_41, gm151_14, gm151, T0, i12, z, q, wI_j, if_neg j1, n10, n20, n21, Option.bind_some, b2i_t, b2i_f, i10, ↓reduceIte, cond_true, cond_false, kb0, kb1, kb2, s92_1, s92_0, s93_1, s93_0, s113_0, s113_1, s113_2, s113_3, aBit_b, aI01, xi0, xi1]
      rfl
    have e : SB 6 x (wI (wI (wJ (wI x 111 (xi a1) 1) 187 0 1) 138 57 0) 170 (xi a1) 1) := by
      refine SB.I ?_ (by decide) (Or.inl rfl)
      refine SB.M ?_ (Or.inr rfl)
      refine SB.J ?_ (Or.inr rfl)
      refine SB.I ?_ (by decide) (Or.inl rfl)
      exact SB.rf _ _
    refine ⟨0, _, _, _, hA, hM, rfl, fun _ => rfl, rfl, rfl, ?_⟩
    refine ⟨S, B, Z, F, U, P, I, now, hN.fr e (by decide), hC.fr e (by decide), hR.fr e (by decide), hZ.fr e (by decide), hB.fr e (by decide), ?_, hD.fr e (by decide), hP.fr e (by decide)⟩
    refine ⟨⟨k1, k2⟩, ⟨e1, e2, e3, e4⟩, ⟨w108, w109, w110, ?_, w112, w113, w114⟩, ?_, hnd, hus, hkz, hkb⟩
    · show (fun k => if k = xi a1 then 1 else x.1 111 k) = (fun k => if k = xi a1 then 1 else x.1 170 k)
      rw [w111]
    · intro k
      rw [wI_at]
      by_cases hk : k = xi a1
      · rw [if_pos hk]; decide
      · rw [if_neg hk]; exact hkl k
  ·
    have hA : gm199 a1 x = some ((0 : Int32), wJ (wI x 111 (xi a1) 0) 187 0 0) := by
      simp only [gm199_15, gm199, gm76_30, gm76, F1, i12, w111, q, wI_j, if_neg j1, n10, n20, n21, Option.bind_some, b2i_t, b2i_f, i10, ↓reduceIte, cond_true, cond_false, kb0, kb1, kb2, s92_1, s92_0, s93_1, s93_0, s113_0, s113_1, s113_2, s113_3, aBit_b, aI01, xi0, xi1]
      rfl
    have hM : gm151 a1 (wJ (wI x 111 (xi a1) 0) 187 0 0) = some (0, wI (wI (wJ (wI x 111 (xi a1) 0) 187 0 0) 138 57 0) 170 (xi a1) 0) := by
      have c0 : ∀ a, 138 ≤ a → (wJ (wI x 111 (xi a1) 0) 187 0 0).1 a = x.1 a := fun a ha => by rw [wJ_I, wI_ne (by omega)]
      generalize wJ (wI x 111 (xi a1) 0) 187 0 0 = y at c0
      have T0 := s149 (x := y) (F := F) a1 (by rw [c0 138 (by decide)]; exact e2) k1
      rw [h1] at T0
      have z : (wI y 138 57 0).1 170 = x.1 170 := by rw [wI_ne (by decide), c0 170 (by decide)]
      simp only [gm151_41, gm151_14, gm151, T0, i12, z, q, wI_j, if_neg j1, n10, n20, n21, Option.bind_some, b2i_t, b2i_f, i10, ↓reduceIte, cond_true, cond_false, kb0, kb1, kb2, s92_1, s92_0, s93_1, s93_0, s113_0, s113_1, s113_2, s113_3, aBit_b, aI01, xi0, xi1]
      rfl
    have e : SB 6 x (wI (wI (wJ (wI x 111 (xi a1) 0) 187 0 0) 138 57 0) 170 (xi a1) 0) := by
      refine SB.I ?_ (by decide) (Or.inl rfl)
      refine SB.M ?_ (Or.inr rfl)
      refine SB.J ?_ (Or.inr rfl)
      refine SB.I ?_ (by decide) (Or.inl rfl)
      exact SB.rf _ _
    refine ⟨0, _, _, _, hA, hM, rfl, fun _ => rfl, rfl, rfl, ?_⟩
    refine ⟨S, B, Z, F, U, P, I, now, hN.fr e (by decide), hC.fr e (by decide), hR.fr e (by decide), hZ.fr e (by decide), hB.fr e (by decide), ?_, hD.fr e (by decide), hP.fr e (by decide)⟩
    refine ⟨⟨k1, k2⟩, ⟨e1, e2, e3, e4⟩, ⟨w108, w109, w110, ?_, w112, w113, w114⟩, ?_, hnd, hus, hkz, hkb⟩
    · show (fun k => if k = xi a1 then 0 else x.1 111 k) = (fun k => if k = xi a1 then 0 else x.1 170 k)
      rw [w111]
    · intro k
      rw [wI_at]
      by_cases hk : k = xi a1
      · rw [if_pos hk]; decide
      · rw [if_neg hk]; exact hkl k
theorem onF_cg {x y : Hs} (h : ∀ a, 166 ≤ a → a ≤ 170 → y.1 a = x.1 a) (u kp : Int32) : ∀ n k, onF y u kp n k = onF x u kp n k
  | 0, _ => rfl
  | n + 1, k => by
    rw [onF, onF, onF_cg h u kp n]
    unfold own1
    rw [h 166 (by decide) (by decide), h 167 (by decide) (by decide), h 168 (by decide) (by decide), h 169 (by decide) (by decide), h 170 (by decide) (by decide)]
theorem rowU_cg {x y : Hs} (h : y.1 171 = x.1 171) (U : Nat) (u : Int32) : rowU y U u = rowU x U u := by
  unfold rowU
  rw [h]
theorem kpt_cg {x y : Hs} (h : y.1 172 = x.1 172) (r : Int32) : kpt y r = kpt x r := by
  unfold kpt
  rw [h]
theorem op_isOn {c : Nat} {x : Hs} (h : Inv c x) (a1 a2 : Int32) : OpOK c x (gm200 a1 a2 x) (gm156 a1 a2) o01 := by
  have h0 := h
  obtain ⟨S, B, Z, F, U, P, I, now, hN, hC, hR, hZ, hB, hF, hD, hP⟩ := h
  obtain ⟨⟨k1, k2⟩, ⟨e1, e2, e3, e4⟩, ⟨w108, w109, w110, w111, w112, w113, w114⟩, hkl, hnd, hus, hkz, hkb⟩ := id hF
  have T0 := s149 (x := x) a1 e2 k1
  have t2 : ∀ y, gm155 a2 y = some (b2i (win a2 0 999)) := by
    intro y
    unfold gm155
    rw [s114, Option.bind_some, aBit_b, cond_true]
  have u2 := fun y => s99 a2 0 999 y
  have j1 : ¬ (1 : Int32) = 0 := by decide
  cases h1 : aIn a1 F with
  | false =>
    refine OpOK.no h0 (k := 1) (b := 0) (by decide) ?_ ?_
    · simp only [gm200_16, gm200, gm77, s97_f hF h1, T0, h1, n10, n20, n21, Option.bind_some, b2i_t, b2i_f, i10, ↓reduceIte, cond_true, cond_false, kb0, kb1, kb2, s92_1, s92_0, s93_1, s93_0, s113_0, s113_1, s113_2, s113_3, aBit_b, aI01, xi0, xi1]
    · simp only [gm156_25, gm156, s97_f hF h1, T0, h1, n10, n20, n21, Option.bind_some, b2i_t, b2i_f, i10, ↓reduceIte, cond_true, cond_false, kb0, kb1, kb2, s92_1, s92_0, s93_1, s93_0, s113_0, s113_1, s113_2, s113_3, aBit_b, aI01, xi0, xi1]
  | true =>
  rw [h1] at T0
  have F1 := s97_t hF h1
  cases q2 : win a2 0 999 with
  | false =>
    refine OpOK.no h0 (k := 2) (b := 0) (by decide) ?_ ?_
    · simp only [gm200_16, gm200, gm77, F1, T0, t2, u2, q2, n10, n20, n21, Option.bind_some, b2i_t, b2i_f, i10, ↓reduceIte, cond_true, cond_false, kb0, kb1, kb2, s92_1, s92_0, s93_1, s93_0, s113_0, s113_1, s113_2, s113_3, aBit_b, aI01, xi0, xi1]
    · simp only [gm156_25, gm156, F1, T0, t2, u2, q2, n10, n20, n21, Option.bind_some, b2i_t, b2i_f, i10, ↓reduceIte, cond_true, cond_false, kb0, kb1, kb2, s92_1, s92_0, s93_1, s93_0, s113_0, s113_1, s113_2, s113_3, aBit_b, aI01, xi0, xi1]
  | true =>
  obtain ⟨k, hk, ek⟩ := aIn_ex h1
  obtain ⟨m, g1, g2⟩ := s26 hF a2
  have hsm : hs m a1 = onF x a2 (kpt x (rowU x U a2)) 13 k := by
    rw [ek, hs_bt m (by omega), g2 k (by omega), decide_eq_true hk, Bool.true_and]
  have hM : ∀ v : Int64, gm156 a1 a2 (wJ x 187 0 v) = some (b2i (onF x a2 (kpt x (rowU x U a2)) 13 k), wI (wJ x 187 0 v) 138 57 0) := by
    intro v
    have hF2 : MF F U (wI (wJ x 187 0 v) 138 57 0) := hF.mf.of (by rw [wI_nj (by decide), wJ_I]) (by rw [wI_nj (by decide), wJ_I]) (by rw [wI_ne (by decide), wJ_I]) (by rw [wI_ne (by decide), wJ_I])
    have t := s154 hF2 a2 hk
    rw [onF_cg (x := x) (fun a h1 h2 => by rw [wI_ne (by omega), wJ_I]), kpt_cg (x := x) (by rw [wI_ne (by decide), wJ_I]), rowU_cg (x := x) (by rw [wI_ne (by decide), wJ_I]), ← ek] at t
    have T0 := s149 (x := wJ x 187 0 v) (F := F) a1 e2 k1
    rw [h1] at T0
    simp only [gm156_25, gm156, T0, t2, q2, t, n10, n20, n21, Option.bind_some, b2i_t, b2i_f, i10, ↓reduceIte, cond_true, cond_false, kb0, kb1, kb2, s92_1, s92_0, s93_1, s93_0, s113_0, s113_1, s113_2, s113_3, aBit_b, aI01, xi0, xi1]
    cases onF x a2 (kpt x (rowU x U a2)) 13 k <;> rfl
  have hA : gm200 a1 a2 x = some ((0 : Int32), wJ x 187 0 (if onF x a2 (kpt x (rowU x U a2)) 13 k = true then 1 else 0)) := by
    simp only [gm200_16, gm200, gm77, F1, u2, q2, g1, s101, hsm, n10, n20, n21, Option.bind_some, b2i_t, b2i_f, i10, ↓reduceIte, cond_true, cond_false, kb0, kb1, kb2, s92_1, s92_0, s93_1, s93_0, s113_0, s113_1, s113_2, s113_3, aBit_b, aI01, xi0, xi1]
    cases onF x a2 (kpt x (rowU x U a2)) 13 k <;> rfl
  refine OpOK.ask h0 _ hA (hM _) ?_
  cases onF x a2 (kpt x (rowU x U a2)) 13 k <;> rfl
