/-! Duty's calls -/
theorem op_person {c : Nat} {x : Hs} (h : Inv c x) : OpOK c x (gm202 x) gm158 o64 := by
  have h0 := h
  obtain ⟨S, B, Z, F, U, P, I, now, hN, hC, hR, hZ, hB, hF, hD, hP⟩ := h
  obtain ⟨⟨k1, k2⟩, ⟨c1, c2, c3, c4⟩, -⟩ := id hC
  obtain ⟨⟨p1, p2, p3⟩, ⟨e1, e2, e3, e4⟩, w116, hst, hf, hcl, hdf, hun⟩ := id hD
  by_cases g5 : P = 5
  · subst g5
    have g6 : zI 5 ≥ 5 := by decide
    have g7 : zI 5 = 5 := rfl
    refine OpOK.no h0 (k := 1) (b := 0) (by decide) ?_ ?_
    · simp only [gm202, gm79_16, gm79, e1, e2, if_pos g6, if_pos g7, n10, n20, n21, Option.bind_some, b2i_t, b2i_f, i10, ↓reduceIte, cond_true, cond_false, kb0, kb1, kb2, s92_1, s92_0, s93_1, s93_0, s113_0, s113_1, s113_2, s113_3, aBit_b, aI01, xi0, xi1]
    · simp only [gm158_14, gm158, e1, e2, if_pos g6, if_pos g7, n10, n20, n21, Option.bind_some, b2i_t, b2i_f, i10, ↓reduceIte, cond_true, cond_false, kb0, kb1, kb2, s92_1, s92_0, s93_1, s93_0, s113_0, s113_1, s113_2, s113_3, aBit_b, aI01, xi0, xi1]
  have g6 : ¬ zI P ≥ 5 := by rw [show (5 : Int32) = zI 5 from rfl, zI_ge (by omega) (by omega)]; omega
  have g7 : ¬ zI P = 5 := by rw [show (5 : Int32) = zI 5 from rfl, zI_inj (by omega) (by omega)]; omega
  have hA : gm202 x = some ((0 : Int32), wJ (wI x 115 0 (zI (P + 1))) 187 0 (zI (P + 1)).toInt64) := by
    simp only [gm202, gm79_16, gm79, e1, if_neg g6, zI_succ, wI_j, n10, n20, n21, Option.bind_some, b2i_t, b2i_f, i10, ↓reduceIte, cond_true, cond_false, kb0, kb1, kb2, s92_1, s92_0, s93_1, s93_0, s113_0, s113_1, s113_2, s113_3, aBit_b, aI01, xi0, xi1]
  have hM : gm158 (wJ (wI x 115 0 (zI (P + 1))) 187 0 (zI (P + 1)).toInt64) = some (zI (P + 1), wI (wI (wJ (wI x 115 0 (zI (P + 1))) 187 0 (zI (P + 1)).toInt64) 138 57 0) 138 40 (zI (P + 1))) := by
    have c0 : ∀ a, 138 ≤ a → (wJ (wI x 115 0 (zI (P + 1))) 187 0 (zI (P + 1)).toInt64).1 a = x.1 a := fun a ha => by rw [wJ_I, wI_ne (by omega)]
    generalize wJ (wI x 115 0 (zI (P + 1))) 187 0 (zI (P + 1)).toInt64 = y at c0
    have y2 : y.1 138 40 = zI P := by rw [c0 138 (by decide)]; exact e2
    have z1 : (wI y 138 57 0).1 138 40 = zI P := by rw [wI_nj (by decide)]; exact y2
    simp only [gm158_14, gm158, y2, if_neg g7, z1, zI_succ, wI_j, n10, n20, n21, Option.bind_some, b2i_t, b2i_f, i10, ↓reduceIte, cond_true, cond_false, kb0, kb1, kb2, s92_1, s92_0, s93_1, s93_0, s113_0, s113_1, s113_2, s113_3, aBit_b, aI01, xi0, xi1]
  have e : SB 7 x (wI (wI (wJ (wI x 115 0 (zI (P + 1))) 187 0 (zI (P + 1)).toInt64) 138 57 0) 138 40 (zI (P + 1))) := by
    refine SB.M ?_ (Or.inl rfl)
    refine SB.M ?_ (Or.inr rfl)
    refine SB.J ?_ (Or.inr rfl)
    refine SB.I ?_ (by decide) (Or.inl rfl)
    exact SB.rf _ _
  refine ⟨0, _, _, _, hA, hM, rfl, fun _ => rfl, rfl, rfl, ?_⟩
  refine ⟨S, B, Z, F, U, P + 1, I, now, hN.fr e (by decide), hC.fr e (by decide), hR.fx e (by decide) (by decide), hZ.fr e (by decide), hB.fr e (by decide), hF.fr e (by decide), ?_, hP.fr e (by decide)⟩
  have cc : ∀ a, ¬ a = 115 → ¬ a = 138 → (wI (wI (wJ (wI x 115 0 (zI (P + 1))) 187 0 (zI (P + 1)).toInt64) 138 57 0) 138 40 (zI (P + 1))).1 a = x.1 a := fun a n1 n2 => by rw [wI_ne n2, wI_ne n2, wJ_I, wI_ne n1]
  refine ⟨⟨by omega, by omega, p3⟩, ⟨rfl, rfl, e3, e4⟩, w116, fun t ht => ?_, fun i hi => ?_, hcl, fun i hi hi2 => ?_, hun⟩
  · rcases hst t ht with q | q
    · exact Or.inl q
    · exact Or.inr (aIn_up q (by omega))
  · rw [cc (118 + i) (by omega) (by omega)]
    obtain ⟨f1, f2, f3⟩ := hf i hi
    exact ⟨f1, aIn_up f2 (by omega), f3⟩
  · rw [cc (118 + i) (by omega) (by omega)]
    exact hdf i hi hi2
theorem op_standIn {c : Nat} {x : Hs} (h : Inv c x) (a1 a2 : Int32) : OpOK c x (gm203 a1 a2 x) (gm161 a1 a2) o64 := by
  have h0 := h
  obtain ⟨S, B, Z, F, U, P, I, now, hN, hC, hR, hZ, hB, hF, hD, hP⟩ := h
  obtain ⟨⟨k1, k2⟩, ⟨c1, c2, c3, c4⟩, -⟩ := id hC
  obtain ⟨⟨p1, p2, p3⟩, ⟨e1, e2, e3, e4⟩, w116, hst, hf, hcl, hdf, hun⟩ := id hD
  have T0 := s159 (x := x) a2 e2 p2
  have t2 : ∀ y, gm114 a1 0 20 y = some (b2i (aIn a1 21)) := fun y => by rw [s114, show (20 : Int32) = zI 20 from rfl, win_lit a1 (by omega)]
  have u2 : ∀ y, gm99 a1 0 20 y = some (b2i (aIn a1 21)) := fun y => by rw [s99, show (20 : Int32) = zI 20 from rfl, win_lit a1 (by omega)]
  cases h1 : aIn a2 P with
  | false =>
    have F1 : gm91 a2 (zI P) x = some (.inr 0, x) := s91_f x h1 (by omega)
    refine OpOK.no h0 (k := 1) (b := 0) (by decide) ?_ ?_
    · simp only [gm203, gm80, e1, F1, T0, h1, n10, n20, n21, Option.bind_some, b2i_t, b2i_f, i10, ↓reduceIte, cond_true, cond_false, kb0, kb1, kb2, s92_1, s92_0, s93_1, s93_0, s113_0, s113_1, s113_2, s113_3, aBit_b, aI01, xi0, xi1]
    · simp only [gm161_28, gm161, e1, F1, T0, h1, n10, n20, n21, Option.bind_some, b2i_t, b2i_f, i10, ↓reduceIte, cond_true, cond_false, kb0, kb1, kb2, s92_1, s92_0, s93_1, s93_0, s113_0, s113_1, s113_2, s113_3, aBit_b, aI01, xi0, xi1]
  | true =>
  rw [h1] at T0
  have F1 : gm91 a2 (zI P) x = some (.inl (), x) := s91_t x h1 (by omega)
  cases h2 : aIn a1 21 with
  | false =>
    refine OpOK.no h0 (k := 2) (b := 0) (by decide) ?_ ?_
    · simp only [gm203, gm80, e1, F1, T0, t2, u2, h2, n10, n20, n21, Option.bind_some, b2i_t, b2i_f, i10, ↓reduceIte, cond_true, cond_false, kb0, kb1, kb2, s92_1, s92_0, s93_1, s93_0, s113_0, s113_1, s113_2, s113_3, aBit_b, aI01, xi0, xi1]
    · simp only [gm161_28, gm161, e1, F1, T0, t2, u2, h2, n10, n20, n21, Option.bind_some, b2i_t, b2i_f, i10, ↓reduceIte, cond_true, cond_false, kb0, kb1, kb2, s92_1, s92_0, s93_1, s93_0, s113_0, s113_1, s113_2, s113_3, aBit_b, aI01, xi0, xi1]
  | true =>
  obtain ⟨t, ht, et⟩ := aIn_ex h2
  have xt : xi a1 = t := by rw [et, xi_zI (by omega)]
  have d1 := s17 hD ht
  rw [← et] at d1
  have hA : gm203 a1 a2 x = some ((0 : Int32), wJ (wI x 116 t a2) 187 0 (dty x P t).toInt64) := by
    simp only [gm203, gm80, e1, F1, u2, h2, d1, xt, n10, n20, n21, Option.bind_some, b2i_t, b2i_f, i10, ↓reduceIte, cond_true, cond_false, kb0, kb1, kb2, s92_1, s92_0, s93_1, s93_0, s113_0, s113_1, s113_2, s113_3, aBit_b, aI01, xi0, xi1]
  have hM : gm161 a1 a2 (wJ (wI x 116 t a2) 187 0 (dty x P t).toInt64) = some (dty x P t, wI (wI (wJ (wI x 116 t a2) 187 0 (dty x P t).toInt64) 138 57 0) 173 t a2) := by
    have c0 : ∀ a, 138 ≤ a → (wJ (wI x 116 t a2) 187 0 (dty x P t).toInt64).1 a = x.1 a := fun a ha => by rw [wJ_I, wI_ne (by omega)]
    generalize wJ (wI x 116 t a2) 187 0 (dty x P t).toInt64 = y at c0
    have T0 := s159 (x := y) (P := P) a2 (by rw [c0 138 (by decide)]; exact e2) p2
    rw [h1] at T0
    have d2 := s160 (x := wI y 138 57 0) (hD.md.of (by rw [wI_nj (by decide), c0 138 (by decide)]) (by rw [wI_nj (by decide), c0 138 (by decide)]) (by rw [wI_ne (by decide), c0 181 (by decide)]) (by rw [wI_ne (by decide), c0 174 (by decide)])) ht
    rw [dty_cg (x := x) (by rw [wI_ne (by decide), c0 173 (by decide)]), ← et] at d2
    simp only [gm161_28, gm161, T0, t2, h2, d2, xt, n10, n20, n21, Option.bind_some, b2i_t, b2i_f, i10, ↓reduceIte, cond_true, cond_false, kb0, kb1, kb2, s92_1, s92_0, s93_1, s93_0, s113_0, s113_1, s113_2, s113_3, aBit_b, aI01, xi0, xi1]
  have e : SB 7 x (wI (wI (wJ (wI x 116 t a2) 187 0 (dty x P t).toInt64) 138 57 0) 173 t a2) := by
    refine SB.I ?_ (by decide) (Or.inl rfl)
    refine SB.M ?_ (Or.inr rfl)
    refine SB.J ?_ (Or.inr rfl)
    refine SB.I ?_ (by decide) (Or.inl rfl)
    exact SB.rf _ _
  refine ⟨0, _, _, _, hA, hM, rfl, fun _ => rfl, rfl, rfl, ?_⟩
  refine ⟨S, B, Z, F, U, P, I, now, hN.fr e (by decide), hC.fr e (by decide), hR.fx e (by decide) (by decide), hZ.fr e (by decide), hB.fr e (by decide), hF.fr e (by decide), ?_, hP.fr e (by decide)⟩
  have cc : ∀ a, ¬ a = 116 → ¬ a = 138 → ¬ a = 173 → (wI (wI (wJ (wI x 116 t a2) 187 0 (dty x P t).toInt64) 138 57 0) 173 t a2).1 a = x.1 a := fun a n1 n2 n3 => by rw [wI_ne n3, wI_ne n2, wJ_I, wI_ne n1]
  refine ⟨⟨p1, p2, p3⟩, ⟨e1, e2, e3, e4⟩, ?_, fun k hk => ?_, fun i hi => ?_, hcl, fun i hi hi2 => ?_, hun⟩
  · show (fun k => if k = t then a2 else x.1 116 k) = (fun k => if k = t then a2 else x.1 173 k)
    rw [w116]
  · show (if k = t then a2 else x.1 173 k) = -1 ∨ aIn (if k = t then a2 else x.1 173 k) P = true
    by_cases hkt : k = t
    · rw [if_pos hkt]; exact Or.inr h1
    · rw [if_neg hkt]; exact hst k hk
  · rw [cc (118 + i) (by omega) (by omega) (by omega)]
    exact hf i hi
  · rw [cc (118 + i) (by omega) (by omega) (by omega)]
    exact hdf i hi hi2
theorem op_take {c : Nat} {x : Hs} (h : Inv c x) (a1 a2 : Int32) : OpOK c x (gm205 a1 a2 x) (gm164 a1 a2) o64 := by
  have h0 := h
  obtain ⟨S, B, Z, F, U, P, I, now, hN, hC, hR, hZ, hB, hF, hD, hP⟩ := h
  obtain ⟨⟨k1, k2⟩, ⟨c1, c2, c3, c4⟩, -⟩ := id hC
  obtain ⟨⟨p1, p2, p3⟩, ⟨e1, e2, e3, e4⟩, w116, hst, hf, hcl, hdf, hun⟩ := id hD
  have T0 := s163 (x := x) a1 e4 p3
  have T1 := s159 (x := x) a2 e2 p2
  cases h1 : aIn a1 I with
  | false =>
    refine OpOK.no h0 (k := 1) (b := 0) (by decide) ?_ ?_
    · simp only [gm205, gm82_57, gm82_56, gm82, s98_f hD h1, T0, h1, n10, n20, n21, Option.bind_some, b2i_t, b2i_f, i10, ↓reduceIte, cond_true, cond_false, kb0, kb1, kb2, s92_1, s92_0, s93_1, s93_0, s113_0, s113_1, s113_2, s113_3, aBit_b, aI01, xi0, xi1]
    · simp only [gm164_68, gm164_63, gm164_21, gm164_20, gm164, s98_f hD h1, T0, h1, n10, n20, n21, Option.bind_some, b2i_t, b2i_f, i10, ↓reduceIte, cond_true, cond_false, kb0, kb1, kb2, s92_1, s92_0, s93_1, s93_0, s113_0, s113_1, s113_2, s113_3, aBit_b, aI01, xi0, xi1]
  | true =>
  rw [h1] at T0
  have F0 := s98_t hD h1
  cases h2 : aIn a2 P with
  | false =>
    have F1 : gm91 a2 (zI P) x = some (.inr 0, x) := s91_f x h2 (by omega)
    refine OpOK.no h0 (k := 1) (b := 0) (by decide) ?_ ?_
    · simp only [gm205, gm82_57, gm82_56, gm82, F0, e1, F1, T0, T1, h2, n10, n20, n21, Option.bind_some, b2i_t, b2i_f, i10, ↓reduceIte, cond_true, cond_false, kb0, kb1, kb2, s92_1, s92_0, s93_1, s93_0, s113_0, s113_1, s113_2, s113_3, aBit_b, aI01, xi0, xi1]
    · simp only [gm164_68, gm164_63, gm164_21, gm164_20, gm164, F0, e1, F1, T0, T1, h2, n10, n20, n21, Option.bind_some, b2i_t, b2i_f, i10, ↓reduceIte, cond_true, cond_false, kb0, kb1, kb2, s92_1, s92_0, s93_1, s93_0, s113_0, s113_1, s113_2, s113_3, aBit_b, aI01, xi0, xi1]
  | true =>
  rw [h2] at T1
  have F1 : gm91 a2 (zI P) x = some (.inl (), x) := s91_t x h2 (by omega)
  obtain ⟨i, hi, ei⟩ := aIn_ex h1
  have xii : xi a1 = i := by rw [ei, xi_zI (by omega)]
  have i12 := aIn_up h1 p3
  obtain ⟨⟨f0, f1, f2, f3, f4, f5, f6⟩, f7, f8, f9, f10⟩ := hf i hi
  by_cases q1 : x.1 180 i = -1
  case neg =>
    refine OpOK.no h0 (k := 2) (b := 0) (by decide) ?_ ?_
    · simp only [gm205, gm82_57, gm82_56, gm82, F0, e1, F1, T0, T1, xii, i12, f5, if_neg q1, n10, n20, n21, Option.bind_some, b2i_t, b2i_f, i10, ↓reduceIte, cond_true, cond_false, kb0, kb1, kb2, s92_1, s92_0, s93_1, s93_0, s113_0, s113_1, s113_2, s113_3, aBit_b, aI01, xi0, xi1]
    · simp only [gm164_68, gm164_63, gm164_21, gm164_20, gm164, F0, e1, F1, T0, T1, xii, i12, f5, if_neg q1, n10, n20, n21, Option.bind_some, b2i_t, b2i_f, i10, ↓reduceIte, cond_true, cond_false, kb0, kb1, kb2, s92_1, s92_0, s93_1, s93_0, s113_0, s113_1, s113_2, s113_3, aBit_b, aI01, xi0, xi1]
  case pos =>
  by_cases q2 : x.1 181 i = 0
  case neg =>
    refine OpOK.no h0 (k := 2) (b := 0) (by decide) ?_ ?_
    · simp only [gm205, gm82_57, gm82_56, gm82, F0, e1, F1, T0, T1, xii, i12, f5, f6, if_pos q1, if_neg q2, n10, n20, n21, Option.bind_some, b2i_t, b2i_f, i10, ↓reduceIte, cond_true, cond_false, kb0, kb1, kb2, s92_1, s92_0, s93_1, s93_0, s113_0, s113_1, s113_2, s113_3, aBit_b, aI01, xi0, xi1]
    · simp only [gm164_68, gm164_63, gm164_21, gm164_20, gm164, F0, e1, F1, T0, T1, xii, i12, f5, f6, if_pos q1, if_neg q2, n10, n20, n21, Option.bind_some, b2i_t, b2i_f, i10, ↓reduceIte, cond_true, cond_false, kb0, kb1, kb2, s92_1, s92_0, s93_1, s93_0, s113_0, s113_1, s113_2, s113_3, aBit_b, aI01, xi0, xi1]
  case pos =>
  have u3 := s101 (x.1 178 i) a2 x
  have v3 := fun y => s115 (x.1 178 i) a2 y
  cases q3 : hs (x.1 178 i) a2 with
  | false =>
    rw [q3] at u3
    refine OpOK.no h0 (k := 2) (b := 0) (by decide) ?_ ?_
    · simp only [gm205, gm82_57, gm82_56, gm82, F0, e1, F1, T0, T1, xii, i12, f4, f5, f6, if_pos q1, if_pos q2, u3, v3, q3, n10, n20, n21, Option.bind_some, b2i_t, b2i_f, i10, ↓reduceIte, cond_true, cond_false, kb0, kb1, kb2, s92_1, s92_0, s93_1, s93_0, s113_0, s113_1, s113_2, s113_3, aBit_b, aI01, xi0, xi1]
    · simp only [gm164_68, gm164_63, gm164_21, gm164_20, gm164, F0, e1, F1, T0, T1, xii, i12, f4, f5, f6, if_pos q1, if_pos q2, u3, v3, q3, n10, n20, n21, Option.bind_some, b2i_t, b2i_f, i10, ↓reduceIte, cond_true, cond_false, kb0, kb1, kb2, s92_1, s92_0, s93_1, s93_0, s113_0, s113_1, s113_2, s113_3, aBit_b, aI01, xi0, xi1]
  | true =>
  rw [q3] at u3
  obtain ⟨w, g1, g2⟩ := pop_ok (v := x.1 178 i) (fun k hk => f8 k (by omega))
  have rr : (wI x (118 + i) 5 a2).1 (118 + i) 4 = x.1 178 i := by rw [wI_nj (by decide)]; exact f4
  have hA : gm205 a1 a2 x = some ((0 : Int32), wJ (wI x (118 + i) 5 a2) 187 0 w.toInt64) := by
    simp only [gm205, gm82_57, gm82_56, gm82, F0, e1, F1, xii, i12, f4, f5, f6, if_pos q1, if_pos q2, u3, rr, g1, n10, n20, n21, Option.bind_some, b2i_t, b2i_f, i10, ↓reduceIte, cond_true, cond_false, kb0, kb1, kb2, s92_1, s92_0, s93_1, s93_0, s113_0, s113_1, s113_2, s113_3, aBit_b, aI01, xi0, xi1]
  have hM : gm164 a1 a2 (wJ (wI x (118 + i) 5 a2) 187 0 w.toInt64) = some (w, wI (wI (wJ (wI x (118 + i) 5 a2) 187 0 w.toInt64) 138 57 0) 180 i a2) := by
    have c0 : ∀ a, 138 ≤ a → (wJ (wI x (118 + i) 5 a2) 187 0 w.toInt64).1 a = x.1 a := fun a ha => by rw [wJ_I, wI_ne (by omega)]
    generalize wJ (wI x (118 + i) 5 a2) 187 0 w.toInt64 = y at c0
    have T0 := s163 (x := y) (I := I) a1 (by rw [c0 138 (by decide)]; exact e4) p3
    have T1 := s159 (x := y) (P := P) a2 (by rw [c0 138 (by decide)]; exact e2) p2
    rw [h1] at T0
    rw [h2] at T1
    have z : (wI (wI y 138 57 0) 180 i a2).1 178 = x.1 178 := by rw [wI_ne (by decide), wI_ne (by decide), c0 178 (by decide)]
    simp only [gm164_68, gm164_63, gm164_21, gm164_20, gm164, T0, T1, xii, i12, c0 178 (by decide), c0 180 (by decide), c0 181 (by decide), if_pos q1, if_pos q2, v3, q3, z, g2, n10, n20, n21, Option.bind_some, b2i_t, b2i_f, i10, ↓reduceIte, cond_true, cond_false, kb0, kb1, kb2, s92_1, s92_0, s93_1, s93_0, s113_0, s113_1, s113_2, s113_3, aBit_b, aI01, xi0, xi1]
  have oi : own (118 + i) = 7 := by
    unfold own
    rw [if_neg (by omega), if_neg (by omega), if_neg (by omega), if_neg (by omega), if_neg (by omega), if_neg (by omega), if_neg (by omega), if_pos (by omega)]
  have e : SB 7 x (wI (wI (wJ (wI x (118 + i) 5 a2) 187 0 w.toInt64) 138 57 0) 180 i a2) := by
    refine SB.I ?_ (by decide) (Or.inl rfl)
    refine SB.M ?_ (Or.inr rfl)
    refine SB.J ?_ (Or.inr rfl)
    refine SB.I ?_ (by omega) (Or.inl oi)
    exact SB.rf _ _
  have cc : ∀ a, ¬ a = 118 + i → ¬ a = 138 → ¬ a = 180 → (wI (wI (wJ (wI x (118 + i) 5 a2) 187 0 w.toInt64) 138 57 0) 180 i a2).1 a = x.1 a := fun a n1 n2 n3 => by rw [wI_ne n3, wI_ne n2, wJ_I, wI_ne n1]
  have ci : ∀ k, (wI (wI (wJ (wI x (118 + i) 5 a2) 187 0 w.toInt64) 138 57 0) 180 i a2).1 (118 + i) k = if k = 5 then a2 else x.1 (118 + i) k := fun k => by rw [wI_ne (by omega), wI_ne (by omega), wJ_I, wI_at]
  have c180 : ∀ k, (wI (wI (wJ (wI x (118 + i) 5 a2) 187 0 w.toInt64) 138 57 0) 180 i a2).1 180 k = if k = i then a2 else x.1 180 k := fun k => by rw [wI_at, wI_ne (by decide), wJ_I, wI_ne (by omega)]
  have c138 : ∀ k, ¬ k = 57 → (wI (wI (wJ (wI x (118 + i) 5 a2) 187 0 w.toInt64) 138 57 0) 180 i a2).1 138 k = x.1 138 k := fun k hk => by rw [wI_ne (by decide), wI_nj hk, wJ_I, wI_ne (by omega)]
  refine ⟨0, _, _, _, hA, hM, ?_, fun _ => rfl, ?_, ?_, ?_⟩
  · rw [wI_ne (by decide), wI_j]
  · rw [wJ_I, wI_ne (by omega)]
  · exact cc 0 (by omega) (by decide) (by decide)
  refine ⟨S, B, Z, F, U, P, I, now, hN.fr e (by decide), hC.fr e (by decide), hR.fx e (by decide) (by decide), hZ.fr e (by decide), hB.fr e (by decide), hF.fr e (by decide), ?_, hP.fr e (by decide)⟩
  generalize wI (wI (wJ (wI x (118 + i) 5 a2) 187 0 w.toInt64) 138 57 0) 180 i a2 = y at e cc ci c180 c138
  refine ⟨⟨p1, p2, p3⟩, ?_, ?_, ?_, fun j hj => ?_, ?_, fun j hj hj2 => ?_, ?_⟩
  · rw [cc 115 (by omega) (by decide) (by decide), c138 40 (by decide), c138 42 (by decide)]; exact ⟨e1, e2, e3, e4⟩
  · rw [cc 116 (by omega) (by decide) (by decide), cc 173 (by omega) (by decide) (by decide)]; exact w116
  · rw [cc 173 (by omega) (by decide) (by decide)]; exact hst
  · rw [cc 174 (by omega) (by decide) (by decide), cc 175 (by omega) (by decide) (by decide), cc 176 (by omega) (by decide) (by decide), cc 177 (by omega) (by decide) (by decide), cc 178 (by omega) (by decide) (by decide), cc 179 (by omega) (by decide) (by decide), cc 181 (by omega) (by decide) (by decide), c180]
    by_cases hji : j = i
    · subst hji
      rw [ci, ci, ci, ci, ci, ci, ci, ci, if_pos (rfl : j = j)]
      refine ⟨⟨f0, f1, f2, f3, f4, rfl, f6⟩, f7, f8, fun _ => q2, ?_⟩
      obtain ⟨o, o1, o2, o3⟩ := f10
      exact ⟨o, o1, o2, fun w => absurd w (aIn_ne h2)⟩
    · rw [cc (118 + j) (by omega) (by omega) (by omega), if_neg hji]
      exact hf j hj
  · rw [cc 181 (by omega) (by decide) (by decide)]; exact hcl
  · rw [cc (118 + j) (by omega) (by omega) (by omega), cc 181 (by omega) (by decide) (by decide)]
    exact hdf j hj hj2
  · rw [cc 181 (by omega) (by decide) (by decide), cc 174 (by omega) (by decide) (by decide)]; exact hun
theorem op_close {c : Nat} {x : Hs} (h : Inv c x) (a1 : Int32) : OpOK c x (gm206 a1 x) (gm165 a1) o64 := by
  have h0 := h
  obtain ⟨S, B, Z, F, U, P, I, now, hN, hC, hR, hZ, hB, hF, hD, hP⟩ := h
  obtain ⟨⟨k1, k2⟩, ⟨c1, c2, c3, c4⟩, -⟩ := id hC
  obtain ⟨⟨p1, p2, p3⟩, ⟨e1, e2, e3, e4⟩, w116, hst, hf, hcl, hdf, hun⟩ := id hD
  have T0 := s163 (x := x) a1 e4 p3
  cases h1 : aIn a1 I with
  | false =>
    refine OpOK.no h0 (k := 1) (b := 0) (by decide) ?_ ?_
    · simp only [gm206, gm83_35, gm83_34, gm83, s98_f hD h1, T0, h1, n10, n20, n21, Option.bind_some, b2i_t, b2i_f, i10, ↓reduceIte, cond_true, cond_false, kb0, kb1, kb2, s92_1, s92_0, s93_1, s93_0, s113_0, s113_1, s113_2, s113_3, aBit_b, aI01, xi0, xi1]
    · simp only [gm165_39, gm165_34, gm165, s98_f hD h1, T0, h1, n10, n20, n21, Option.bind_some, b2i_t, b2i_f, i10, ↓reduceIte, cond_true, cond_false, kb0, kb1, kb2, s92_1, s92_0, s93_1, s93_0, s113_0, s113_1, s113_2, s113_3, aBit_b, aI01, xi0, xi1]
  | true =>
  rw [h1] at T0
  have F0 := s98_t hD h1
  obtain ⟨i, hi, ei⟩ := aIn_ex h1
  have xii : xi a1 = i := by rw [ei, xi_zI (by omega)]
  have i12 := aIn_up h1 p3
  obtain ⟨⟨f0, f1, f2, f3, f4, f5, f6⟩, f7, f8, f9, f10⟩ := hf i hi
  by_cases q1 : x.1 180 i = -1
  · refine OpOK.no h0 (k := 2) (b := 0) (by decide) ?_ ?_
    · simp only [gm206, gm83_35, gm83_34, gm83, F0, T0, xii, i12, f5, if_pos q1, n10, n20, n21, Option.bind_some, b2i_t, b2i_f, i10, ↓reduceIte, cond_true, cond_false, kb0, kb1, kb2, s92_1, s92_0, s93_1, s93_0, s113_0, s113_1, s113_2, s113_3, aBit_b, aI01, xi0, xi1]
    · simp only [gm165_39, gm165_34, gm165, F0, T0, xii, i12, f5, if_pos q1, n10, n20, n21, Option.bind_some, b2i_t, b2i_f, i10, ↓reduceIte, cond_true, cond_false, kb0, kb1, kb2, s92_1, s92_0, s93_1, s93_0, s113_0, s113_1, s113_2, s113_3, aBit_b, aI01, xi0, xi1]
  by_cases q2 : x.1 181 i = 0
  case neg =>
    refine OpOK.no h0 (k := 2) (b := 0) (by decide) ?_ ?_
    · simp only [gm206, gm83_35, gm83_34, gm83, F0, T0, xii, i12, f5, f6, if_neg q1, if_neg q2, n10, n20, n21, Option.bind_some, b2i_t, b2i_f, i10, ↓reduceIte, cond_true, cond_false, kb0, kb1, kb2, s92_1, s92_0, s93_1, s93_0, s113_0, s113_1, s113_2, s113_3, aBit_b, aI01, xi0, xi1]
    · simp only [gm165_39, gm165_34, gm165, F0, T0, xii, i12, f5, f6, if_neg q1, if_neg q2, n10, n20, n21, Option.bind_some, b2i_t, b2i_f, i10, ↓reduceIte, cond_true, cond_false, kb0, kb1, kb2, s92_1, s92_0, s93_1, s93_0, s113_0, s113_1, s113_2, s113_3, aBit_b, aI01, xi0, xi1]
  case pos =>
  have rr : (wI x (118 + i) 6 1).1 (118 + i) 2 = x.1 176 i := by rw [wI_nj (by decide)]; exact f2
  have hA : gm206 a1 x = some ((0 : Int32), wJ (wI x (118 + i) 6 1) 187 0 (x.1 176 i).toInt64) := by
    simp only [gm206, gm83_35, gm83_34, gm83, F0, xii, i12, f5, f6, if_neg q1, if_pos q2, rr, n10, n20, n21, Option.bind_some, b2i_t, b2i_f, i10, ↓reduceIte, cond_true, cond_false, kb0, kb1, kb2, s92_1, s92_0, s93_1, s93_0, s113_0, s113_1, s113_2, s113_3, aBit_b, aI01, xi0, xi1]
  have hM : gm165 a1 (wJ (wI x (118 + i) 6 1) 187 0 (x.1 176 i).toInt64) = some (x.1 176 i, wI (wI (wJ (wI x (118 + i) 6 1) 187 0 (x.1 176 i).toInt64) 138 57 0) 181 i 1) := by
    have c0 : ∀ a, 138 ≤ a → (wJ (wI x (118 + i) 6 1) 187 0 (x.1 176 i).toInt64).1 a = x.1 a := fun a ha => by rw [wJ_I, wI_ne (by omega)]
    generalize wJ (wI x (118 + i) 6 1) 187 0 (x.1 176 i).toInt64 = y at c0
    have T0 := s163 (x := y) (I := I) a1 (by rw [c0 138 (by decide)]; exact e4) p3
    rw [h1] at T0
    have z : (wI (wI y 138 57 0) 181 i 1).1 176 = x.1 176 := by rw [wI_ne (by decide), wI_ne (by decide), c0 176 (by decide)]
    simp only [gm165_39, gm165_34, gm165, T0, xii, i12, c0 180 (by decide), c0 181 (by decide), if_neg q1, if_pos q2, z, n10, n20, n21, Option.bind_some, b2i_t, b2i_f, i10, ↓reduceIte, cond_true, cond_false, kb0, kb1, kb2, s92_1, s92_0, s93_1, s93_0, s113_0, s113_1, s113_2, s113_3, aBit_b, aI01, xi0, xi1]
  have oi : own (118 + i) = 7 := by
    unfold own
    rw [if_neg (by omega), if_neg (by omega), if_neg (by omega), if_neg (by omega), if_neg (by omega), if_neg (by omega), if_neg (by omega), if_pos (by omega)]
  have e : SB 7 x (wI (wI (wJ (wI x (118 + i) 6 1) 187 0 (x.1 176 i).toInt64) 138 57 0) 181 i 1) := by
    refine SB.I ?_ (by decide) (Or.inl rfl)
    refine SB.M ?_ (Or.inr rfl)
    refine SB.J ?_ (Or.inr rfl)
    refine SB.I ?_ (by omega) (Or.inl oi)
    exact SB.rf _ _
  have cc : ∀ a, ¬ a = 118 + i → ¬ a = 138 → ¬ a = 181 → (wI (wI (wJ (wI x (118 + i) 6 1) 187 0 (x.1 176 i).toInt64) 138 57 0) 181 i 1).1 a = x.1 a := fun a n1 n2 n3 => by rw [wI_ne n3, wI_ne n2, wJ_I, wI_ne n1]
  have ci : ∀ k, (wI (wI (wJ (wI x (118 + i) 6 1) 187 0 (x.1 176 i).toInt64) 138 57 0) 181 i 1).1 (118 + i) k = if k = 6 then 1 else x.1 (118 + i) k := fun k => by rw [wI_ne (by omega), wI_ne (by omega), wJ_I, wI_at]
  have c181 : ∀ k, (wI (wI (wJ (wI x (118 + i) 6 1) 187 0 (x.1 176 i).toInt64) 138 57 0) 181 i 1).1 181 k = if k = i then 1 else x.1 181 k := fun k => by rw [wI_at, wI_ne (by decide), wJ_I, wI_ne (by omega)]
  have c138 : ∀ k, ¬ k = 57 → (wI (wI (wJ (wI x (118 + i) 6 1) 187 0 (x.1 176 i).toInt64) 138 57 0) 181 i 1).1 138 k = x.1 138 k := fun k hk => by rw [wI_ne (by decide), wI_nj hk, wJ_I, wI_ne (by omega)]
  refine ⟨0, _, _, _, hA, hM, ?_, fun _ => rfl, ?_, ?_, ?_⟩
  · rw [wI_ne (by decide), wI_j]
  · rw [wJ_I, wI_ne (by omega)]
  · exact cc 0 (by omega) (by decide) (by decide)
  refine ⟨S, B, Z, F, U, P, I, now, hN.fr e (by decide), hC.fr e (by decide), hR.fx e (by decide) (by decide), hZ.fr e (by decide), hB.fr e (by decide), hF.fr e (by decide), ?_, hP.fr e (by decide)⟩
  generalize wI (wI (wJ (wI x (118 + i) 6 1) 187 0 (x.1 176 i).toInt64) 138 57 0) 181 i 1 = y at e cc ci c181 c138
  have n10 : ¬ (1 : Int32) = 0 := by decide
  refine ⟨⟨p1, p2, p3⟩, ?_, ?_, ?_, fun j hj => ?_, fun j hj => ?_, fun j hj hj2 => ?_, fun j k hj hk => ?_, ?_⟩
  · rw [cc 115 (by omega) (by decide) (by decide), c138 40 (by decide), c138 42 (by decide)]; exact ⟨e1, e2, e3, e4⟩
  · rw [cc 116 (by omega) (by decide) (by decide), cc 173 (by omega) (by decide) (by decide)]; exact w116
  · rw [cc 173 (by omega) (by decide) (by decide)]; exact hst
  · rw [cc 174 (by omega) (by decide) (by decide), cc 175 (by omega) (by decide) (by decide), cc 176 (by omega) (by decide) (by decide), cc 177 (by omega) (by decide) (by decide), cc 178 (by omega) (by decide) (by decide), cc 179 (by omega) (by decide) (by decide), cc 180 (by omega) (by decide) (by decide), c181]
    by_cases hji : j = i
    · subst hji
      rw [ci, ci, ci, ci, ci, ci, ci, ci, if_pos (rfl : j = j)]
      exact ⟨⟨f0, f1, f2, f3, f4, f5, rfl⟩, f7, f8, fun w => absurd w q1, f10⟩
    · rw [cc (118 + j) (by omega) (by omega) (by omega), if_neg hji]
      exact hf j hj
  · rw [c181]
    by_cases hji : j = i
    · rw [if_pos hji]; exact Or.inr rfl
    · rw [if_neg hji]; exact hcl j hj
  · rw [cc (118 + j) (by omega) (by omega) (by omega), c181, if_neg (by omega)]
    exact hdf j hj hj2
  · rw [c181, c181, cc 174 (by omega) (by decide) (by decide)]
    by_cases hji : j = i
    · rw [if_pos hji]; exact fun w => absurd w n10
    · by_cases hki : k = i
      · rw [if_pos hki]; exact fun _ w => absurd w n10
      · rw [if_neg hji, if_neg hki]; exact hun.1 j k hj hk
  · rw [cc 174 (by omega) (by decide) (by decide)]; exact hun.2
theorem op_incident {c : Nat} {x : Hs} (h : Inv c x) (a1 a2 : Int32) : OpOK c x (gm207 a1 a2 x) (gm166 a1 a2) o64 := by
  have h0 := h
  obtain ⟨S, B, Z, F, U, P, I, now, hN, hC, hR, hZ, hB, hF, hD, hP⟩ := h
  obtain ⟨⟨k1, k2⟩, ⟨c1, c2, c3, c4⟩, -⟩ := id hC
  obtain ⟨⟨p1, p2, p3⟩, ⟨e1, e2, e3, e4⟩, w116, hst, hf, hcl, hdf, hun⟩ := id hD
  have T0 := s163 (x := x) a1 e4 p3
  have t2 := fun y => s114 a2 0 5 y
  have u2 := fun y => s99 a2 0 5 y
  cases h1 : aIn a1 I with
  | false =>
    refine OpOK.no h0 (k := 1) (b := 0) (by decide) ?_ ?_
    · simp only [gm207, gm84, s98_f hD h1, T0, h1, n10, n20, n21, Option.bind_some, b2i_t, b2i_f, i10, ↓reduceIte, cond_true, cond_false, kb0, kb1, kb2, s92_1, s92_0, s93_1, s93_0, s113_0, s113_1, s113_2, s113_3, aBit_b, aI01, xi0, xi1]
    · simp only [gm166_27, gm166, s98_f hD h1, T0, h1, n10, n20, n21, Option.bind_some, b2i_t, b2i_f, i10, ↓reduceIte, cond_true, cond_false, kb0, kb1, kb2, s92_1, s92_0, s93_1, s93_0, s113_0, s113_1, s113_2, s113_3, aBit_b, aI01, xi0, xi1]
  | true =>
  rw [h1] at T0
  have F0 := s98_t hD h1
  cases h2 : win a2 0 5 with
  | false =>
    refine OpOK.no h0 (k := 2) (b := 0) (by decide) ?_ ?_
    · simp only [gm207, gm84, F0, T0, t2, u2, h2, n10, n20, n21, Option.bind_some, b2i_t, b2i_f, i10, ↓reduceIte, cond_true, cond_false, kb0, kb1, kb2, s92_1, s92_0, s93_1, s93_0, s113_0, s113_1, s113_2, s113_3, aBit_b, aI01, xi0, xi1]
    · simp only [gm166_27, gm166, F0, T0, t2, u2, h2, n10, n20, n21, Option.bind_some, b2i_t, b2i_f, i10, ↓reduceIte, cond_true, cond_false, kb0, kb1, kb2, s92_1, s92_0, s93_1, s93_0, s113_0, s113_1, s113_2, s113_3, aBit_b, aI01, xi0, xi1]
  | true =>
  obtain ⟨i, hi, ei⟩ := aIn_ex h1
  have xii : xi a1 = i := by rw [ei, xi_zI (by omega)]
  have i12 := aIn_up h1 p3
  obtain ⟨⟨f0, f1, f2, f3, f4, f5, f6⟩, f7, f8, f9, f10⟩ := hf i hi
  by_cases q0 : a2 = 0
  · refine OpOK.ask h0 (b := x.1 174 i) (x.1 174 i : Int32).toInt64 ?_ ?_ rfl
    · simp only [gm207, gm84, F0, u2, h2, if_pos q0, xii, i12, f0, f1, f2, f3, f5, f6, n10, n20, n21, Option.bind_some, b2i_t, b2i_f, i10, ↓reduceIte, cond_true, cond_false, kb0, kb1, kb2, s92_1, s92_0, s93_1, s93_0, s113_0, s113_1, s113_2, s113_3, aBit_b, aI01, xi0, xi1]
    · have T0 := s163 (x := wJ x 187 0 (x.1 174 i : Int32).toInt64) (I := I) a1 e4 p3
      rw [h1] at T0
      have z : ∀ a, 139 ≤ a → (wI (wJ x 187 0 (x.1 174 i : Int32).toInt64) 138 57 0).1 a = x.1 a := fun a ha => by rw [wI_ne (by omega), wJ_I]
      simp only [gm166_27, gm166, T0, t2, h2, if_pos q0, xii, i12, z 174 (by decide), z 175 (by decide), z 176 (by decide), z 179 (by decide), z 180 (by decide), z 181 (by decide), n10, n20, n21, Option.bind_some, b2i_t, b2i_f, i10, ↓reduceIte, cond_true, cond_false, kb0, kb1, kb2, s92_1, s92_0, s93_1, s93_0, s113_0, s113_1, s113_2, s113_3, aBit_b, aI01, xi0, xi1]
  by_cases q1 : a2 = 1
  · refine OpOK.ask h0 (b := x.1 175 i) (x.1 175 i : Int32).toInt64 ?_ ?_ rfl
    · simp only [gm207, gm84, F0, u2, h2, if_neg q0, if_pos q1, xii, i12, f0, f1, f2, f3, f5, f6, n10, n20, n21, Option.bind_some, b2i_t, b2i_f, i10, ↓reduceIte, cond_true, cond_false, kb0, kb1, kb2, s92_1, s92_0, s93_1, s93_0, s113_0, s113_1, s113_2, s113_3, aBit_b, aI01, xi0, xi1]
    · have T0 := s163 (x := wJ x 187 0 (x.1 175 i : Int32).toInt64) (I := I) a1 e4 p3
      rw [h1] at T0
      have z : ∀ a, 139 ≤ a → (wI (wJ x 187 0 (x.1 175 i : Int32).toInt64) 138 57 0).1 a = x.1 a := fun a ha => by rw [wI_ne (by omega), wJ_I]
      simp only [gm166_27, gm166, T0, t2, h2, if_neg q0, if_pos q1, xii, i12, z 174 (by decide), z 175 (by decide), z 176 (by decide), z 179 (by decide), z 180 (by decide), z 181 (by decide), n10, n20, n21, Option.bind_some, b2i_t, b2i_f, i10, ↓reduceIte, cond_true, cond_false, kb0, kb1, kb2, s92_1, s92_0, s93_1, s93_0, s113_0, s113_1, s113_2, s113_3, aBit_b, aI01, xi0, xi1]
  by_cases q2 : a2 = 2
  · refine OpOK.ask h0 (b := x.1 176 i) (x.1 176 i : Int32).toInt64 ?_ ?_ rfl
    · simp only [gm207, gm84, F0, u2, h2, if_neg q0, if_neg q1, if_pos q2, xii, i12, f0, f1, f2, f3, f5, f6, n10, n20, n21, Option.bind_some, b2i_t, b2i_f, i10, ↓reduceIte, cond_true, cond_false, kb0, kb1, kb2, s92_1, s92_0, s93_1, s93_0, s113_0, s113_1, s113_2, s113_3, aBit_b, aI01, xi0, xi1]
    · have T0 := s163 (x := wJ x 187 0 (x.1 176 i : Int32).toInt64) (I := I) a1 e4 p3
      rw [h1] at T0
      have z : ∀ a, 139 ≤ a → (wI (wJ x 187 0 (x.1 176 i : Int32).toInt64) 138 57 0).1 a = x.1 a := fun a ha => by rw [wI_ne (by omega), wJ_I]
      simp only [gm166_27, gm166, T0, t2, h2, if_neg q0, if_neg q1, if_pos q2, xii, i12, z 174 (by decide), z 175 (by decide), z 176 (by decide), z 179 (by decide), z 180 (by decide), z 181 (by decide), n10, n20, n21, Option.bind_some, b2i_t, b2i_f, i10, ↓reduceIte, cond_true, cond_false, kb0, kb1, kb2, s92_1, s92_0, s93_1, s93_0, s113_0, s113_1, s113_2, s113_3, aBit_b, aI01, xi0, xi1]
  by_cases q3 : a2 = 3
  · refine OpOK.ask h0 (b := x.1 179 i) (x.1 179 i : Int32).toInt64 ?_ ?_ rfl
    · simp only [gm207, gm84, F0, u2, h2, if_neg q0, if_neg q1, if_neg q2, if_pos q3, xii, i12, f0, f1, f2, f3, f5, f6, n10, n20, n21, Option.bind_some, b2i_t, b2i_f, i10, ↓reduceIte, cond_true, cond_false, kb0, kb1, kb2, s92_1, s92_0, s93_1, s93_0, s113_0, s113_1, s113_2, s113_3, aBit_b, aI01, xi0, xi1]
    · have T0 := s163 (x := wJ x 187 0 (x.1 179 i : Int32).toInt64) (I := I) a1 e4 p3
      rw [h1] at T0
      have z : ∀ a, 139 ≤ a → (wI (wJ x 187 0 (x.1 179 i : Int32).toInt64) 138 57 0).1 a = x.1 a := fun a ha => by rw [wI_ne (by omega), wJ_I]
      simp only [gm166_27, gm166, T0, t2, h2, if_neg q0, if_neg q1, if_neg q2, if_pos q3, xii, i12, z 174 (by decide), z 175 (by decide), z 176 (by decide), z 179 (by decide), z 180 (by decide), z 181 (by decide), n10, n20, n21, Option.bind_some, b2i_t, b2i_f, i10, ↓reduceIte, cond_true, cond_false, kb0, kb1, kb2, s92_1, s92_0, s93_1, s93_0, s113_0, s113_1, s113_2, s113_3, aBit_b, aI01, xi0, xi1]
  by_cases q4 : a2 = 4
  · refine OpOK.ask h0 (b := x.1 180 i) (x.1 180 i : Int32).toInt64 ?_ ?_ rfl
    · simp only [gm207, gm84, F0, u2, h2, if_neg q0, if_neg q1, if_neg q2, if_neg q3, if_pos q4, xii, i12, f0, f1, f2, f3, f5, f6, n10, n20, n21, Option.bind_some, b2i_t, b2i_f, i10, ↓reduceIte, cond_true, cond_false, kb0, kb1, kb2, s92_1, s92_0, s93_1, s93_0, s113_0, s113_1, s113_2, s113_3, aBit_b, aI01, xi0, xi1]
    · have T0 := s163 (x := wJ x 187 0 (x.1 180 i : Int32).toInt64) (I := I) a1 e4 p3
      rw [h1] at T0
      have z : ∀ a, 139 ≤ a → (wI (wJ x 187 0 (x.1 180 i : Int32).toInt64) 138 57 0).1 a = x.1 a := fun a ha => by rw [wI_ne (by omega), wJ_I]
      simp only [gm166_27, gm166, T0, t2, h2, if_neg q0, if_neg q1, if_neg q2, if_neg q3, if_pos q4, xii, i12, z 174 (by decide), z 175 (by decide), z 176 (by decide), z 179 (by decide), z 180 (by decide), z 181 (by decide), n10, n20, n21, Option.bind_some, b2i_t, b2i_f, i10, ↓reduceIte, cond_true, cond_false, kb0, kb1, kb2, s92_1, s92_0, s93_1, s93_0, s113_0, s113_1, s113_2, s113_3, aBit_b, aI01, xi0, xi1]
  by_cases q5 : x.1 181 i = 0
  · refine OpOK.ask h0 (b := 0) (0 : Int32).toInt64 ?_ ?_ rfl
    · simp only [gm207, gm84, F0, u2, h2, if_neg q0, if_neg q1, if_neg q2, if_neg q3, if_neg q4, if_pos q5, xii, i12, f0, f1, f2, f3, f5, f6, n10, n20, n21, Option.bind_some, b2i_t, b2i_f, i10, ↓reduceIte, cond_true, cond_false, kb0, kb1, kb2, s92_1, s92_0, s93_1, s93_0, s113_0, s113_1, s113_2, s113_3, aBit_b, aI01, xi0, xi1]
    · have T0 := s163 (x := wJ x 187 0 (0 : Int32).toInt64) (I := I) a1 e4 p3
      rw [h1] at T0
      have z : ∀ a, 139 ≤ a → (wI (wJ x 187 0 (0 : Int32).toInt64) 138 57 0).1 a = x.1 a := fun a ha => by rw [wI_ne (by omega), wJ_I]
      simp only [gm166_27, gm166, T0, t2, h2, if_neg q0, if_neg q1, if_neg q2, if_neg q3, if_neg q4, if_pos q5, xii, i12, z 174 (by decide), z 175 (by decide), z 176 (by decide), z 179 (by decide), z 180 (by decide), z 181 (by decide), n10, n20, n21, Option.bind_some, b2i_t, b2i_f, i10, ↓reduceIte, cond_true, cond_false, kb0, kb1, kb2, s92_1, s92_0, s93_1, s93_0, s113_0, s113_1, s113_2, s113_3, aBit_b, aI01, xi0, xi1]
  · refine OpOK.ask h0 (b := 1) (1 : Int32).toInt64 ?_ ?_ rfl
    · simp only [gm207, gm84, F0, u2, h2, if_neg q0, if_neg q1, if_neg q2, if_neg q3, if_neg q4, if_neg q5, xii, i12, f0, f1, f2, f3, f5, f6, n10, n20, n21, Option.bind_some, b2i_t, b2i_f, i10, ↓reduceIte, cond_true, cond_false, kb0, kb1, kb2, s92_1, s92_0, s93_1, s93_0, s113_0, s113_1, s113_2, s113_3, aBit_b, aI01, xi0, xi1]
    · have T0 := s163 (x := wJ x 187 0 (1 : Int32).toInt64) (I := I) a1 e4 p3
      rw [h1] at T0
      have z : ∀ a, 139 ≤ a → (wI (wJ x 187 0 (1 : Int32).toInt64) 138 57 0).1 a = x.1 a := fun a ha => by rw [wI_ne (by omega), wJ_I]
      simp only [gm166_27, gm166, T0, t2, h2, if_neg q0, if_neg q1, if_neg q2, if_neg q3, if_neg q4, if_neg q5, xii, i12, z 174 (by decide), z 175 (by decide), z 176 (by decide), z 179 (by decide), z 180 (by decide), z 181 (by decide), n10, n20, n21, Option.bind_some, b2i_t, b2i_f, i10, ↓reduceIte, cond_true, cond_false, kb0, kb1, kb2, s92_1, s92_0, s93_1, s93_0, s113_0, s113_1, s113_2, s113_3, aBit_b, aI01, xi0, xi1]
