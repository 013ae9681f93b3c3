/-! Requests -/
theorem R142_118_1 (a1 : Int32) (a3 : Int32) (a4 : Int32) (a5 : Int32) (a8 : Int32) (x : Hs) : gm142_118 a1 a3 a4 a5 a8 1 x = some (0, wI x 138 57 1) := by
  unfold gm142_118
  rw [s113_1]
  rfl
theorem R142_118_2 (a1 : Int32) (a3 : Int32) (a4 : Int32) (a5 : Int32) (a8 : Int32) (x : Hs) : gm142_118 a1 a3 a4 a5 a8 2 x = some (0, wI x 138 57 2) := by
  unfold gm142_118
  rw [s113_2]
  rfl
theorem R142_118_3 (a1 : Int32) (a3 : Int32) (a4 : Int32) (a5 : Int32) (a8 : Int32) (x : Hs) : gm142_118 a1 a3 a4 a5 a8 3 x = some (0, wI x 138 57 3) := by
  unfold gm142_118
  rw [s113_3]
  rfl
theorem op_requests {c : Nat} {x : Hs} (h : Inv c x) (hc : c < 512) (a1 a2 a3 a4 a5 : Int32) : OpOK c x (gm192 a1 a2 a3 a4 a5 x) (gm142 a1 a2 a3 a4 a5) o64 := by
  have h0 := h
  obtain ⟨S, B, Z, F, U, P, I, now, hN, hC, hR, hZ, hB, hF, hD, hP⟩ := h
  obtain ⟨⟨k1, k2⟩, ⟨e1, e2, e3, e4⟩, -⟩ := id hC
  obtain ⟨r1, r2⟩ := id hR
  obtain ⟨w104, hb⟩ := id hB
  obtain ⟨n1, n2, n3⟩ := id hN
  have T0 := s117 (x := x) a1 e2 k1
  have t2 := fun y : Hs => s119 (x := y) a2
  have t4 := fun y => s114 a4 0 1000 y
  have t5 := fun y => s114 a5 0 1000 y
  have u4 := fun y => s99 a4 0 1000 y
  have u5 := fun y => s99 a5 0 1000 y
  cases p1 : aIn a1 S with
  | false =>
    rw [p1] at T0
    cases q4 : win a4 0 1000 <;> cases q5 : win a5 0 1000 <;>
    (
      refine OpOK.no h0 (k := 1) (b := 0) (by decide) ?_ ?_
      · simp only [gm192, gm69_80, gm69_71, gm69_39, gm69_38, gm69, s94_f hC p1, T0, t4, t5, q4, q5, n10, n20, n21, Option.bind_some, b2i_t, b2i_f, i10, ↓reduceIte, cond_true, cond_false, kb0, kb1, kb2, s92_1, s92_0, s93_1, s93_0, s113_0, s113_1, s113_2, s113_3, aBit_b, aI01, xi0, xi1]
      · simp only [R142_118_1, R142_118_2, R142_118_3, gm142_109, gm142_67, gm142_51, gm142_50, gm142_20, gm142_19, gm142, s94_f hC p1, T0, t4, t5, q4, q5, n10, n20, n21, Option.bind_some, b2i_t, b2i_f, i10, ↓reduceIte, cond_true, cond_false, kb0, kb1, kb2, s92_1, s92_0, s93_1, s93_0, s113_0, s113_1, s113_2, s113_3, aBit_b, aI01, xi0, xi1])
  | true =>
  rw [p1] at T0
  have F1 := s94_t hC p1
  cases p2 : aIn a2 4 with
  | false =>
    cases q4 : win a4 0 1000 <;> cases q5 : win a5 0 1000 <;>
    (
      refine OpOK.no h0 (k := 1) (b := 0) (by decide) ?_ ?_
      · simp only [gm192, gm69_80, gm69_71, gm69_39, gm69_38, gm69, F1, s96_f p2, T0, t2, p2, t4, t5, q4, q5, n10, n20, n21, Option.bind_some, b2i_t, b2i_f, i10, ↓reduceIte, cond_true, cond_false, kb0, kb1, kb2, s92_1, s92_0, s93_1, s93_0, s113_0, s113_1, s113_2, s113_3, aBit_b, aI01, xi0, xi1]
      · simp only [R142_118_1, R142_118_2, R142_118_3, gm142_109, gm142_67, gm142_51, gm142_50, gm142_20, gm142_19, gm142, F1, s96_f p2, T0, t2, p2, t4, t5, q4, q5, n10, n20, n21, Option.bind_some, b2i_t, b2i_f, i10, ↓reduceIte, cond_true, cond_false, kb0, kb1, kb2, s92_1, s92_0, s93_1, s93_0, s113_0, s113_1, s113_2, s113_3, aBit_b, aI01, xi0, xi1])
  | true =>
  have F2 := s96_t (x := x) p2
  cases q4 : win a4 0 1000 with
  | false =>
    refine OpOK.no h0 (k := 2) (b := 0) (by decide) ?_ ?_
    · simp only [gm192, gm69_80, gm69_71, gm69_39, gm69_38, gm69, F1, F2, T0, t2, p2, t4, u4, q4, n10, n20, n21, Option.bind_some, b2i_t, b2i_f, i10, ↓reduceIte, cond_true, cond_false, kb0, kb1, kb2, s92_1, s92_0, s93_1, s93_0, s113_0, s113_1, s113_2, s113_3, aBit_b, aI01, xi0, xi1]
    · simp only [R142_118_1, R142_118_2, R142_118_3, gm142_109, gm142_67, gm142_51, gm142_50, gm142_20, gm142_19, gm142, F1, F2, T0, t2, p2, t4, u4, q4, n10, n20, n21, Option.bind_some, b2i_t, b2i_f, i10, ↓reduceIte, cond_true, cond_false, kb0, kb1, kb2, s92_1, s92_0, s93_1, s93_0, s113_0, s113_1, s113_2, s113_3, aBit_b, aI01, xi0, xi1]
  | true =>
  cases q5 : win a5 0 1000 with
  | false =>
    refine OpOK.no h0 (k := 2) (b := 0) (by decide) ?_ ?_
    · simp only [gm192, gm69_80, gm69_71, gm69_39, gm69_38, gm69, F1, F2, T0, t2, p2, t4, u4, q4, t5, u5, q5, n10, n20, n21, Option.bind_some, b2i_t, b2i_f, i10, ↓reduceIte, cond_true, cond_false, kb0, kb1, kb2, s92_1, s92_0, s93_1, s93_0, s113_0, s113_1, s113_2, s113_3, aBit_b, aI01, xi0, xi1]
    · simp only [R142_118_1, R142_118_2, R142_118_3, gm142_109, gm142_67, gm142_51, gm142_50, gm142_20, gm142_19, gm142, F1, F2, T0, t2, p2, t4, u4, q4, t5, u5, q5, n10, n20, n21, Option.bind_some, b2i_t, b2i_f, i10, ↓reduceIte, cond_true, cond_false, kb0, kb1, kb2, s92_1, s92_0, s93_1, s93_0, s113_0, s113_1, s113_2, s113_3, aBit_b, aI01, xi0, xi1]
  | true =>
  have hw4 := (win_iff _ _ _).mp q4
  have hw5 := (win_iff _ _ _).mp q5
  rw [show (0 : Int32).toInt = 0 from rfl, show (1000 : Int32).toInt = 1000 from rfl] at hw4 hw5
  have hd : (a4 + a5).toInt = a4.toInt + a5.toInt := i_add (by omega) (by omega)
  have i5 := aIn_up p1 k1
  have i4 := p2
  obtain ⟨s, hs, es⟩ := aIn_ex i5
  obtain ⟨r, hr, er⟩ := aIn_ex p2
  have xs : xi a1 = s := by rw [es, xi_zI (by omega)]
  have xr : xi a2 = r := by rw [er, xi_zI (by omega)]
  have i5' := i5
  have ix : 5 * a2 + a1 = zI (5 * r + s) := by rw [er, es, show (5 : Int32) = zI 5 from rfl, zI_mul, zI_add]
  have i20 : aIn (zI (5 * r + s)) 20 = true := aIn_t (by omega) (by omega)
  have xk : xi (zI (5 * r + s)) = 5 * r + s := xi_zI (by omega)
  obtain ⟨⟨q147, q148, q149⟩, ⟨l4, l5, l6, l7⟩, hv, m1, m2, m3, m4⟩ := r1 r hr s hs
  have dv : zI now / 60 = zI (now / 60) := zI_div (by omega) (by omega) (b := 60) (by omega)
  obtain ⟨x1, x2, x3, x4, x5, x6⟩ := hb s hs
  unfold nB at m1 m2 m3 m4 x3 x4
  have ow : ∀ k, k < 8 → own (60 + 8 * r + k) ∈ [5, 2] := by
    intro k hk
    have : own (60 + 8 * r + k) = 2 := by
      unfold own; rw [if_neg (by omega), if_neg (by omega), if_neg (by omega), if_pos (by omega)]
    rw [this]
    decide
  by_cases g0 : a3 = 0
  · by_cases g1 : x.1 147 (5 * r + s) = -1
    · refine OpOK.no h0 (k := 3) (b := 0) (by decide) ?_ ?_
      · simp only [gm192, gm69_80, gm69_71, gm69_39, gm69_38, gm69, F1, F2, T0, t2, p2, t4, u4, q4, t5, u5, q5, xs, xr, i4, i5, ix, i20, xk, if_pos g0, q147, if_pos g1, n10, n20, n21, Option.bind_some, b2i_t, b2i_f, i10, ↓reduceIte, cond_true, cond_false, kb0, kb1, kb2, s92_1, s92_0, s93_1, s93_0, s113_0, s113_1, s113_2, s113_3, aBit_b, aI01, xi0, xi1]
      · simp only [R142_118_1, R142_118_2, R142_118_3, gm142_109, gm142_67, gm142_51, gm142_50, gm142_20, gm142_19, gm142, F1, F2, T0, t2, p2, t4, u4, q4, t5, u5, q5, xs, xr, i4, i5, ix, i20, xk, if_pos g0, q147, if_pos g1, n10, n20, n21, Option.bind_some, b2i_t, b2i_f, i10, ↓reduceIte, cond_true, cond_false, kb0, kb1, kb2, s92_1, s92_0, s93_1, s93_0, s113_0, s113_1, s113_2, s113_3, aBit_b, aI01, xi0, xi1]
    · by_cases q : x.1 160 s = zI (now / 60)
      · obtain ⟨l105, l106⟩ := x5 q
        have g105 : x.2.1 105 s + (a4 + a5).toInt64 = (x.1 161 s + (a4 + a5)).toInt64 := by
          rw [l105, t64_add (a := x.1 161 s) (b := a4 + a5) (by omega) (by omega)]
        have g106 : (wJ x 105 s (x.1 161 s + (a4 + a5)).toInt64).2.1 106 s + a5.toInt64 = (x.1 162 s + a5).toInt64 := by
          rw [wJ_ne (by decide), l106, t64_add (a := x.1 162 s) (b := a5) (by omega) (by omega)]
        have g6 : (wJ (wJ x 105 s (x.1 161 s + (a4 + a5)).toInt64) 106 s (x.1 162 s + a5).toInt64).2.1 (60 + 8 * r + 4) s + (a4 + a5).toInt64 = (x.1 153 (5 * r + s) + (a4 + a5)).toInt64 := by
          rw [wJ_ne (by omega), wJ_ne (by omega), l4, t64_add (a := x.1 153 (5 * r + s)) (b := a4 + a5) (by omega) (by omega)]
        have g7 : (wJ (wJ (wJ x 105 s (x.1 161 s + (a4 + a5)).toInt64) 106 s (x.1 162 s + a5).toInt64) (60 + 8 * r + 4) s (x.1 153 (5 * r + s) + (a4 + a5)).toInt64).2.1 (60 + 8 * r + 5) s + a5.toInt64 = (x.1 154 (5 * r + s) + a5).toInt64 := by
          rw [wJ_ne (by omega), wJ_ne (by omega), wJ_ne (by omega), l5, t64_add (a := x.1 154 (5 * r + s)) (b := a5) (by omega) (by omega)]
        have g8 : (wJ (wJ (wJ (wJ x 105 s (x.1 161 s + (a4 + a5)).toInt64) 106 s (x.1 162 s + a5).toInt64) (60 + 8 * r + 4) s (x.1 153 (5 * r + s) + (a4 + a5)).toInt64) (60 + 8 * r + 5) s (x.1 154 (5 * r + s) + a5).toInt64).2.1 (60 + 8 * r + 4) s = (x.1 153 (5 * r + s) + (a4 + a5)).toInt64 := by
          rw [wJ_ne (by omega), wJ_at, if_pos rfl]
        have hA : gm192 a1 a2 a3 a4 a5 x = some ((0 : Int32), wJ (wJ (wJ (wJ (wJ x 105 s (x.1 161 s + (a4 + a5)).toInt64) 106 s (x.1 162 s + a5).toInt64) (60 + 8 * r + 4) s (x.1 153 (5 * r + s) + (a4 + a5)).toInt64) (60 + 8 * r + 5) s (x.1 154 (5 * r + s) + a5).toInt64) 187 0 (x.1 153 (5 * r + s) + (a4 + a5)).toInt64) := by
          simp only [gm192, gm69_80, gm69_71, gm69_39, gm69_38, gm69, gm2, gm52, gm53, F1, F2, u4, q4, u5, q5, p1, xs, xr, i4, i5, if_pos g0, q147, if_neg g1, g105, g106, g6, g7, g8, Int32.toInt32_toInt64, n10, n20, n21, Option.bind_some, b2i_t, b2i_f, i10, ↓reduceIte, cond_true, cond_false, kb0, kb1, kb2, s92_1, s92_0, s93_1, s93_0, s113_0, s113_1, s113_2, s113_3, aBit_b, aI01, xi0, xi1]
        have hM : gm142 a1 a2 a3 a4 a5 (wJ (wJ (wJ (wJ (wJ x 105 s (x.1 161 s + (a4 + a5)).toInt64) 106 s (x.1 162 s + a5).toInt64) (60 + 8 * r + 4) s (x.1 153 (5 * r + s) + (a4 + a5)).toInt64) (60 + 8 * r + 5) s (x.1 154 (5 * r + s) + a5).toInt64) 187 0 (x.1 153 (5 * r + s) + (a4 + a5)).toInt64) = some ((x.1 153 (5 * r + s) + (a4 + a5)), wI (wI (wI (wI (wI (wJ (wJ (wJ (wJ (wJ x 105 s (x.1 161 s + (a4 + a5)).toInt64) 106 s (x.1 162 s + a5).toInt64) (60 + 8 * r + 4) s (x.1 153 (5 * r + s) + (a4 + a5)).toInt64) (60 + 8 * r + 5) s (x.1 154 (5 * r + s) + a5).toInt64) 187 0 (x.1 153 (5 * r + s) + (a4 + a5)).toInt64) 138 57 0) 161 s (x.1 161 s + (a4 + a5))) 162 s (x.1 162 s + a5)) 153 (5 * r + s) (x.1 153 (5 * r + s) + (a4 + a5))) 154 (5 * r + s) (x.1 154 (5 * r + s) + a5)) := by
          have c0 : (wJ (wJ (wJ (wJ (wJ x 105 s (x.1 161 s + (a4 + a5)).toInt64) 106 s (x.1 162 s + a5).toInt64) (60 + 8 * r + 4) s (x.1 153 (5 * r + s) + (a4 + a5)).toInt64) (60 + 8 * r + 5) s (x.1 154 (5 * r + s) + a5).toInt64) 187 0 (x.1 153 (5 * r + s) + (a4 + a5)).toInt64).1 = x.1 := rfl
          generalize wJ (wJ (wJ (wJ (wJ x 105 s (x.1 161 s + (a4 + a5)).toInt64) 106 s (x.1 162 s + a5).toInt64) (60 + 8 * r + 4) s (x.1 153 (5 * r + s) + (a4 + a5)).toInt64) (60 + 8 * r + 5) s (x.1 154 (5 * r + s) + a5).toInt64) 187 0 (x.1 153 (5 * r + s) + (a4 + a5)).toInt64 = y at c0
          have T0 := s117 (x := y) (S := S) a1 (by rw [c0]; exact e2) k1
          rw [p1] at T0
          have st : gm142 a1 a2 a3 a4 a5 y = gm142_118 a1 a3 a4 a5 (zI (5 * r + s)) 0 y := by
            simp only [gm142_109, gm142_67, gm142_51, gm142_50, gm142_20, gm142_19, gm142, T0, t2, p2, t4, q4, t5, q5, ix, i20, xk, c0, if_pos g0, if_neg g1, n10, n20, n21, Option.bind_some, b2i_t, b2i_f, i10, ↓reduceIte, cond_true, cond_false, kb0, kb1, kb2, s92_1, s92_0, s93_1, s93_0, s113_0, s113_1, s113_2, s113_3, aBit_b, aI01, xi0, xi1]
          rw [st]
          unfold gm142_118
          rw [s113_0, Option.bind_some]
          have zz : ∀ a, 139 ≤ a → (wI y 138 57 0).1 a = x.1 a := fun a ha => by rw [wI_ne (by omega), c0]
          have z0 : (wI y 138 57 0).1 138 0 = zI now := by rw [wI_nj (by decide), c0]; exact n3
          generalize wI y 138 57 0 = z at zz z0
          have z160 := zz 160 (by decide)
          have z161 := zz 161 (by decide)
          have z162 := zz 162 (by decide)
          have z151 := zz 151 (by decide)
          have z152 := zz 152 (by decide)
          have z153 := zz 153 (by decide)
          have z154 := zz 154 (by decide)
          simp only [gm137, gm142_161, ↓reduceIte, i10, Option.bind_some, cond_true, xs, i5', z160, z0, dv, if_pos q, i20, xk, if_pos g0, wI_ne, not_false_eq_true, Nat.reduceEqDiff, wI_j, z161, z162, z151, z152, z153, z154]
        have e : SBl [5, 2] x (wI (wI (wI (wI (wI (wJ (wJ (wJ (wJ (wJ x 105 s (x.1 161 s + (a4 + a5)).toInt64) 106 s (x.1 162 s + a5).toInt64) (60 + 8 * r + 4) s (x.1 153 (5 * r + s) + (a4 + a5)).toInt64) (60 + 8 * r + 5) s (x.1 154 (5 * r + s) + a5).toInt64) 187 0 (x.1 153 (5 * r + s) + (a4 + a5)).toInt64) 138 57 0) 161 s (x.1 161 s + (a4 + a5))) 162 s (x.1 162 s + a5)) 153 (5 * r + s) (x.1 153 (5 * r + s) + (a4 + a5))) 154 (5 * r + s) (x.1 154 (5 * r + s) + a5)) := by
          refine SBl.I ?_ (by decide) (Or.inl (by decide))
          refine SBl.I ?_ (by decide) (Or.inl (by decide))
          refine SBl.I ?_ (by decide) (Or.inl (by decide))
          refine SBl.I ?_ (by decide) (Or.inl (by decide))
          refine SBl.M ?_ (Or.inr rfl)
          refine SBl.J ?_ (Or.inr rfl)
          refine SBl.J ?_ (Or.inl (ow 5 (by decide)))
          refine SBl.J ?_ (Or.inl (ow 4 (by decide)))
          refine SBl.J ?_ (Or.inl (by decide))
          refine SBl.J ?_ (Or.inl (by decide))
          exact SBl.rf _ _
        refine ⟨0, _, _, _, hA, hM, ?_, fun _ => rfl, rfl, e.c 0 (by decide) (by decide) (by decide), ?_⟩
        · rw [wI_ne (by decide), wI_ne (by decide), wI_ne (by decide), wI_ne (by decide), wI_j]
        ·
          have cI : ∀ a, ¬ a = 138 → ¬ a = 160 → ¬ a = 161 → ¬ a = 162 → ¬ a = 153 → ¬ a = 154 → (wI (wI (wI (wI (wI (wJ (wJ (wJ (wJ (wJ x 105 s (x.1 161 s + (a4 + a5)).toInt64) 106 s (x.1 162 s + a5).toInt64) (60 + 8 * r + 4) s (x.1 153 (5 * r + s) + (a4 + a5)).toInt64) (60 + 8 * r + 5) s (x.1 154 (5 * r + s) + a5).toInt64) 187 0 (x.1 153 (5 * r + s) + (a4 + a5)).toInt64) 138 57 0) 161 s (x.1 161 s + (a4 + a5))) 162 s (x.1 162 s + a5)) 153 (5 * r + s) (x.1 153 (5 * r + s) + (a4 + a5))) 154 (5 * r + s) (x.1 154 (5 * r + s) + a5)).1 a = x.1 a := by
            intro a m1 m2 m3 m4 m5 m6
            rw [wI_ne m6, wI_ne m5, wI_ne m4, wI_ne m3, wI_ne m1]
            rfl
          have d160 : ∀ t, (wI (wI (wI (wI (wI (wJ (wJ (wJ (wJ (wJ x 105 s (x.1 161 s + (a4 + a5)).toInt64) 106 s (x.1 162 s + a5).toInt64) (60 + 8 * r + 4) s (x.1 153 (5 * r + s) + (a4 + a5)).toInt64) (60 + 8 * r + 5) s (x.1 154 (5 * r + s) + a5).toInt64) 187 0 (x.1 153 (5 * r + s) + (a4 + a5)).toInt64) 138 57 0) 161 s (x.1 161 s + (a4 + a5))) 162 s (x.1 162 s + a5)) 153 (5 * r + s) (x.1 153 (5 * r + s) + (a4 + a5))) 154 (5 * r + s) (x.1 154 (5 * r + s) + a5)).1 160 t = if t = s then zI (now / 60) else x.1 160 t := by
            intro t
            rw [wI_ne (by decide), wI_ne (by decide), wI_ne (by decide), wI_ne (by decide), wI_ne (by decide)]
            by_cases ht : t = s
            · rw [if_pos ht, ht]; exact q
            · rw [if_neg ht]; rfl
          have d161 : ∀ t, (wI (wI (wI (wI (wI (wJ (wJ (wJ (wJ (wJ x 105 s (x.1 161 s + (a4 + a5)).toInt64) 106 s (x.1 162 s + a5).toInt64) (60 + 8 * r + 4) s (x.1 153 (5 * r + s) + (a4 + a5)).toInt64) (60 + 8 * r + 5) s (x.1 154 (5 * r + s) + a5).toInt64) 187 0 (x.1 153 (5 * r + s) + (a4 + a5)).toInt64) 138 57 0) 161 s (x.1 161 s + (a4 + a5))) 162 s (x.1 162 s + a5)) 153 (5 * r + s) (x.1 153 (5 * r + s) + (a4 + a5))) 154 (5 * r + s) (x.1 154 (5 * r + s) + a5)).1 161 t = if t = s then x.1 161 s + (a4 + a5) else x.1 161 t := by
            intro t
            rw [wI_ne (by decide), wI_ne (by decide), wI_ne (by decide), wI_at, wI_ne (by decide)]
            by_cases ht : t = s
            · rw [if_pos ht, if_pos ht]
            · rw [if_neg ht, if_neg ht]; rfl
          have d162 : ∀ t, (wI (wI (wI (wI (wI (wJ (wJ (wJ (wJ (wJ x 105 s (x.1 161 s + (a4 + a5)).toInt64) 106 s (x.1 162 s + a5).toInt64) (60 + 8 * r + 4) s (x.1 153 (5 * r + s) + (a4 + a5)).toInt64) (60 + 8 * r + 5) s (x.1 154 (5 * r + s) + a5).toInt64) 187 0 (x.1 153 (5 * r + s) + (a4 + a5)).toInt64) 138 57 0) 161 s (x.1 161 s + (a4 + a5))) 162 s (x.1 162 s + a5)) 153 (5 * r + s) (x.1 153 (5 * r + s) + (a4 + a5))) 154 (5 * r + s) (x.1 154 (5 * r + s) + a5)).1 162 t = if t = s then x.1 162 s + a5 else x.1 162 t := by
            intro t
            rw [wI_ne (by decide), wI_ne (by decide), wI_at, wI_ne (by decide), wI_ne (by decide)]
            by_cases ht : t = s
            · rw [if_pos ht, if_pos ht]
            · rw [if_neg ht, if_neg ht]; rfl
          have dma : ∀ t, (wI (wI (wI (wI (wI (wJ (wJ (wJ (wJ (wJ x 105 s (x.1 161 s + (a4 + a5)).toInt64) 106 s (x.1 162 s + a5).toInt64) (60 + 8 * r + 4) s (x.1 153 (5 * r + s) + (a4 + a5)).toInt64) (60 + 8 * r + 5) s (x.1 154 (5 * r + s) + a5).toInt64) 187 0 (x.1 153 (5 * r + s) + (a4 + a5)).toInt64) 138 57 0) 161 s (x.1 161 s + (a4 + a5))) 162 s (x.1 162 s + a5)) 153 (5 * r + s) (x.1 153 (5 * r + s) + (a4 + a5))) 154 (5 * r + s) (x.1 154 (5 * r + s) + a5)).1 153 t = if t = 5 * r + s then (x.1 153 (5 * r + s) + (a4 + a5)) else x.1 153 t := by
            intro t
            rw [wI_ne (by decide), wI_at, wI_ne (by decide), wI_ne (by decide), wI_ne (by decide)]
            rfl
          have dmb : ∀ t, (wI (wI (wI (wI (wI (wJ (wJ (wJ (wJ (wJ x 105 s (x.1 161 s + (a4 + a5)).toInt64) 106 s (x.1 162 s + a5).toInt64) (60 + 8 * r + 4) s (x.1 153 (5 * r + s) + (a4 + a5)).toInt64) (60 + 8 * r + 5) s (x.1 154 (5 * r + s) + a5).toInt64) 187 0 (x.1 153 (5 * r + s) + (a4 + a5)).toInt64) 138 57 0) 161 s (x.1 161 s + (a4 + a5))) 162 s (x.1 162 s + a5)) 153 (5 * r + s) (x.1 153 (5 * r + s) + (a4 + a5))) 154 (5 * r + s) (x.1 154 (5 * r + s) + a5)).1 154 t = if t = 5 * r + s then x.1 154 (5 * r + s) + a5 else x.1 154 t := by
            intro t
            rw [wI_at, wI_ne (by decide), wI_ne (by decide), wI_ne (by decide), wI_ne (by decide)]
            rfl
          have dJ : ∀ a, ¬ a = 187 → ¬ a = 105 → ¬ a = 106 → (wI (wI (wI (wI (wI (wJ (wJ (wJ (wJ (wJ x 105 s (x.1 161 s + (a4 + a5)).toInt64) 106 s (x.1 162 s + a5).toInt64) (60 + 8 * r + 4) s (x.1 153 (5 * r + s) + (a4 + a5)).toInt64) (60 + 8 * r + 5) s (x.1 154 (5 * r + s) + a5).toInt64) 187 0 (x.1 153 (5 * r + s) + (a4 + a5)).toInt64) 138 57 0) 161 s (x.1 161 s + (a4 + a5))) 162 s (x.1 162 s + a5)) 153 (5 * r + s) (x.1 153 (5 * r + s) + (a4 + a5))) 154 (5 * r + s) (x.1 154 (5 * r + s) + a5)).2.1 a = (wJ (wJ (wJ (wJ x 105 s (x.1 161 s + (a4 + a5)).toInt64) 106 s (x.1 162 s + a5).toInt64) (60 + 8 * r + 4) s (x.1 153 (5 * r + s) + (a4 + a5)).toInt64) (60 + 8 * r + 5) s (x.1 154 (5 * r + s) + a5).toInt64).2.1 a := fun a m1 m2 m3 => by
            show (wJ (wJ (wJ (wJ (wJ x 105 s (x.1 161 s + (a4 + a5)).toInt64) 106 s (x.1 162 s + a5).toInt64) (60 + 8 * r + 4) s (x.1 153 (5 * r + s) + (a4 + a5)).toInt64) (60 + 8 * r + 5) s (x.1 154 (5 * r + s) + a5).toInt64) 187 0 (x.1 153 (5 * r + s) + (a4 + a5)).toInt64).2.1 a = _
            rw [wJ_ne m1]
          have d105 : ∀ t, (wI (wI (wI (wI (wI (wJ (wJ (wJ (wJ (wJ x 105 s (x.1 161 s + (a4 + a5)).toInt64) 106 s (x.1 162 s + a5).toInt64) (60 + 8 * r + 4) s (x.1 153 (5 * r + s) + (a4 + a5)).toInt64) (60 + 8 * r + 5) s (x.1 154 (5 * r + s) + a5).toInt64) 187 0 (x.1 153 (5 * r + s) + (a4 + a5)).toInt64) 138 57 0) 161 s (x.1 161 s + (a4 + a5))) 162 s (x.1 162 s + a5)) 153 (5 * r + s) (x.1 153 (5 * r + s) + (a4 + a5))) 154 (5 * r + s) (x.1 154 (5 * r + s) + a5)).2.1 105 t = if t = s then (x.1 161 s + (a4 + a5)).toInt64 else x.2.1 105 t := by
            intro t
            show (wJ (wJ (wJ (wJ (wJ x 105 s (x.1 161 s + (a4 + a5)).toInt64) 106 s (x.1 162 s + a5).toInt64) (60 + 8 * r + 4) s (x.1 153 (5 * r + s) + (a4 + a5)).toInt64) (60 + 8 * r + 5) s (x.1 154 (5 * r + s) + a5).toInt64) 187 0 (x.1 153 (5 * r + s) + (a4 + a5)).toInt64).2.1 105 t = _
            rw [wJ_ne (by decide), wJ_ne (by omega), wJ_ne (by omega), wJ_ne (by decide), wJ_at]
          have d106 : ∀ t, (wI (wI (wI (wI (wI (wJ (wJ (wJ (wJ (wJ x 105 s (x.1 161 s + (a4 + a5)).toInt64) 106 s (x.1 162 s + a5).toInt64) (60 + 8 * r + 4) s (x.1 153 (5 * r + s) + (a4 + a5)).toInt64) (60 + 8 * r + 5) s (x.1 154 (5 * r + s) + a5).toInt64) 187 0 (x.1 153 (5 * r + s) + (a4 + a5)).toInt64) 138 57 0) 161 s (x.1 161 s + (a4 + a5))) 162 s (x.1 162 s + a5)) 153 (5 * r + s) (x.1 153 (5 * r + s) + (a4 + a5))) 154 (5 * r + s) (x.1 154 (5 * r + s) + a5)).2.1 106 t = if t = s then (x.1 162 s + a5).toInt64 else x.2.1 106 t := by
            intro t
            show (wJ (wJ (wJ (wJ (wJ x 105 s (x.1 161 s + (a4 + a5)).toInt64) 106 s (x.1 162 s + a5).toInt64) (60 + 8 * r + 4) s (x.1 153 (5 * r + s) + (a4 + a5)).toInt64) (60 + 8 * r + 5) s (x.1 154 (5 * r + s) + a5).toInt64) 187 0 (x.1 153 (5 * r + s) + (a4 + a5)).toInt64).2.1 106 t = _
            rw [wJ_ne (by decide), wJ_ne (by omega), wJ_ne (by omega), wJ_at, wJ_ne (by decide)]
          have dr : ∀ r2, r2 < 4 → ∀ k, k < 8 → ∀ t, ¬ (r2 = r ∧ t = s) ∨ (¬ k = 4 ∧ ¬ k = 5) → (wI (wI (wI (wI (wI (wJ (wJ (wJ (wJ (wJ x 105 s (x.1 161 s + (a4 + a5)).toInt64) 106 s (x.1 162 s + a5).toInt64) (60 + 8 * r + 4) s (x.1 153 (5 * r + s) + (a4 + a5)).toInt64) (60 + 8 * r + 5) s (x.1 154 (5 * r + s) + a5).toInt64) 187 0 (x.1 153 (5 * r + s) + (a4 + a5)).toInt64) 138 57 0) 161 s (x.1 161 s + (a4 + a5))) 162 s (x.1 162 s + a5)) 153 (5 * r + s) (x.1 153 (5 * r + s) + (a4 + a5))) 154 (5 * r + s) (x.1 154 (5 * r + s) + a5)).2.1 (60 + 8 * r2 + k) t = x.2.1 (60 + 8 * r2 + k) t := by
            intro r2 hr2 k hk t ht
            rw [dJ _ (by omega) (by omega) (by omega)]
            by_cases h7 : 60 + 8 * r2 + k = 60 + 8 * r + 5
            · rw [h7, wJ_at, if_neg (by omega), wJ_ne (by omega), wJ_ne (by omega), wJ_ne (by omega)]
            · rw [wJ_ne h7]
              by_cases h6 : 60 + 8 * r2 + k = 60 + 8 * r + 4
              · rw [h6, wJ_at, if_neg (by omega), wJ_ne (by omega), wJ_ne (by omega)]
              · rw [wJ_ne h6, wJ_ne (by omega), wJ_ne (by omega)]
          have d6 : (wI (wI (wI (wI (wI (wJ (wJ (wJ (wJ (wJ x 105 s (x.1 161 s + (a4 + a5)).toInt64) 106 s (x.1 162 s + a5).toInt64) (60 + 8 * r + 4) s (x.1 153 (5 * r + s) + (a4 + a5)).toInt64) (60 + 8 * r + 5) s (x.1 154 (5 * r + s) + a5).toInt64) 187 0 (x.1 153 (5 * r + s) + (a4 + a5)).toInt64) 138 57 0) 161 s (x.1 161 s + (a4 + a5))) 162 s (x.1 162 s + a5)) 153 (5 * r + s) (x.1 153 (5 * r + s) + (a4 + a5))) 154 (5 * r + s) (x.1 154 (5 * r + s) + a5)).2.1 (60 + 8 * r + 4) s = (x.1 153 (5 * r + s) + (a4 + a5)).toInt64 := by
            rw [dJ _ (by omega) (by omega) (by omega)]
            exact g8
          have d7 : (wI (wI (wI (wI (wI (wJ (wJ (wJ (wJ (wJ x 105 s (x.1 161 s + (a4 + a5)).toInt64) 106 s (x.1 162 s + a5).toInt64) (60 + 8 * r + 4) s (x.1 153 (5 * r + s) + (a4 + a5)).toInt64) (60 + 8 * r + 5) s (x.1 154 (5 * r + s) + a5).toInt64) 187 0 (x.1 153 (5 * r + s) + (a4 + a5)).toInt64) 138 57 0) 161 s (x.1 161 s + (a4 + a5))) 162 s (x.1 162 s + a5)) 153 (5 * r + s) (x.1 153 (5 * r + s) + (a4 + a5))) 154 (5 * r + s) (x.1 154 (5 * r + s) + a5)).2.1 (60 + 8 * r + 5) s = (x.1 154 (5 * r + s) + a5).toInt64 := by
            rw [dJ _ (by omega) (by omega) (by omega), wJ_at, if_pos rfl]
          obtain ⟨z, e5, e2'⟩ := e.split
          have e2' := e2'.one
          refine ⟨S, B, Z, F, U, P, I, now, (hN.fr e5 (by decide)).fr e2' (by decide), (hC.fr e5 (by decide)).fr e2' (by decide), ?_, (hZ.fr e5 (by decide)).fr e2' (by decide), ?_, (hF.fr e5 (by decide)).fr e2' (by decide), (hD.fr e5 (by decide)).fr e2' (by decide), (hP.f0 e5 (by decide)).fr e2' (by decide)⟩
          · rw [cI 140 (by decide) (by decide) (by decide) (by decide) (by decide) (by decide)]
            generalize wI (wI (wI (wI (wI (wJ (wJ (wJ (wJ (wJ x 105 s (x.1 161 s + (a4 + a5)).toInt64) 106 s (x.1 162 s + a5).toInt64) (60 + 8 * r + 4) s (x.1 153 (5 * r + s) + (a4 + a5)).toInt64) (60 + 8 * r + 5) s (x.1 154 (5 * r + s) + a5).toInt64) 187 0 (x.1 153 (5 * r + s) + (a4 + a5)).toInt64) 138 57 0) 161 s (x.1 161 s + (a4 + a5))) 162 s (x.1 162 s + a5)) 153 (5 * r + s) (x.1 153 (5 * r + s) + (a4 + a5))) 154 (5 * r + s) (x.1 154 (5 * r + s) + a5) = y at cI dma dmb dr d6 d7
            refine ⟨fun r2 hr2 s2 hs2 => ?_, fun s2 hs2 => ?_⟩
            · obtain ⟨a1, a2, a3, b1, b2, b3, b4⟩ := r1 r2 hr2 s2 hs2
              rw [cI (60 + 8 * r2 + 1) (by omega) (by omega) (by omega) (by omega) (by omega) (by omega), cI (60 + 8 * r2 + 2) (by omega) (by omega) (by omega) (by omega) (by omega) (by omega), cI (60 + 8 * r2 + 3) (by omega) (by omega) (by omega) (by omega) (by omega) (by omega), cI 147 (by decide) (by decide) (by decide) (by decide) (by decide) (by decide), cI 148 (by decide) (by decide) (by decide) (by decide) (by decide) (by decide), cI 149 (by decide) (by decide) (by decide) (by decide) (by decide) (by decide), cI 151 (by decide) (by decide) (by decide) (by decide) (by decide) (by decide), cI 152 (by decide) (by decide) (by decide) (by decide) (by decide) (by decide), dma, dmb]
              by_cases hh : r2 = r ∧ s2 = s
              · obtain ⟨hr', hs'⟩ := hh
                subst hr' hs'
                rw [d6, d7, dr r2 hr2 6 (by decide) s2 (Or.inr (by decide)), dr r2 hr2 7 (by decide) s2 (Or.inr (by decide)), if_pos rfl, if_pos rfl]
                exact ⟨a1, ⟨rfl, rfl, a2.2.2.1, a2.2.2.2⟩, a3, b1.up (by omega), b2.up (by omega), b3.add (m := 2000) (by omega) (by omega) (by omega) (by omega), b4.add (m := 1000) (by omega) (by omega) (by omega) (by omega)⟩
              · rw [dr r2 hr2 4 (by decide) s2 (Or.inl hh), dr r2 hr2 5 (by decide) s2 (Or.inl hh), dr r2 hr2 6 (by decide) s2 (Or.inl hh), dr r2 hr2 7 (by decide) s2 (Or.inl hh), if_neg (by omega), if_neg (by omega)]
                exact ⟨a1, a2, a3, b1.up (by omega), b2.up (by omega), b3.up (by omega), b4.up (by omega)⟩
            · rw [cI (93 + s2) (by omega) (by omega) (by omega) (by omega) (by omega) (by omega), cI 148 (by decide) (by decide) (by decide) (by decide) (by decide) (by decide), cI 150 (by decide) (by decide) (by decide) (by decide) (by decide) (by decide), cI 155 (by decide) (by decide) (by decide) (by decide) (by decide) (by decide), cI 156 (by decide) (by decide) (by decide) (by decide) (by decide) (by decide), cI 157 (by decide) (by decide) (by decide) (by decide) (by decide) (by decide)]
              exact r2 s2 hs2
          · generalize wI (wI (wI (wI (wI (wJ (wJ (wJ (wJ (wJ x 105 s (x.1 161 s + (a4 + a5)).toInt64) 106 s (x.1 162 s + a5).toInt64) (60 + 8 * r + 4) s (x.1 153 (5 * r + s) + (a4 + a5)).toInt64) (60 + 8 * r + 5) s (x.1 154 (5 * r + s) + a5).toInt64) 187 0 (x.1 153 (5 * r + s) + (a4 + a5)).toInt64) 138 57 0) 161 s (x.1 161 s + (a4 + a5))) 162 s (x.1 162 s + a5)) 153 (5 * r + s) (x.1 153 (5 * r + s) + (a4 + a5))) 154 (5 * r + s) (x.1 154 (5 * r + s) + a5) = y at cI d160 d161 d162 d105 d106
            refine ⟨?_, fun t ht => ?_⟩
            · rw [cI 104 (by decide) (by decide) (by decide) (by decide) (by decide) (by decide), cI 159 (by decide) (by decide) (by decide) (by decide) (by decide) (by decide)]; exact w104
            · rw [cI 159 (by decide) (by decide) (by decide) (by decide) (by decide) (by decide), d160, d161, d162, d105, d106]
              obtain ⟨x1, x2, x3, x4, x5, x6⟩ := hb t ht
              by_cases hts : t = s
              · subst hts
                have hs1 : ∀ (a b : Int32), (if t = t then a else b) = a := fun a b => if_pos rfl
                have hs2 : ∀ (a b : Int64), (if t = t then a else b) = a := fun a b => if_pos rfl
                rw [hs1, hs1, hs1, hs2, hs2]
                refine ⟨x1, ?_, ?_, ?_, fun _ => ⟨rfl, rfl⟩, fun w => absurd rfl w⟩
                · unfold nB; rw [zI_int (by omega)]; omega
                · exact nB.add (v := x.1 161 t) (n := 2000 * c) x3 (m := 2000) (by omega) (by omega) (by omega) (by omega)
                · exact nB.add (v := x.1 162 t) (n := 1000 * c) x4 (m := 1000) (by omega) (by omega) (by omega) (by omega)
              · have hs1 : ∀ (a b : Int32), (if t = s then a else b) = b := fun a b => if_neg hts
                have hs2 : ∀ (a b : Int64), (if t = s then a else b) = b := fun a b => if_neg hts
                rw [hs1, hs1, hs1, hs2, hs2]
                exact ⟨x1, x2, x3.up (by omega), x4.up (by omega), x5, x6⟩
      · obtain ⟨l105, l106⟩ := x6 q
        have g105 : x.2.1 105 s + (a4 + a5).toInt64 = (0 + (a4 + a5)).toInt64 := by
          rw [l105, t64_add (a := 0) (b := a4 + a5) (by rw [show (0 : Int32).toInt = 0 from rfl]; omega) (by rw [show (0 : Int32).toInt = 0 from rfl]; omega)]
          rfl
        have g106 : (wJ x 105 s (0 + (a4 + a5)).toInt64).2.1 106 s + a5.toInt64 = (0 + a5).toInt64 := by
          rw [wJ_ne (by decide), l106, t64_add (a := 0) (b := a5) (by rw [show (0 : Int32).toInt = 0 from rfl]; omega) (by rw [show (0 : Int32).toInt = 0 from rfl]; omega)]
          rfl
        have g6 : (wJ (wJ x 105 s (0 + (a4 + a5)).toInt64) 106 s (0 + a5).toInt64).2.1 (60 + 8 * r + 4) s + (a4 + a5).toInt64 = (x.1 153 (5 * r + s) + (a4 + a5)).toInt64 := by
          rw [wJ_ne (by omega), wJ_ne (by omega), l4, t64_add (a := x.1 153 (5 * r + s)) (b := a4 + a5) (by omega) (by omega)]
        have g7 : (wJ (wJ (wJ x 105 s (0 + (a4 + a5)).toInt64) 106 s (0 + a5).toInt64) (60 + 8 * r + 4) s (x.1 153 (5 * r + s) + (a4 + a5)).toInt64).2.1 (60 + 8 * r + 5) s + a5.toInt64 = (x.1 154 (5 * r + s) + a5).toInt64 := by
          rw [wJ_ne (by omega), wJ_ne (by omega), wJ_ne (by omega), l5, t64_add (a := x.1 154 (5 * r + s)) (b := a5) (by omega) (by omega)]
        have g8 : (wJ (wJ (wJ (wJ x 105 s (0 + (a4 + a5)).toInt64) 106 s (0 + a5).toInt64) (60 + 8 * r + 4) s (x.1 153 (5 * r + s) + (a4 + a5)).toInt64) (60 + 8 * r + 5) s (x.1 154 (5 * r + s) + a5).toInt64).2.1 (60 + 8 * r + 4) s = (x.1 153 (5 * r + s) + (a4 + a5)).toInt64 := by
          rw [wJ_ne (by omega), wJ_at, if_pos rfl]
        have hA : gm192 a1 a2 a3 a4 a5 x = some ((0 : Int32), wJ (wJ (wJ (wJ (wJ x 105 s (0 + (a4 + a5)).toInt64) 106 s (0 + a5).toInt64) (60 + 8 * r + 4) s (x.1 153 (5 * r + s) + (a4 + a5)).toInt64) (60 + 8 * r + 5) s (x.1 154 (5 * r + s) + a5).toInt64) 187 0 (x.1 153 (5 * r + s) + (a4 + a5)).toInt64) := by
          simp only [gm192, gm69_80, gm69_71, gm69_39, gm69_38, gm69, gm2, gm52, gm53, F1, F2, u4, q4, u5, q5, p1, xs, xr, i4, i5, if_pos g0, q147, if_neg g1, g105, g106, g6, g7, g8, Int32.toInt32_toInt64, n10, n20, n21, Option.bind_some, b2i_t, b2i_f, i10, ↓reduceIte, cond_true, cond_false, kb0, kb1, kb2, s92_1, s92_0, s93_1, s93_0, s113_0, s113_1, s113_2, s113_3, aBit_b, aI01, xi0, xi1]
        have hM : gm142 a1 a2 a3 a4 a5 (wJ (wJ (wJ (wJ (wJ x 105 s (0 + (a4 + a5)).toInt64) 106 s (0 + a5).toInt64) (60 + 8 * r + 4) s (x.1 153 (5 * r + s) + (a4 + a5)).toInt64) (60 + 8 * r + 5) s (x.1 154 (5 * r + s) + a5).toInt64) 187 0 (x.1 153 (5 * r + s) + (a4 + a5)).toInt64) = some ((x.1 153 (5 * r + s) + (a4 + a5)), wI (wI (wI (wI (wI (wI (wI (wI (wJ (wJ (wJ (wJ (wJ x 105 s (0 + (a4 + a5)).toInt64) 106 s (0 + a5).toInt64) (60 + 8 * r + 4) s (x.1 153 (5 * r + s) + (a4 + a5)).toInt64) (60 + 8 * r + 5) s (x.1 154 (5 * r + s) + a5).toInt64) 187 0 (x.1 153 (5 * r + s) + (a4 + a5)).toInt64) 138 57 0) 160 s (zI (now / 60))) 161 s 0) 162 s 0) 161 s (0 + (a4 + a5))) 162 s (0 + a5)) 153 (5 * r + s) (x.1 153 (5 * r + s) + (a4 + a5))) 154 (5 * r + s) (x.1 154 (5 * r + s) + a5)) := by
          have c0 : (wJ (wJ (wJ (wJ (wJ x 105 s (0 + (a4 + a5)).toInt64) 106 s (0 + a5).toInt64) (60 + 8 * r + 4) s (x.1 153 (5 * r + s) + (a4 + a5)).toInt64) (60 + 8 * r + 5) s (x.1 154 (5 * r + s) + a5).toInt64) 187 0 (x.1 153 (5 * r + s) + (a4 + a5)).toInt64).1 = x.1 := rfl
          generalize wJ (wJ (wJ (wJ (wJ x 105 s (0 + (a4 + a5)).toInt64) 106 s (0 + a5).toInt64) (60 + 8 * r + 4) s (x.1 153 (5 * r + s) + (a4 + a5)).toInt64) (60 + 8 * r + 5) s (x.1 154 (5 * r + s) + a5).toInt64) 187 0 (x.1 153 (5 * r + s) + (a4 + a5)).toInt64 = y at c0
          have T0 := s117 (x := y) (S := S) a1 (by rw [c0]; exact e2) k1
          rw [p1] at T0
          have st : gm142 a1 a2 a3 a4 a5 y = gm142_118 a1 a3 a4 a5 (zI (5 * r + s)) 0 y := by
            simp only [gm142_109, gm142_67, gm142_51, gm142_50, gm142_20, gm142_19, gm142, T0, t2, p2, t4, q4, t5, q5, ix, i20, xk, c0, if_pos g0, if_neg g1, n10, n20, n21, Option.bind_some, b2i_t, b2i_f, i10, ↓reduceIte, cond_true, cond_false, kb0, kb1, kb2, s92_1, s92_0, s93_1, s93_0, s113_0, s113_1, s113_2, s113_3, aBit_b, aI01, xi0, xi1]
          rw [st]
          unfold gm142_118
          rw [s113_0, Option.bind_some]
          have zz : ∀ a, 139 ≤ a → (wI y 138 57 0).1 a = x.1 a := fun a ha => by rw [wI_ne (by omega), c0]
          have z0 : (wI y 138 57 0).1 138 0 = zI now := by rw [wI_nj (by decide), c0]; exact n3
          generalize wI y 138 57 0 = z at zz z0
          have z160 := zz 160 (by decide)
          have z161 := zz 161 (by decide)
          have z162 := zz 162 (by decide)
          have z151 := zz 151 (by decide)
          have z152 := zz 152 (by decide)
          have z153 := zz 153 (by decide)
          have z154 := zz 154 (by decide)
          simp only [gm137, gm142_161, ↓reduceIte, i10, Option.bind_some, cond_true, xs, i5', z160, z0, dv, if_neg q, i20, xk, if_pos g0, wI_ne, not_false_eq_true, Nat.reduceEqDiff, wI_j, z161, z162, z151, z152, z153, z154]
        have e : SBl [5, 2] x (wI (wI (wI (wI (wI (wI (wI (wI (wJ (wJ (wJ (wJ (wJ x 105 s (0 + (a4 + a5)).toInt64) 106 s (0 + a5).toInt64) (60 + 8 * r + 4) s (x.1 153 (5 * r + s) + (a4 + a5)).toInt64) (60 + 8 * r + 5) s (x.1 154 (5 * r + s) + a5).toInt64) 187 0 (x.1 153 (5 * r + s) + (a4 + a5)).toInt64) 138 57 0) 160 s (zI (now / 60))) 161 s 0) 162 s 0) 161 s (0 + (a4 + a5))) 162 s (0 + a5)) 153 (5 * r + s) (x.1 153 (5 * r + s) + (a4 + a5))) 154 (5 * r + s) (x.1 154 (5 * r + s) + a5)) := by
          refine SBl.I ?_ (by decide) (Or.inl (by decide))
          refine SBl.I ?_ (by decide) (Or.inl (by decide))
          refine SBl.I ?_ (by decide) (Or.inl (by decide))
          refine SBl.I ?_ (by decide) (Or.inl (by decide))
          refine SBl.I ?_ (by decide) (Or.inl (by decide))
          refine SBl.I ?_ (by decide) (Or.inl (by decide))
          refine SBl.I ?_ (by decide) (Or.inl (by decide))
          refine SBl.M ?_ (Or.inr rfl)
          refine SBl.J ?_ (Or.inr rfl)
          refine SBl.J ?_ (Or.inl (ow 5 (by decide)))
          refine SBl.J ?_ (Or.inl (ow 4 (by decide)))
          refine SBl.J ?_ (Or.inl (by decide))
          refine SBl.J ?_ (Or.inl (by decide))
          exact SBl.rf _ _
        refine ⟨0, _, _, _, hA, hM, ?_, fun _ => rfl, rfl, e.c 0 (by decide) (by decide) (by decide), ?_⟩
        · rw [wI_ne (by decide), wI_ne (by decide), wI_ne (by decide), wI_ne (by decide), wI_ne (by decide), wI_ne (by decide), wI_ne (by decide), wI_j]
        ·
          have cI : ∀ a, ¬ a = 138 → ¬ a = 160 → ¬ a = 161 → ¬ a = 162 → ¬ a = 153 → ¬ a = 154 → (wI (wI (wI (wI (wI (wI (wI (wI (wJ (wJ (wJ (wJ (wJ x 105 s (0 + (a4 + a5)).toInt64) 106 s (0 + a5).toInt64) (60 + 8 * r + 4) s (x.1 153 (5 * r + s) + (a4 + a5)).toInt64) (60 + 8 * r + 5) s (x.1 154 (5 * r + s) + a5).toInt64) 187 0 (x.1 153 (5 * r + s) + (a4 + a5)).toInt64) 138 57 0) 160 s (zI (now / 60))) 161 s 0) 162 s 0) 161 s (0 + (a4 + a5))) 162 s (0 + a5)) 153 (5 * r + s) (x.1 153 (5 * r + s) + (a4 + a5))) 154 (5 * r + s) (x.1 154 (5 * r + s) + a5)).1 a = x.1 a := by
            intro a m1 m2 m3 m4 m5 m6
            rw [wI_ne m6, wI_ne m5, wI_ne m4, wI_ne m3, wI_ne m4, wI_ne m3, wI_ne m2, wI_ne m1]
            rfl
          have d160 : ∀ t, (wI (wI (wI (wI (wI (wI (wI (wI (wJ (wJ (wJ (wJ (wJ x 105 s (0 + (a4 + a5)).toInt64) 106 s (0 + a5).toInt64) (60 + 8 * r + 4) s (x.1 153 (5 * r + s) + (a4 + a5)).toInt64) (60 + 8 * r + 5) s (x.1 154 (5 * r + s) + a5).toInt64) 187 0 (x.1 153 (5 * r + s) + (a4 + a5)).toInt64) 138 57 0) 160 s (zI (now / 60))) 161 s 0) 162 s 0) 161 s (0 + (a4 + a5))) 162 s (0 + a5)) 153 (5 * r + s) (x.1 153 (5 * r + s) + (a4 + a5))) 154 (5 * r + s) (x.1 154 (5 * r + s) + a5)).1 160 t = if t = s then zI (now / 60) else x.1 160 t := by
            intro t
            rw [wI_ne (by decide), wI_ne (by decide), wI_ne (by decide), wI_ne (by decide), wI_ne (by decide), wI_ne (by decide), wI_at, wI_ne (by decide)]
            rfl
          have d161 : ∀ t, (wI (wI (wI (wI (wI (wI (wI (wI (wJ (wJ (wJ (wJ (wJ x 105 s (0 + (a4 + a5)).toInt64) 106 s (0 + a5).toInt64) (60 + 8 * r + 4) s (x.1 153 (5 * r + s) + (a4 + a5)).toInt64) (60 + 8 * r + 5) s (x.1 154 (5 * r + s) + a5).toInt64) 187 0 (x.1 153 (5 * r + s) + (a4 + a5)).toInt64) 138 57 0) 160 s (zI (now / 60))) 161 s 0) 162 s 0) 161 s (0 + (a4 + a5))) 162 s (0 + a5)) 153 (5 * r + s) (x.1 153 (5 * r + s) + (a4 + a5))) 154 (5 * r + s) (x.1 154 (5 * r + s) + a5)).1 161 t = if t = s then 0 + (a4 + a5) else x.1 161 t := by
            intro t
            rw [wI_ne (by decide), wI_ne (by decide), wI_ne (by decide), wI_at, wI_ne (by decide), wI_at, wI_ne (by decide), wI_ne (by decide)]
            by_cases ht : t = s
            · rw [if_pos ht, if_pos ht]
            · rw [if_neg ht, if_neg ht, if_neg ht]; rfl
          have d162 : ∀ t, (wI (wI (wI (wI (wI (wI (wI (wI (wJ (wJ (wJ (wJ (wJ x 105 s (0 + (a4 + a5)).toInt64) 106 s (0 + a5).toInt64) (60 + 8 * r + 4) s (x.1 153 (5 * r + s) + (a4 + a5)).toInt64) (60 + 8 * r + 5) s (x.1 154 (5 * r + s) + a5).toInt64) 187 0 (x.1 153 (5 * r + s) + (a4 + a5)).toInt64) 138 57 0) 160 s (zI (now / 60))) 161 s 0) 162 s 0) 161 s (0 + (a4 + a5))) 162 s (0 + a5)) 153 (5 * r + s) (x.1 153 (5 * r + s) + (a4 + a5))) 154 (5 * r + s) (x.1 154 (5 * r + s) + a5)).1 162 t = if t = s then 0 + a5 else x.1 162 t := by
            intro t
            rw [wI_ne (by decide), wI_ne (by decide), wI_at, wI_ne (by decide), wI_at, wI_ne (by decide), wI_ne (by decide), wI_ne (by decide)]
            by_cases ht : t = s
            · rw [if_pos ht, if_pos ht]
            · rw [if_neg ht, if_neg ht, if_neg ht]; rfl
          have dma : ∀ t, (wI (wI (wI (wI (wI (wI (wI (wI (wJ (wJ (wJ (wJ (wJ x 105 s (0 + (a4 + a5)).toInt64) 106 s (0 + a5).toInt64) (60 + 8 * r + 4) s (x.1 153 (5 * r + s) + (a4 + a5)).toInt64) (60 + 8 * r + 5) s (x.1 154 (5 * r + s) + a5).toInt64) 187 0 (x.1 153 (5 * r + s) + (a4 + a5)).toInt64) 138 57 0) 160 s (zI (now / 60))) 161 s 0) 162 s 0) 161 s (0 + (a4 + a5))) 162 s (0 + a5)) 153 (5 * r + s) (x.1 153 (5 * r + s) + (a4 + a5))) 154 (5 * r + s) (x.1 154 (5 * r + s) + a5)).1 153 t = if t = 5 * r + s then (x.1 153 (5 * r + s) + (a4 + a5)) else x.1 153 t := by
            intro t
            rw [wI_ne (by decide), wI_at, wI_ne (by decide), wI_ne (by decide), wI_ne (by decide), wI_ne (by decide), wI_ne (by decide), wI_ne (by decide)]
            rfl
          have dmb : ∀ t, (wI (wI (wI (wI (wI (wI (wI (wI (wJ (wJ (wJ (wJ (wJ x 105 s (0 + (a4 + a5)).toInt64) 106 s (0 + a5).toInt64) (60 + 8 * r + 4) s (x.1 153 (5 * r + s) + (a4 + a5)).toInt64) (60 + 8 * r + 5) s (x.1 154 (5 * r + s) + a5).toInt64) 187 0 (x.1 153 (5 * r + s) + (a4 + a5)).toInt64) 138 57 0) 160 s (zI (now / 60))) 161 s 0) 162 s 0) 161 s (0 + (a4 + a5))) 162 s (0 + a5)) 153 (5 * r + s) (x.1 153 (5 * r + s) + (a4 + a5))) 154 (5 * r + s) (x.1 154 (5 * r + s) + a5)).1 154 t = if t = 5 * r + s then x.1 154 (5 * r + s) + a5 else x.1 154 t := by
            intro t
            rw [wI_at, wI_ne (by decide), wI_ne (by decide), wI_ne (by decide), wI_ne (by decide), wI_ne (by decide), wI_ne (by decide), wI_ne (by decide)]
            rfl
          have dJ : ∀ a, ¬ a = 187 → ¬ a = 105 → ¬ a = 106 → (wI (wI (wI (wI (wI (wI (wI (wI (wJ (wJ (wJ (wJ (wJ x 105 s (0 + (a4 + a5)).toInt64) 106 s (0 + a5).toInt64) (60 + 8 * r + 4) s (x.1 153 (5 * r + s) + (a4 + a5)).toInt64) (60 + 8 * r + 5) s (x.1 154 (5 * r + s) + a5).toInt64) 187 0 (x.1 153 (5 * r + s) + (a4 + a5)).toInt64) 138 57 0) 160 s (zI (now / 60))) 161 s 0) 162 s 0) 161 s (0 + (a4 + a5))) 162 s (0 + a5)) 153 (5 * r + s) (x.1 153 (5 * r + s) + (a4 + a5))) 154 (5 * r + s) (x.1 154 (5 * r + s) + a5)).2.1 a = (wJ (wJ (wJ (wJ x 105 s (0 + (a4 + a5)).toInt64) 106 s (0 + a5).toInt64) (60 + 8 * r + 4) s (x.1 153 (5 * r + s) + (a4 + a5)).toInt64) (60 + 8 * r + 5) s (x.1 154 (5 * r + s) + a5).toInt64).2.1 a := fun a m1 m2 m3 => by
            show (wJ (wJ (wJ (wJ (wJ x 105 s (0 + (a4 + a5)).toInt64) 106 s (0 + a5).toInt64) (60 + 8 * r + 4) s (x.1 153 (5 * r + s) + (a4 + a5)).toInt64) (60 + 8 * r + 5) s (x.1 154 (5 * r + s) + a5).toInt64) 187 0 (x.1 153 (5 * r + s) + (a4 + a5)).toInt64).2.1 a = _
            rw [wJ_ne m1]
          have d105 : ∀ t, (wI (wI (wI (wI (wI (wI (wI (wI (wJ (wJ (wJ (wJ (wJ x 105 s (0 + (a4 + a5)).toInt64) 106 s (0 + a5).toInt64) (60 + 8 * r + 4) s (x.1 153 (5 * r + s) + (a4 + a5)).toInt64) (60 + 8 * r + 5) s (x.1 154 (5 * r + s) + a5).toInt64) 187 0 (x.1 153 (5 * r + s) + (a4 + a5)).toInt64) 138 57 0) 160 s (zI (now / 60))) 161 s 0) 162 s 0) 161 s (0 + (a4 + a5))) 162 s (0 + a5)) 153 (5 * r + s) (x.1 153 (5 * r + s) + (a4 + a5))) 154 (5 * r + s) (x.1 154 (5 * r + s) + a5)).2.1 105 t = if t = s then (0 + (a4 + a5)).toInt64 else x.2.1 105 t := by
            intro t
            show (wJ (wJ (wJ (wJ (wJ x 105 s (0 + (a4 + a5)).toInt64) 106 s (0 + a5).toInt64) (60 + 8 * r + 4) s (x.1 153 (5 * r + s) + (a4 + a5)).toInt64) (60 + 8 * r + 5) s (x.1 154 (5 * r + s) + a5).toInt64) 187 0 (x.1 153 (5 * r + s) + (a4 + a5)).toInt64).2.1 105 t = _
            rw [wJ_ne (by decide), wJ_ne (by omega), wJ_ne (by omega), wJ_ne (by decide), wJ_at]
          have d106 : ∀ t, (wI (wI (wI (wI (wI (wI (wI (wI (wJ (wJ (wJ (wJ (wJ x 105 s (0 + (a4 + a5)).toInt64) 106 s (0 + a5).toInt64) (60 + 8 * r + 4) s (x.1 153 (5 * r + s) + (a4 + a5)).toInt64) (60 + 8 * r + 5) s (x.1 154 (5 * r + s) + a5).toInt64) 187 0 (x.1 153 (5 * r + s) + (a4 + a5)).toInt64) 138 57 0) 160 s (zI (now / 60))) 161 s 0) 162 s 0) 161 s (0 + (a4 + a5))) 162 s (0 + a5)) 153 (5 * r + s) (x.1 153 (5 * r + s) + (a4 + a5))) 154 (5 * r + s) (x.1 154 (5 * r + s) + a5)).2.1 106 t = if t = s then (0 + a5).toInt64 else x.2.1 106 t := by
            intro t
            show (wJ (wJ (wJ (wJ (wJ x 105 s (0 + (a4 + a5)).toInt64) 106 s (0 + a5).toInt64) (60 + 8 * r + 4) s (x.1 153 (5 * r + s) + (a4 + a5)).toInt64) (60 + 8 * r + 5) s (x.1 154 (5 * r + s) + a5).toInt64) 187 0 (x.1 153 (5 * r + s) + (a4 + a5)).toInt64).2.1 106 t = _
            rw [wJ_ne (by decide), wJ_ne (by omega), wJ_ne (by omega), wJ_at, wJ_ne (by decide)]
          have dr : ∀ r2, r2 < 4 → ∀ k, k < 8 → ∀ t, ¬ (r2 = r ∧ t = s) ∨ (¬ k = 4 ∧ ¬ k = 5) → (wI (wI (wI (wI (wI (wI (wI (wI (wJ (wJ (wJ (wJ (wJ x 105 s (0 + (a4 + a5)).toInt64) 106 s (0 + a5).toInt64) (60 + 8 * r + 4) s (x.1 153 (5 * r + s) + (a4 + a5)).toInt64) (60 + 8 * r + 5) s (x.1 154 (5 * r + s) + a5).toInt64) 187 0 (x.1 153 (5 * r + s) + (a4 + a5)).toInt64) 138 57 0) 160 s (zI (now / 60))) 161 s 0) 162 s 0) 161 s (0 + (a4 + a5))) 162 s (0 + a5)) 153 (5 * r + s) (x.1 153 (5 * r + s) + (a4 + a5))) 154 (5 * r + s) (x.1 154 (5 * r + s) + a5)).2.1 (60 + 8 * r2 + k) t = x.2.1 (60 + 8 * r2 + k) t := by
            intro r2 hr2 k hk t ht
            rw [dJ _ (by omega) (by omega) (by omega)]
            by_cases h7 : 60 + 8 * r2 + k = 60 + 8 * r + 5
            · rw [h7, wJ_at, if_neg (by omega), wJ_ne (by omega), wJ_ne (by omega), wJ_ne (by omega)]
            · rw [wJ_ne h7]
              by_cases h6 : 60 + 8 * r2 + k = 60 + 8 * r + 4
              · rw [h6, wJ_at, if_neg (by omega), wJ_ne (by omega), wJ_ne (by omega)]
              · rw [wJ_ne h6, wJ_ne (by omega), wJ_ne (by omega)]
          have d6 : (wI (wI (wI (wI (wI (wI (wI (wI (wJ (wJ (wJ (wJ (wJ x 105 s (0 + (a4 + a5)).toInt64) 106 s (0 + a5).toInt64) (60 + 8 * r + 4) s (x.1 153 (5 * r + s) + (a4 + a5)).toInt64) (60 + 8 * r + 5) s (x.1 154 (5 * r + s) + a5).toInt64) 187 0 (x.1 153 (5 * r + s) + (a4 + a5)).toInt64) 138 57 0) 160 s (zI (now / 60))) 161 s 0) 162 s 0) 161 s (0 + (a4 + a5))) 162 s (0 + a5)) 153 (5 * r + s) (x.1 153 (5 * r + s) + (a4 + a5))) 154 (5 * r + s) (x.1 154 (5 * r + s) + a5)).2.1 (60 + 8 * r + 4) s = (x.1 153 (5 * r + s) + (a4 + a5)).toInt64 := by
            rw [dJ _ (by omega) (by omega) (by omega)]
            exact g8
          have d7 : (wI (wI (wI (wI (wI (wI (wI (wI (wJ (wJ (wJ (wJ (wJ x 105 s (0 + (a4 + a5)).toInt64) 106 s (0 + a5).toInt64) (60 + 8 * r + 4) s (x.1 153 (5 * r + s) + (a4 + a5)).toInt64) (60 + 8 * r + 5) s (x.1 154 (5 * r + s) + a5).toInt64) 187 0 (x.1 153 (5 * r + s) + (a4 + a5)).toInt64) 138 57 0) 160 s (zI (now / 60))) 161 s 0) 162 s 0) 161 s (0 + (a4 + a5))) 162 s (0 + a5)) 153 (5 * r + s) (x.1 153 (5 * r + s) + (a4 + a5))) 154 (5 * r + s) (x.1 154 (5 * r + s) + a5)).2.1 (60 + 8 * r + 5) s = (x.1 154 (5 * r + s) + a5).toInt64 := by
            rw [dJ _ (by omega) (by omega) (by omega), wJ_at, if_pos rfl]
          obtain ⟨z, e5, e2'⟩ := e.split
          have e2' := e2'.one
          refine ⟨S, B, Z, F, U, P, I, now, (hN.fr e5 (by decide)).fr e2' (by decide), (hC.fr e5 (by decide)).fr e2' (by decide), ?_, (hZ.fr e5 (by decide)).fr e2' (by decide), ?_, (hF.fr e5 (by decide)).fr e2' (by decide), (hD.fr e5 (by decide)).fr e2' (by decide), (hP.f0 e5 (by decide)).fr e2' (by decide)⟩
          · rw [cI 140 (by decide) (by decide) (by decide) (by decide) (by decide) (by decide)]
            generalize wI (wI (wI (wI (wI (wI (wI (wI (wJ (wJ (wJ (wJ (wJ x 105 s (0 + (a4 + a5)).toInt64) 106 s (0 + a5).toInt64) (60 + 8 * r + 4) s (x.1 153 (5 * r + s) + (a4 + a5)).toInt64) (60 + 8 * r + 5) s (x.1 154 (5 * r + s) + a5).toInt64) 187 0 (x.1 153 (5 * r + s) + (a4 + a5)).toInt64) 138 57 0) 160 s (zI (now / 60))) 161 s 0) 162 s 0) 161 s (0 + (a4 + a5))) 162 s (0 + a5)) 153 (5 * r + s) (x.1 153 (5 * r + s) + (a4 + a5))) 154 (5 * r + s) (x.1 154 (5 * r + s) + a5) = y at cI dma dmb dr d6 d7
            refine ⟨fun r2 hr2 s2 hs2 => ?_, fun s2 hs2 => ?_⟩
            · obtain ⟨a1, a2, a3, b1, b2, b3, b4⟩ := r1 r2 hr2 s2 hs2
              rw [cI (60 + 8 * r2 + 1) (by omega) (by omega) (by omega) (by omega) (by omega) (by omega), cI (60 + 8 * r2 + 2) (by omega) (by omega) (by omega) (by omega) (by omega) (by omega), cI (60 + 8 * r2 + 3) (by omega) (by omega) (by omega) (by omega) (by omega) (by omega), cI 147 (by decide) (by decide) (by decide) (by decide) (by decide) (by decide), cI 148 (by decide) (by decide) (by decide) (by decide) (by decide) (by decide), cI 149 (by decide) (by decide) (by decide) (by decide) (by decide) (by decide), cI 151 (by decide) (by decide) (by decide) (by decide) (by decide) (by decide), cI 152 (by decide) (by decide) (by decide) (by decide) (by decide) (by decide), dma, dmb]
              by_cases hh : r2 = r ∧ s2 = s
              · obtain ⟨hr', hs'⟩ := hh
                subst hr' hs'
                rw [d6, d7, dr r2 hr2 6 (by decide) s2 (Or.inr (by decide)), dr r2 hr2 7 (by decide) s2 (Or.inr (by decide)), if_pos rfl, if_pos rfl]
                exact ⟨a1, ⟨rfl, rfl, a2.2.2.1, a2.2.2.2⟩, a3, b1.up (by omega), b2.up (by omega), b3.add (m := 2000) (by omega) (by omega) (by omega) (by omega), b4.add (m := 1000) (by omega) (by omega) (by omega) (by omega)⟩
              · rw [dr r2 hr2 4 (by decide) s2 (Or.inl hh), dr r2 hr2 5 (by decide) s2 (Or.inl hh), dr r2 hr2 6 (by decide) s2 (Or.inl hh), dr r2 hr2 7 (by decide) s2 (Or.inl hh), if_neg (by omega), if_neg (by omega)]
                exact ⟨a1, a2, a3, b1.up (by omega), b2.up (by omega), b3.up (by omega), b4.up (by omega)⟩
            · rw [cI (93 + s2) (by omega) (by omega) (by omega) (by omega) (by omega) (by omega), cI 148 (by decide) (by decide) (by decide) (by decide) (by decide) (by decide), cI 150 (by decide) (by decide) (by decide) (by decide) (by decide) (by decide), cI 155 (by decide) (by decide) (by decide) (by decide) (by decide) (by decide), cI 156 (by decide) (by decide) (by decide) (by decide) (by decide) (by decide), cI 157 (by decide) (by decide) (by decide) (by decide) (by decide) (by decide)]
              exact r2 s2 hs2
          · generalize wI (wI (wI (wI (wI (wI (wI (wI (wJ (wJ (wJ (wJ (wJ x 105 s (0 + (a4 + a5)).toInt64) 106 s (0 + a5).toInt64) (60 + 8 * r + 4) s (x.1 153 (5 * r + s) + (a4 + a5)).toInt64) (60 + 8 * r + 5) s (x.1 154 (5 * r + s) + a5).toInt64) 187 0 (x.1 153 (5 * r + s) + (a4 + a5)).toInt64) 138 57 0) 160 s (zI (now / 60))) 161 s 0) 162 s 0) 161 s (0 + (a4 + a5))) 162 s (0 + a5)) 153 (5 * r + s) (x.1 153 (5 * r + s) + (a4 + a5))) 154 (5 * r + s) (x.1 154 (5 * r + s) + a5) = y at cI d160 d161 d162 d105 d106
            refine ⟨?_, fun t ht => ?_⟩
            · rw [cI 104 (by decide) (by decide) (by decide) (by decide) (by decide) (by decide), cI 159 (by decide) (by decide) (by decide) (by decide) (by decide) (by decide)]; exact w104
            · rw [cI 159 (by decide) (by decide) (by decide) (by decide) (by decide) (by decide), d160, d161, d162, d105, d106]
              obtain ⟨x1, x2, x3, x4, x5, x6⟩ := hb t ht
              by_cases hts : t = s
              · subst hts
                have hs1 : ∀ (a b : Int32), (if t = t then a else b) = a := fun a b => if_pos rfl
                have hs2 : ∀ (a b : Int64), (if t = t then a else b) = a := fun a b => if_pos rfl
                rw [hs1, hs1, hs1, hs2, hs2]
                refine ⟨x1, ?_, ?_, ?_, fun _ => ⟨rfl, rfl⟩, fun w => absurd rfl w⟩
                · unfold nB; rw [zI_int (by omega)]; omega
                · exact nB.add (v := 0) (n := 0) ⟨by decide, by decide⟩ (m := 2000) (by omega) (by omega) (by omega) (by omega)
                · exact nB.add (v := 0) (n := 0) ⟨by decide, by decide⟩ (m := 1000) (by omega) (by omega) (by omega) (by omega)
              · have hs1 : ∀ (a b : Int32), (if t = s then a else b) = b := fun a b => if_neg hts
                have hs2 : ∀ (a b : Int64), (if t = s then a else b) = b := fun a b => if_neg hts
                rw [hs1, hs1, hs1, hs2, hs2]
                exact ⟨x1, x2, x3.up (by omega), x4.up (by omega), x5, x6⟩
  · by_cases g1 : x.1 148 (5 * r + s) = -1
    · refine OpOK.no h0 (k := 3) (b := 0) (by decide) ?_ ?_
      · simp only [gm192, gm69_80, gm69_71, gm69_39, gm69_38, gm69, F1, F2, T0, t2, p2, t4, u4, q4, t5, u5, q5, xs, xr, i4, i5, ix, i20, xk, if_neg g0, q148, if_pos g1, n10, n20, n21, Option.bind_some, b2i_t, b2i_f, i10, ↓reduceIte, cond_true, cond_false, kb0, kb1, kb2, s92_1, s92_0, s93_1, s93_0, s113_0, s113_1, s113_2, s113_3, aBit_b, aI01, xi0, xi1]
      · simp only [R142_118_1, R142_118_2, R142_118_3, gm142_109, gm142_67, gm142_51, gm142_50, gm142_20, gm142_19, gm142, F1, F2, T0, t2, p2, t4, u4, q4, t5, u5, q5, xs, xr, i4, i5, ix, i20, xk, if_neg g0, q148, if_pos g1, n10, n20, n21, Option.bind_some, b2i_t, b2i_f, i10, ↓reduceIte, cond_true, cond_false, kb0, kb1, kb2, s92_1, s92_0, s93_1, s93_0, s113_0, s113_1, s113_2, s113_3, aBit_b, aI01, xi0, xi1]
    · by_cases q : x.1 160 s = zI (now / 60)
      · obtain ⟨l105, l106⟩ := x5 q
        have g105 : x.2.1 105 s + (a4 + a5).toInt64 = (x.1 161 s + (a4 + a5)).toInt64 := by
          rw [l105, t64_add (a := x.1 161 s) (b := a4 + a5) (by omega) (by omega)]
        have g106 : (wJ x 105 s (x.1 161 s + (a4 + a5)).toInt64).2.1 106 s + a5.toInt64 = (x.1 162 s + a5).toInt64 := by
          rw [wJ_ne (by decide), l106, t64_add (a := x.1 162 s) (b := a5) (by omega) (by omega)]
        have g6 : (wJ (wJ x 105 s (x.1 161 s + (a4 + a5)).toInt64) 106 s (x.1 162 s + a5).toInt64).2.1 (60 + 8 * r + 6) s + (a4 + a5).toInt64 = (x.1 151 (5 * r + s) + (a4 + a5)).toInt64 := by
          rw [wJ_ne (by omega), wJ_ne (by omega), l6, t64_add (a := x.1 151 (5 * r + s)) (b := a4 + a5) (by omega) (by omega)]
        have g7 : (wJ (wJ (wJ x 105 s (x.1 161 s + (a4 + a5)).toInt64) 106 s (x.1 162 s + a5).toInt64) (60 + 8 * r + 6) s (x.1 151 (5 * r + s) + (a4 + a5)).toInt64).2.1 (60 + 8 * r + 7) s + a5.toInt64 = (x.1 152 (5 * r + s) + a5).toInt64 := by
          rw [wJ_ne (by omega), wJ_ne (by omega), wJ_ne (by omega), l7, t64_add (a := x.1 152 (5 * r + s)) (b := a5) (by omega) (by omega)]
        have g8 : (wJ (wJ (wJ (wJ x 105 s (x.1 161 s + (a4 + a5)).toInt64) 106 s (x.1 162 s + a5).toInt64) (60 + 8 * r + 6) s (x.1 151 (5 * r + s) + (a4 + a5)).toInt64) (60 + 8 * r + 7) s (x.1 152 (5 * r + s) + a5).toInt64).2.1 (60 + 8 * r + 6) s = (x.1 151 (5 * r + s) + (a4 + a5)).toInt64 := by
          rw [wJ_ne (by omega), wJ_at, if_pos rfl]
        have hA : gm192 a1 a2 a3 a4 a5 x = some ((0 : Int32), wJ (wJ (wJ (wJ (wJ x 105 s (x.1 161 s + (a4 + a5)).toInt64) 106 s (x.1 162 s + a5).toInt64) (60 + 8 * r + 6) s (x.1 151 (5 * r + s) + (a4 + a5)).toInt64) (60 + 8 * r + 7) s (x.1 152 (5 * r + s) + a5).toInt64) 187 0 (x.1 151 (5 * r + s) + (a4 + a5)).toInt64) := by
          simp only [gm192, gm69_80, gm69_71, gm69_39, gm69_38, gm69, gm2, gm52, gm53, F1, F2, u4, q4, u5, q5, p1, xs, xr, i4, i5, if_neg g0, q148, if_neg g1, g105, g106, g6, g7, g8, Int32.toInt32_toInt64, n10, n20, n21, Option.bind_some, b2i_t, b2i_f, i10, ↓reduceIte, cond_true, cond_false, kb0, kb1, kb2, s92_1, s92_0, s93_1, s93_0, s113_0, s113_1, s113_2, s113_3, aBit_b, aI01, xi0, xi1]
        have hM : gm142 a1 a2 a3 a4 a5 (wJ (wJ (wJ (wJ (wJ x 105 s (x.1 161 s + (a4 + a5)).toInt64) 106 s (x.1 162 s + a5).toInt64) (60 + 8 * r + 6) s (x.1 151 (5 * r + s) + (a4 + a5)).toInt64) (60 + 8 * r + 7) s (x.1 152 (5 * r + s) + a5).toInt64) 187 0 (x.1 151 (5 * r + s) + (a4 + a5)).toInt64) = some ((x.1 151 (5 * r + s) + (a4 + a5)), wI (wI (wI (wI (wI (wJ (wJ (wJ (wJ (wJ x 105 s (x.1 161 s + (a4 + a5)).toInt64) 106 s (x.1 162 s + a5).toInt64) (60 + 8 * r + 6) s (x.1 151 (5 * r + s) + (a4 + a5)).toInt64) (60 + 8 * r + 7) s (x.1 152 (5 * r + s) + a5).toInt64) 187 0 (x.1 151 (5 * r + s) + (a4 + a5)).toInt64) 138 57 0) 161 s (x.1 161 s + (a4 + a5))) 162 s (x.1 162 s + a5)) 151 (5 * r + s) (x.1 151 (5 * r + s) + (a4 + a5))) 152 (5 * r + s) (x.1 152 (5 * r + s) + a5)) := by
          have c0 : (wJ (wJ (wJ (wJ (wJ x 105 s (x.1 161 s + (a4 + a5)).toInt64) 106 s (x.1 162 s + a5).toInt64) (60 + 8 * r + 6) s (x.1 151 (5 * r + s) + (a4 + a5)).toInt64) (60 + 8 * r + 7) s (x.1 152 (5 * r + s) + a5).toInt64) 187 0 (x.1 151 (5 * r + s) + (a4 + a5)).toInt64).1 = x.1 := rfl
          generalize wJ (wJ (wJ (wJ (wJ x 105 s (x.1 161 s + (a4 + a5)).toInt64) 106 s (x.1 162 s + a5).toInt64) (60 + 8 * r + 6) s (x.1 151 (5 * r + s) + (a4 + a5)).toInt64) (60 + 8 * r + 7) s (x.1 152 (5 * r + s) + a5).toInt64) 187 0 (x.1 151 (5 * r + s) + (a4 + a5)).toInt64 = y at c0
          have T0 := s117 (x := y) (S := S) a1 (by rw [c0]; exact e2) k1
          rw [p1] at T0
          have st : gm142 a1 a2 a3 a4 a5 y = gm142_118 a1 a3 a4 a5 (zI (5 * r + s)) 0 y := by
            simp only [gm142_109, gm142_67, gm142_51, gm142_50, gm142_20, gm142_19, gm142, T0, t2, p2, t4, q4, t5, q5, ix, i20, xk, c0, if_neg g0, if_neg g1, n10, n20, n21, Option.bind_some, b2i_t, b2i_f, i10, ↓reduceIte, cond_true, cond_false, kb0, kb1, kb2, s92_1, s92_0, s93_1, s93_0, s113_0, s113_1, s113_2, s113_3, aBit_b, aI01, xi0, xi1]
          rw [st]
          unfold gm142_118
          rw [s113_0, Option.bind_some]
          have zz : ∀ a, 139 ≤ a → (wI y 138 57 0).1 a = x.1 a := fun a ha => by rw [wI_ne (by omega), c0]
          have z0 : (wI y 138 57 0).1 138 0 = zI now := by rw [wI_nj (by decide), c0]; exact n3
          generalize wI y 138 57 0 = z at zz z0
          have z160 := zz 160 (by decide)
          have z161 := zz 161 (by decide)
          have z162 := zz 162 (by decide)
          have z151 := zz 151 (by decide)
          have z152 := zz 152 (by decide)
          have z153 := zz 153 (by decide)
          have z154 := zz 154 (by decide)
          simp only [gm137, gm142_161, ↓reduceIte, i10, Option.bind_some, cond_true, xs, i5', z160, z0, dv, if_pos q, i20, xk, if_neg g0, wI_ne, not_false_eq_true, Nat.reduceEqDiff, wI_j, z161, z162, z151, z152, z153, z154]
        have e : SBl [5, 2] x (wI (wI (wI (wI (wI (wJ (wJ (wJ (wJ (wJ x 105 s (x.1 161 s + (a4 + a5)).toInt64) 106 s (x.1 162 s + a5).toInt64) (60 + 8 * r + 6) s (x.1 151 (5 * r + s) + (a4 + a5)).toInt64) (60 + 8 * r + 7) s (x.1 152 (5 * r + s) + a5).toInt64) 187 0 (x.1 151 (5 * r + s) + (a4 + a5)).toInt64) 138 57 0) 161 s (x.1 161 s + (a4 + a5))) 162 s (x.1 162 s + a5)) 151 (5 * r + s) (x.1 151 (5 * r + s) + (a4 + a5))) 152 (5 * r + s) (x.1 152 (5 * r + s) + a5)) := by
          refine SBl.I ?_ (by decide) (Or.inl (by decide))
          refine SBl.I ?_ (by decide) (Or.inl (by decide))
          refine SBl.I ?_ (by decide) (Or.inl (by decide))
          refine SBl.I ?_ (by decide) (Or.inl (by decide))
          refine SBl.M ?_ (Or.inr rfl)
          refine SBl.J ?_ (Or.inr rfl)
          refine SBl.J ?_ (Or.inl (ow 7 (by decide)))
          refine SBl.J ?_ (Or.inl (ow 6 (by decide)))
          refine SBl.J ?_ (Or.inl (by decide))
          refine SBl.J ?_ (Or.inl (by decide))
          exact SBl.rf _ _
        refine ⟨0, _, _, _, hA, hM, ?_, fun _ => rfl, rfl, e.c 0 (by decide) (by decide) (by decide), ?_⟩
        · rw [wI_ne (by decide), wI_ne (by decide), wI_ne (by decide), wI_ne (by decide), wI_j]
        ·
          have cI : ∀ a, ¬ a = 138 → ¬ a = 160 → ¬ a = 161 → ¬ a = 162 → ¬ a = 151 → ¬ a = 152 → (wI (wI (wI (wI (wI (wJ (wJ (wJ (wJ (wJ x 105 s (x.1 161 s + (a4 + a5)).toInt64) 106 s (x.1 162 s + a5).toInt64) (60 + 8 * r + 6) s (x.1 151 (5 * r + s) + (a4 + a5)).toInt64) (60 + 8 * r + 7) s (x.1 152 (5 * r + s) + a5).toInt64) 187 0 (x.1 151 (5 * r + s) + (a4 + a5)).toInt64) 138 57 0) 161 s (x.1 161 s + (a4 + a5))) 162 s (x.1 162 s + a5)) 151 (5 * r + s) (x.1 151 (5 * r + s) + (a4 + a5))) 152 (5 * r + s) (x.1 152 (5 * r + s) + a5)).1 a = x.1 a := by
            intro a m1 m2 m3 m4 m5 m6
            rw [wI_ne m6, wI_ne m5, wI_ne m4, wI_ne m3, wI_ne m1]
            rfl
          have d160 : ∀ t, (wI (wI (wI (wI (wI (wJ (wJ (wJ (wJ (wJ x 105 s (x.1 161 s + (a4 + a5)).toInt64) 106 s (x.1 162 s + a5).toInt64) (60 + 8 * r + 6) s (x.1 151 (5 * r + s) + (a4 + a5)).toInt64) (60 + 8 * r + 7) s (x.1 152 (5 * r + s) + a5).toInt64) 187 0 (x.1 151 (5 * r + s) + (a4 + a5)).toInt64) 138 57 0) 161 s (x.1 161 s + (a4 + a5))) 162 s (x.1 162 s + a5)) 151 (5 * r + s) (x.1 151 (5 * r + s) + (a4 + a5))) 152 (5 * r + s) (x.1 152 (5 * r + s) + a5)).1 160 t = if t = s then zI (now / 60) else x.1 160 t := by
            intro t
            rw [wI_ne (by decide), wI_ne (by decide), wI_ne (by decide), wI_ne (by decide), wI_ne (by decide)]
            by_cases ht : t = s
            · rw [if_pos ht, ht]; exact q
            · rw [if_neg ht]; rfl
          have d161 : ∀ t, (wI (wI (wI (wI (wI (wJ (wJ (wJ (wJ (wJ x 105 s (x.1 161 s + (a4 + a5)).toInt64) 106 s (x.1 162 s + a5).toInt64) (60 + 8 * r + 6) s (x.1 151 (5 * r + s) + (a4 + a5)).toInt64) (60 + 8 * r + 7) s (x.1 152 (5 * r + s) + a5).toInt64) 187 0 (x.1 151 (5 * r + s) + (a4 + a5)).toInt64) 138 57 0) 161 s (x.1 161 s + (a4 + a5))) 162 s (x.1 162 s + a5)) 151 (5 * r + s) (x.1 151 (5 * r + s) + (a4 + a5))) 152 (5 * r + s) (x.1 152 (5 * r + s) + a5)).1 161 t = if t = s then x.1 161 s + (a4 + a5) else x.1 161 t := by
            intro t
            rw [wI_ne (by decide), wI_ne (by decide), wI_ne (by decide), wI_at, wI_ne (by decide)]
            by_cases ht : t = s
            · rw [if_pos ht, if_pos ht]
            · rw [if_neg ht, if_neg ht]; rfl
          have d162 : ∀ t, (wI (wI (wI (wI (wI (wJ (wJ (wJ (wJ (wJ x 105 s (x.1 161 s + (a4 + a5)).toInt64) 106 s (x.1 162 s + a5).toInt64) (60 + 8 * r + 6) s (x.1 151 (5 * r + s) + (a4 + a5)).toInt64) (60 + 8 * r + 7) s (x.1 152 (5 * r + s) + a5).toInt64) 187 0 (x.1 151 (5 * r + s) + (a4 + a5)).toInt64) 138 57 0) 161 s (x.1 161 s + (a4 + a5))) 162 s (x.1 162 s + a5)) 151 (5 * r + s) (x.1 151 (5 * r + s) + (a4 + a5))) 152 (5 * r + s) (x.1 152 (5 * r + s) + a5)).1 162 t = if t = s then x.1 162 s + a5 else x.1 162 t := by
            intro t
            rw [wI_ne (by decide), wI_ne (by decide), wI_at, wI_ne (by decide), wI_ne (by decide)]
            by_cases ht : t = s
            · rw [if_pos ht, if_pos ht]
            · rw [if_neg ht, if_neg ht]; rfl
          have dma : ∀ t, (wI (wI (wI (wI (wI (wJ (wJ (wJ (wJ (wJ x 105 s (x.1 161 s + (a4 + a5)).toInt64) 106 s (x.1 162 s + a5).toInt64) (60 + 8 * r + 6) s (x.1 151 (5 * r + s) + (a4 + a5)).toInt64) (60 + 8 * r + 7) s (x.1 152 (5 * r + s) + a5).toInt64) 187 0 (x.1 151 (5 * r + s) + (a4 + a5)).toInt64) 138 57 0) 161 s (x.1 161 s + (a4 + a5))) 162 s (x.1 162 s + a5)) 151 (5 * r + s) (x.1 151 (5 * r + s) + (a4 + a5))) 152 (5 * r + s) (x.1 152 (5 * r + s) + a5)).1 151 t = if t = 5 * r + s then (x.1 151 (5 * r + s) + (a4 + a5)) else x.1 151 t := by
            intro t
            rw [wI_ne (by decide), wI_at, wI_ne (by decide), wI_ne (by decide), wI_ne (by decide)]
            rfl
          have dmb : ∀ t, (wI (wI (wI (wI (wI (wJ (wJ (wJ (wJ (wJ x 105 s (x.1 161 s + (a4 + a5)).toInt64) 106 s (x.1 162 s + a5).toInt64) (60 + 8 * r + 6) s (x.1 151 (5 * r + s) + (a4 + a5)).toInt64) (60 + 8 * r + 7) s (x.1 152 (5 * r + s) + a5).toInt64) 187 0 (x.1 151 (5 * r + s) + (a4 + a5)).toInt64) 138 57 0) 161 s (x.1 161 s + (a4 + a5))) 162 s (x.1 162 s + a5)) 151 (5 * r + s) (x.1 151 (5 * r + s) + (a4 + a5))) 152 (5 * r + s) (x.1 152 (5 * r + s) + a5)).1 152 t = if t = 5 * r + s then x.1 152 (5 * r + s) + a5 else x.1 152 t := by
            intro t
            rw [wI_at, wI_ne (by decide), wI_ne (by decide), wI_ne (by decide), wI_ne (by decide)]
            rfl
          have dJ : ∀ a, ¬ a = 187 → ¬ a = 105 → ¬ a = 106 → (wI (wI (wI (wI (wI (wJ (wJ (wJ (wJ (wJ x 105 s (x.1 161 s + (a4 + a5)).toInt64) 106 s (x.1 162 s + a5).toInt64) (60 + 8 * r + 6) s (x.1 151 (5 * r + s) + (a4 + a5)).toInt64) (60 + 8 * r + 7) s (x.1 152 (5 * r + s) + a5).toInt64) 187 0 (x.1 151 (5 * r + s) + (a4 + a5)).toInt64) 138 57 0) 161 s (x.1 161 s + (a4 + a5))) 162 s (x.1 162 s + a5)) 151 (5 * r + s) (x.1 151 (5 * r + s) + (a4 + a5))) 152 (5 * r + s) (x.1 152 (5 * r + s) + a5)).2.1 a = (wJ (wJ (wJ (wJ x 105 s (x.1 161 s + (a4 + a5)).toInt64) 106 s (x.1 162 s + a5).toInt64) (60 + 8 * r + 6) s (x.1 151 (5 * r + s) + (a4 + a5)).toInt64) (60 + 8 * r + 7) s (x.1 152 (5 * r + s) + a5).toInt64).2.1 a := fun a m1 m2 m3 => by
            show (wJ (wJ (wJ (wJ (wJ x 105 s (x.1 161 s + (a4 + a5)).toInt64) 106 s (x.1 162 s + a5).toInt64) (60 + 8 * r + 6) s (x.1 151 (5 * r + s) + (a4 + a5)).toInt64) (60 + 8 * r + 7) s (x.1 152 (5 * r + s) + a5).toInt64) 187 0 (x.1 151 (5 * r + s) + (a4 + a5)).toInt64).2.1 a = _
            rw [wJ_ne m1]
          have d105 : ∀ t, (wI (wI (wI (wI (wI (wJ (wJ (wJ (wJ (wJ x 105 s (x.1 161 s + (a4 + a5)).toInt64) 106 s (x.1 162 s + a5).toInt64) (60 + 8 * r + 6) s (x.1 151 (5 * r + s) + (a4 + a5)).toInt64) (60 + 8 * r + 7) s (x.1 152 (5 * r + s) + a5).toInt64) 187 0 (x.1 151 (5 * r + s) + (a4 + a5)).toInt64) 138 57 0) 161 s (x.1 161 s + (a4 + a5))) 162 s (x.1 162 s + a5)) 151 (5 * r + s) (x.1 151 (5 * r + s) + (a4 + a5))) 152 (5 * r + s) (x.1 152 (5 * r + s) + a5)).2.1 105 t = if t = s then (x.1 161 s + (a4 + a5)).toInt64 else x.2.1 105 t := by
            intro t
            show (wJ (wJ (wJ (wJ (wJ x 105 s (x.1 161 s + (a4 + a5)).toInt64) 106 s (x.1 162 s + a5).toInt64) (60 + 8 * r + 6) s (x.1 151 (5 * r + s) + (a4 + a5)).toInt64) (60 + 8 * r + 7) s (x.1 152 (5 * r + s) + a5).toInt64) 187 0 (x.1 151 (5 * r + s) + (a4 + a5)).toInt64).2.1 105 t = _
            rw [wJ_ne (by decide), wJ_ne (by omega), wJ_ne (by omega), wJ_ne (by decide), wJ_at]
          have d106 : ∀ t, (wI (wI (wI (wI (wI (wJ (wJ (wJ (wJ (wJ x 105 s (x.1 161 s + (a4 + a5)).toInt64) 106 s (x.1 162 s + a5).toInt64) (60 + 8 * r + 6) s (x.1 151 (5 * r + s) + (a4 + a5)).toInt64) (60 + 8 * r + 7) s (x.1 152 (5 * r + s) + a5).toInt64) 187 0 (x.1 151 (5 * r + s) + (a4 + a5)).toInt64) 138 57 0) 161 s (x.1 161 s + (a4 + a5))) 162 s (x.1 162 s + a5)) 151 (5 * r + s) (x.1 151 (5 * r + s) + (a4 + a5))) 152 (5 * r + s) (x.1 152 (5 * r + s) + a5)).2.1 106 t = if t = s then (x.1 162 s + a5).toInt64 else x.2.1 106 t := by
            intro t
            show (wJ (wJ (wJ (wJ (wJ x 105 s (x.1 161 s + (a4 + a5)).toInt64) 106 s (x.1 162 s + a5).toInt64) (60 + 8 * r + 6) s (x.1 151 (5 * r + s) + (a4 + a5)).toInt64) (60 + 8 * r + 7) s (x.1 152 (5 * r + s) + a5).toInt64) 187 0 (x.1 151 (5 * r + s) + (a4 + a5)).toInt64).2.1 106 t = _
            rw [wJ_ne (by decide), wJ_ne (by omega), wJ_ne (by omega), wJ_at, wJ_ne (by decide)]
          have dr : ∀ r2, r2 < 4 → ∀ k, k < 8 → ∀ t, ¬ (r2 = r ∧ t = s) ∨ (¬ k = 6 ∧ ¬ k = 7) → (wI (wI (wI (wI (wI (wJ (wJ (wJ (wJ (wJ x 105 s (x.1 161 s + (a4 + a5)).toInt64) 106 s (x.1 162 s + a5).toInt64) (60 + 8 * r + 6) s (x.1 151 (5 * r + s) + (a4 + a5)).toInt64) (60 + 8 * r + 7) s (x.1 152 (5 * r + s) + a5).toInt64) 187 0 (x.1 151 (5 * r + s) + (a4 + a5)).toInt64) 138 57 0) 161 s (x.1 161 s + (a4 + a5))) 162 s (x.1 162 s + a5)) 151 (5 * r + s) (x.1 151 (5 * r + s) + (a4 + a5))) 152 (5 * r + s) (x.1 152 (5 * r + s) + a5)).2.1 (60 + 8 * r2 + k) t = x.2.1 (60 + 8 * r2 + k) t := by
            intro r2 hr2 k hk t ht
            rw [dJ _ (by omega) (by omega) (by omega)]
            by_cases h7 : 60 + 8 * r2 + k = 60 + 8 * r + 7
            · rw [h7, wJ_at, if_neg (by omega), wJ_ne (by omega), wJ_ne (by omega), wJ_ne (by omega)]
            · rw [wJ_ne h7]
              by_cases h6 : 60 + 8 * r2 + k = 60 + 8 * r + 6
              · rw [h6, wJ_at, if_neg (by omega), wJ_ne (by omega), wJ_ne (by omega)]
              · rw [wJ_ne h6, wJ_ne (by omega), wJ_ne (by omega)]
          have d6 : (wI (wI (wI (wI (wI (wJ (wJ (wJ (wJ (wJ x 105 s (x.1 161 s + (a4 + a5)).toInt64) 106 s (x.1 162 s + a5).toInt64) (60 + 8 * r + 6) s (x.1 151 (5 * r + s) + (a4 + a5)).toInt64) (60 + 8 * r + 7) s (x.1 152 (5 * r + s) + a5).toInt64) 187 0 (x.1 151 (5 * r + s) + (a4 + a5)).toInt64) 138 57 0) 161 s (x.1 161 s + (a4 + a5))) 162 s (x.1 162 s + a5)) 151 (5 * r + s) (x.1 151 (5 * r + s) + (a4 + a5))) 152 (5 * r + s) (x.1 152 (5 * r + s) + a5)).2.1 (60 + 8 * r + 6) s = (x.1 151 (5 * r + s) + (a4 + a5)).toInt64 := by
            rw [dJ _ (by omega) (by omega) (by omega)]
            exact g8
          have d7 : (wI (wI (wI (wI (wI (wJ (wJ (wJ (wJ (wJ x 105 s (x.1 161 s + (a4 + a5)).toInt64) 106 s (x.1 162 s + a5).toInt64) (60 + 8 * r + 6) s (x.1 151 (5 * r + s) + (a4 + a5)).toInt64) (60 + 8 * r + 7) s (x.1 152 (5 * r + s) + a5).toInt64) 187 0 (x.1 151 (5 * r + s) + (a4 + a5)).toInt64) 138 57 0) 161 s (x.1 161 s + (a4 + a5))) 162 s (x.1 162 s + a5)) 151 (5 * r + s) (x.1 151 (5 * r + s) + (a4 + a5))) 152 (5 * r + s) (x.1 152 (5 * r + s) + a5)).2.1 (60 + 8 * r + 7) s = (x.1 152 (5 * r + s) + a5).toInt64 := by
            rw [dJ _ (by omega) (by omega) (by omega), wJ_at, if_pos rfl]
          obtain ⟨z, e5, e2'⟩ := e.split
          have e2' := e2'.one
          refine ⟨S, B, Z, F, U, P, I, now, (hN.fr e5 (by decide)).fr e2' (by decide), (hC.fr e5 (by decide)).fr e2' (by decide), ?_, (hZ.fr e5 (by decide)).fr e2' (by decide), ?_, (hF.fr e5 (by decide)).fr e2' (by decide), (hD.fr e5 (by decide)).fr e2' (by decide), (hP.f0 e5 (by decide)).fr e2' (by decide)⟩
          · rw [cI 140 (by decide) (by decide) (by decide) (by decide) (by decide) (by decide)]
            generalize wI (wI (wI (wI (wI (wJ (wJ (wJ (wJ (wJ x 105 s (x.1 161 s + (a4 + a5)).toInt64) 106 s (x.1 162 s + a5).toInt64) (60 + 8 * r + 6) s (x.1 151 (5 * r + s) + (a4 + a5)).toInt64) (60 + 8 * r + 7) s (x.1 152 (5 * r + s) + a5).toInt64) 187 0 (x.1 151 (5 * r + s) + (a4 + a5)).toInt64) 138 57 0) 161 s (x.1 161 s + (a4 + a5))) 162 s (x.1 162 s + a5)) 151 (5 * r + s) (x.1 151 (5 * r + s) + (a4 + a5))) 152 (5 * r + s) (x.1 152 (5 * r + s) + a5) = y at cI dma dmb dr d6 d7
            refine ⟨fun r2 hr2 s2 hs2 => ?_, fun s2 hs2 => ?_⟩
            · obtain ⟨a1, a2, a3, b1, b2, b3, b4⟩ := r1 r2 hr2 s2 hs2
              rw [cI (60 + 8 * r2 + 1) (by omega) (by omega) (by omega) (by omega) (by omega) (by omega), cI (60 + 8 * r2 + 2) (by omega) (by omega) (by omega) (by omega) (by omega) (by omega), cI (60 + 8 * r2 + 3) (by omega) (by omega) (by omega) (by omega) (by omega) (by omega), cI 147 (by decide) (by decide) (by decide) (by decide) (by decide) (by decide), cI 148 (by decide) (by decide) (by decide) (by decide) (by decide) (by decide), cI 149 (by decide) (by decide) (by decide) (by decide) (by decide) (by decide), cI 153 (by decide) (by decide) (by decide) (by decide) (by decide) (by decide), cI 154 (by decide) (by decide) (by decide) (by decide) (by decide) (by decide), dma, dmb]
              by_cases hh : r2 = r ∧ s2 = s
              · obtain ⟨hr', hs'⟩ := hh
                subst hr' hs'
                rw [d6, d7, dr r2 hr2 4 (by decide) s2 (Or.inr (by decide)), dr r2 hr2 5 (by decide) s2 (Or.inr (by decide)), if_pos rfl, if_pos rfl]
                exact ⟨a1, ⟨a2.1, a2.2.1, rfl, rfl⟩, a3, b1.add (m := 2000) (by omega) (by omega) (by omega) (by omega), b2.add (m := 1000) (by omega) (by omega) (by omega) (by omega), b3.up (by omega), b4.up (by omega)⟩
              · rw [dr r2 hr2 4 (by decide) s2 (Or.inl hh), dr r2 hr2 5 (by decide) s2 (Or.inl hh), dr r2 hr2 6 (by decide) s2 (Or.inl hh), dr r2 hr2 7 (by decide) s2 (Or.inl hh), if_neg (by omega), if_neg (by omega)]
                exact ⟨a1, a2, a3, b1.up (by omega), b2.up (by omega), b3.up (by omega), b4.up (by omega)⟩
            · rw [cI (93 + s2) (by omega) (by omega) (by omega) (by omega) (by omega) (by omega), cI 148 (by decide) (by decide) (by decide) (by decide) (by decide) (by decide), cI 150 (by decide) (by decide) (by decide) (by decide) (by decide) (by decide), cI 155 (by decide) (by decide) (by decide) (by decide) (by decide) (by decide), cI 156 (by decide) (by decide) (by decide) (by decide) (by decide) (by decide), cI 157 (by decide) (by decide) (by decide) (by decide) (by decide) (by decide)]
              exact r2 s2 hs2
          · generalize wI (wI (wI (wI (wI (wJ (wJ (wJ (wJ (wJ x 105 s (x.1 161 s + (a4 + a5)).toInt64) 106 s (x.1 162 s + a5).toInt64) (60 + 8 * r + 6) s (x.1 151 (5 * r + s) + (a4 + a5)).toInt64) (60 + 8 * r + 7) s (x.1 152 (5 * r + s) + a5).toInt64) 187 0 (x.1 151 (5 * r + s) + (a4 + a5)).toInt64) 138 57 0) 161 s (x.1 161 s + (a4 + a5))) 162 s (x.1 162 s + a5)) 151 (5 * r + s) (x.1 151 (5 * r + s) + (a4 + a5))) 152 (5 * r + s) (x.1 152 (5 * r + s) + a5) = y at cI d160 d161 d162 d105 d106
            refine ⟨?_, fun t ht => ?_⟩
            · rw [cI 104 (by decide) (by decide) (by decide) (by decide) (by decide) (by decide), cI 159 (by decide) (by decide) (by decide) (by decide) (by decide) (by decide)]; exact w104
            · rw [cI 159 (by decide) (by decide) (by decide) (by decide) (by decide) (by decide), d160, d161, d162, d105, d106]
              obtain ⟨x1, x2, x3, x4, x5, x6⟩ := hb t ht
              by_cases hts : t = s
              · subst hts
                have hs1 : ∀ (a b : Int32), (if t = t then a else b) = a := fun a b => if_pos rfl
                have hs2 : ∀ (a b : Int64), (if t = t then a else b) = a := fun a b => if_pos rfl
                rw [hs1, hs1, hs1, hs2, hs2]
                refine ⟨x1, ?_, ?_, ?_, fun _ => ⟨rfl, rfl⟩, fun w => absurd rfl w⟩
                · unfold nB; rw [zI_int (by omega)]; omega
                · exact nB.add (v := x.1 161 t) (n := 2000 * c) x3 (m := 2000) (by omega) (by omega) (by omega) (by omega)
                · exact nB.add (v := x.1 162 t) (n := 1000 * c) x4 (m := 1000) (by omega) (by omega) (by omega) (by omega)
              · have hs1 : ∀ (a b : Int32), (if t = s then a else b) = b := fun a b => if_neg hts
                have hs2 : ∀ (a b : Int64), (if t = s then a else b) = b := fun a b => if_neg hts
                rw [hs1, hs1, hs1, hs2, hs2]
                exact ⟨x1, x2, x3.up (by omega), x4.up (by omega), x5, x6⟩
      · obtain ⟨l105, l106⟩ := x6 q
        have g105 : x.2.1 105 s + (a4 + a5).toInt64 = (0 + (a4 + a5)).toInt64 := by
          rw [l105, t64_add (a := 0) (b := a4 + a5) (by rw [show (0 : Int32).toInt = 0 from rfl]; omega) (by rw [show (0 : Int32).toInt = 0 from rfl]; omega)]
          rfl
        have g106 : (wJ x 105 s (0 + (a4 + a5)).toInt64).2.1 106 s + a5.toInt64 = (0 + a5).toInt64 := by
          rw [wJ_ne (by decide), l106, t64_add (a := 0) (b := a5) (by rw [show (0 : Int32).toInt = 0 from rfl]; omega) (by rw [show (0 : Int32).toInt = 0 from rfl]; omega)]
          rfl
        have g6 : (wJ (wJ x 105 s (0 + (a4 + a5)).toInt64) 106 s (0 + a5).toInt64).2.1 (60 + 8 * r + 6) s + (a4 + a5).toInt64 = (x.1 151 (5 * r + s) + (a4 + a5)).toInt64 := by
          rw [wJ_ne (by omega), wJ_ne (by omega), l6, t64_add (a := x.1 151 (5 * r + s)) (b := a4 + a5) (by omega) (by omega)]
        have g7 : (wJ (wJ (wJ x 105 s (0 + (a4 + a5)).toInt64) 106 s (0 + a5).toInt64) (60 + 8 * r + 6) s (x.1 151 (5 * r + s) + (a4 + a5)).toInt64).2.1 (60 + 8 * r + 7) s + a5.toInt64 = (x.1 152 (5 * r + s) + a5).toInt64 := by
          rw [wJ_ne (by omega), wJ_ne (by omega), wJ_ne (by omega), l7, t64_add (a := x.1 152 (5 * r + s)) (b := a5) (by omega) (by omega)]
        have g8 : (wJ (wJ (wJ (wJ x 105 s (0 + (a4 + a5)).toInt64) 106 s (0 + a5).toInt64) (60 + 8 * r + 6) s (x.1 151 (5 * r + s) + (a4 + a5)).toInt64) (60 + 8 * r + 7) s (x.1 152 (5 * r + s) + a5).toInt64).2.1 (60 + 8 * r + 6) s = (x.1 151 (5 * r + s) + (a4 + a5)).toInt64 := by
          rw [wJ_ne (by omega), wJ_at, if_pos rfl]
        have hA : gm192 a1 a2 a3 a4 a5 x = some ((0 : Int32), wJ (wJ (wJ (wJ (wJ x 105 s (0 + (a4 + a5)).toInt64) 106 s (0 + a5).toInt64) (60 + 8 * r + 6) s (x.1 151 (5 * r + s) + (a4 + a5)).toInt64) (60 + 8 * r + 7) s (x.1 152 (5 * r + s) + a5).toInt64) 187 0 (x.1 151 (5 * r + s) + (a4 + a5)).toInt64) := by
          simp only [gm192, gm69_80, gm69_71, gm69_39, gm69_38, gm69, gm2, gm52, gm53, F1, F2, u4, q4, u5, q5, p1, xs, xr, i4, i5, if_neg g0, q148, if_neg g1, g105, g106, g6, g7, g8, Int32.toInt32_toInt64, n10, n20, n21, Option.bind_some, b2i_t, b2i_f, i10, ↓reduceIte, cond_true, cond_false, kb0, kb1, kb2, s92_1, s92_0, s93_1, s93_0, s113_0, s113_1, s113_2, s113_3, aBit_b, aI01, xi0, xi1]
        have hM : gm142 a1 a2 a3 a4 a5 (wJ (wJ (wJ (wJ (wJ x 105 s (0 + (a4 + a5)).toInt64) 106 s (0 + a5).toInt64) (60 + 8 * r + 6) s (x.1 151 (5 * r + s) + (a4 + a5)).toInt64) (60 + 8 * r + 7) s (x.1 152 (5 * r + s) + a5).toInt64) 187 0 (x.1 151 (5 * r + s) + (a4 + a5)).toInt64) = some ((x.1 151 (5 * r + s) + (a4 + a5)), wI (wI (wI (wI (wI (wI (wI (wI (wJ (wJ (wJ (wJ (wJ x 105 s (0 + (a4 + a5)).toInt64) 106 s (0 + a5).toInt64) (60 + 8 * r + 6) s (x.1 151 (5 * r + s) + (a4 + a5)).toInt64) (60 + 8 * r + 7) s (x.1 152 (5 * r + s) + a5).toInt64) 187 0 (x.1 151 (5 * r + s) + (a4 + a5)).toInt64) 138 57 0) 160 s (zI (now / 60))) 161 s 0) 162 s 0) 161 s (0 + (a4 + a5))) 162 s (0 + a5)) 151 (5 * r + s) (x.1 151 (5 * r + s) + (a4 + a5))) 152 (5 * r + s) (x.1 152 (5 * r + s) + a5)) := by
          have c0 : (wJ (wJ (wJ (wJ (wJ x 105 s (0 + (a4 + a5)).toInt64) 106 s (0 + a5).toInt64) (60 + 8 * r + 6) s (x.1 151 (5 * r + s) + (a4 + a5)).toInt64) (60 + 8 * r + 7) s (x.1 152 (5 * r + s) + a5).toInt64) 187 0 (x.1 151 (5 * r + s) + (a4 + a5)).toInt64).1 = x.1 := rfl
          generalize wJ (wJ (wJ (wJ (wJ x 105 s (0 + (a4 + a5)).toInt64) 106 s (0 + a5).toInt64) (60 + 8 * r + 6) s (x.1 151 (5 * r + s) + (a4 + a5)).toInt64) (60 + 8 * r + 7) s (x.1 152 (5 * r + s) + a5).toInt64) 187 0 (x.1 151 (5 * r + s) + (a4 + a5)).toInt64 = y at c0
          have T0 := s117 (x := y) (S := S) a1 (by rw [c0]; exact e2) k1
          rw [p1] at T0
          have st : gm142 a1 a2 a3 a4 a5 y = gm142_118 a1 a3 a4 a5 (zI (5 * r + s)) 0 y := by
            simp only [gm142_109, gm142_67, gm142_51, gm142_50, gm142_20, gm142_19, gm142, T0, t2, p2, t4, q4, t5, q5, ix, i20, xk, c0, if_neg g0, if_neg g1, n10, n20, n21, Option.bind_some, b2i_t, b2i_f, i10, ↓reduceIte, cond_true, cond_false, kb0, kb1, kb2, s92_1, s92_0, s93_1, s93_0, s113_0, s113_1, s113_2, s113_3, aBit_b, aI01, xi0, xi1]
          rw [st]
          unfold gm142_118
          rw [s113_0, Option.bind_some]
          have zz : ∀ a, 139 ≤ a → (wI y 138 57 0).1 a = x.1 a := fun a ha => by rw [wI_ne (by omega), c0]
          have z0 : (wI y 138 57 0).1 138 0 = zI now := by rw [wI_nj (by decide), c0]; exact n3
          generalize wI y 138 57 0 = z at zz z0
          have z160 := zz 160 (by decide)
          have z161 := zz 161 (by decide)
          have z162 := zz 162 (by decide)
          have z151 := zz 151 (by decide)
          have z152 := zz 152 (by decide)
          have z153 := zz 153 (by decide)
          have z154 := zz 154 (by decide)
          simp only [gm137, gm142_161, ↓reduceIte, i10, Option.bind_some, cond_true, xs, i5', z160, z0, dv, if_neg q, i20, xk, if_neg g0, wI_ne, not_false_eq_true, Nat.reduceEqDiff, wI_j, z161, z162, z151, z152, z153, z154]
        have e : SBl [5, 2] x (wI (wI (wI (wI (wI (wI (wI (wI (wJ (wJ (wJ (wJ (wJ x 105 s (0 + (a4 + a5)).toInt64) 106 s (0 + a5).toInt64) (60 + 8 * r + 6) s (x.1 151 (5 * r + s) + (a4 + a5)).toInt64) (60 + 8 * r + 7) s (x.1 152 (5 * r + s) + a5).toInt64) 187 0 (x.1 151 (5 * r + s) + (a4 + a5)).toInt64) 138 57 0) 160 s (zI (now / 60))) 161 s 0) 162 s 0) 161 s (0 + (a4 + a5))) 162 s (0 + a5)) 151 (5 * r + s) (x.1 151 (5 * r + s) + (a4 + a5))) 152 (5 * r + s) (x.1 152 (5 * r + s) + a5)) := by
          refine SBl.I ?_ (by decide) (Or.inl (by decide))
          refine SBl.I ?_ (by decide) (Or.inl (by decide))
          refine SBl.I ?_ (by decide) (Or.inl (by decide))
          refine SBl.I ?_ (by decide) (Or.inl (by decide))
          refine SBl.I ?_ (by decide) (Or.inl (by decide))
          refine SBl.I ?_ (by decide) (Or.inl (by decide))
          refine SBl.I ?_ (by decide) (Or.inl (by decide))
          refine SBl.M ?_ (Or.inr rfl)
          refine SBl.J ?_ (Or.inr rfl)
          refine SBl.J ?_ (Or.inl (ow 7 (by decide)))
          refine SBl.J ?_ (Or.inl (ow 6 (by decide)))
          refine SBl.J ?_ (Or.inl (by decide))
          refine SBl.J ?_ (Or.inl (by decide))
          exact SBl.rf _ _
        refine ⟨0, _, _, _, hA, hM, ?_, fun _ => rfl, rfl, e.c 0 (by decide) (by decide) (by decide), ?_⟩
        · rw [wI_ne (by decide), wI_ne (by decide), wI_ne (by decide), wI_ne (by decide), wI_ne (by decide), wI_ne (by decide), wI_ne (by decide), wI_j]
        ·
          have cI : ∀ a, ¬ a = 138 → ¬ a = 160 → ¬ a = 161 → ¬ a = 162 → ¬ a = 151 → ¬ a = 152 → (wI (wI (wI (wI (wI (wI (wI (wI (wJ (wJ (wJ (wJ (wJ x 105 s (0 + (a4 + a5)).toInt64) 106 s (0 + a5).toInt64) (60 + 8 * r + 6) s (x.1 151 (5 * r + s) + (a4 + a5)).toInt64) (60 + 8 * r + 7) s (x.1 152 (5 * r + s) + a5).toInt64) 187 0 (x.1 151 (5 * r + s) + (a4 + a5)).toInt64) 138 57 0) 160 s (zI (now / 60))) 161 s 0) 162 s 0) 161 s (0 + (a4 + a5))) 162 s (0 + a5)) 151 (5 * r + s) (x.1 151 (5 * r + s) + (a4 + a5))) 152 (5 * r + s) (x.1 152 (5 * r + s) + a5)).1 a = x.1 a := by
            intro a m1 m2 m3 m4 m5 m6
            rw [wI_ne m6, wI_ne m5, wI_ne m4, wI_ne m3, wI_ne m4, wI_ne m3, wI_ne m2, wI_ne m1]
            rfl
          have d160 : ∀ t, (wI (wI (wI (wI (wI (wI (wI (wI (wJ (wJ (wJ (wJ (wJ x 105 s (0 + (a4 + a5)).toInt64) 106 s (0 + a5).toInt64) (60 + 8 * r + 6) s (x.1 151 (5 * r + s) + (a4 + a5)).toInt64) (60 + 8 * r + 7) s (x.1 152 (5 * r + s) + a5).toInt64) 187 0 (x.1 151 (5 * r + s) + (a4 + a5)).toInt64) 138 57 0) 160 s (zI (now / 60))) 161 s 0) 162 s 0) 161 s (0 + (a4 + a5))) 162 s (0 + a5)) 151 (5 * r + s) (x.1 151 (5 * r + s) + (a4 + a5))) 152 (5 * r + s) (x.1 152 (5 * r + s) + a5)).1 160 t = if t = s then zI (now / 60) else x.1 160 t := by
            intro t
            rw [wI_ne (by decide), wI_ne (by decide), wI_ne (by decide), wI_ne (by decide), wI_ne (by decide), wI_ne (by decide), wI_at, wI_ne (by decide)]
            rfl
          have d161 : ∀ t, (wI (wI (wI (wI (wI (wI (wI (wI (wJ (wJ (wJ (wJ (wJ x 105 s (0 + (a4 + a5)).toInt64) 106 s (0 + a5).toInt64) (60 + 8 * r + 6) s (x.1 151 (5 * r + s) + (a4 + a5)).toInt64) (60 + 8 * r + 7) s (x.1 152 (5 * r + s) + a5).toInt64) 187 0 (x.1 151 (5 * r + s) + (a4 + a5)).toInt64) 138 57 0) 160 s (zI (now / 60))) 161 s 0) 162 s 0) 161 s (0 + (a4 + a5))) 162 s (0 + a5)) 151 (5 * r + s) (x.1 151 (5 * r + s) + (a4 + a5))) 152 (5 * r + s) (x.1 152 (5 * r + s) + a5)).1 161 t = if t = s then 0 + (a4 + a5) else x.1 161 t := by
            intro t
            rw [wI_ne (by decide), wI_ne (by decide), wI_ne (by decide), wI_at, wI_ne (by decide), wI_at, wI_ne (by decide), wI_ne (by decide)]
            by_cases ht : t = s
            · rw [if_pos ht, if_pos ht]
            · rw [if_neg ht, if_neg ht, if_neg ht]; rfl
          have d162 : ∀ t, (wI (wI (wI (wI (wI (wI (wI (wI (wJ (wJ (wJ (wJ (wJ x 105 s (0 + (a4 + a5)).toInt64) 106 s (0 + a5).toInt64) (60 + 8 * r + 6) s (x.1 151 (5 * r + s) + (a4 + a5)).toInt64) (60 + 8 * r + 7) s (x.1 152 (5 * r + s) + a5).toInt64) 187 0 (x.1 151 (5 * r + s) + (a4 + a5)).toInt64) 138 57 0) 160 s (zI (now / 60))) 161 s 0) 162 s 0) 161 s (0 + (a4 + a5))) 162 s (0 + a5)) 151 (5 * r + s) (x.1 151 (5 * r + s) + (a4 + a5))) 152 (5 * r + s) (x.1 152 (5 * r + s) + a5)).1 162 t = if t = s then 0 + a5 else x.1 162 t := by
            intro t
            rw [wI_ne (by decide), wI_ne (by decide), wI_at, wI_ne (by decide), wI_at, wI_ne (by decide), wI_ne (by decide), wI_ne (by decide)]
            by_cases ht : t = s
            · rw [if_pos ht, if_pos ht]
            · rw [if_neg ht, if_neg ht, if_neg ht]; rfl
          have dma : ∀ t, (wI (wI (wI (wI (wI (wI (wI (wI (wJ (wJ (wJ (wJ (wJ x 105 s (0 + (a4 + a5)).toInt64) 106 s (0 + a5).toInt64) (60 + 8 * r + 6) s (x.1 151 (5 * r + s) + (a4 + a5)).toInt64) (60 + 8 * r + 7) s (x.1 152 (5 * r + s) + a5).toInt64) 187 0 (x.1 151 (5 * r + s) + (a4 + a5)).toInt64) 138 57 0) 160 s (zI (now / 60))) 161 s 0) 162 s 0) 161 s (0 + (a4 + a5))) 162 s (0 + a5)) 151 (5 * r + s) (x.1 151 (5 * r + s) + (a4 + a5))) 152 (5 * r + s) (x.1 152 (5 * r + s) + a5)).1 151 t = if t = 5 * r + s then (x.1 151 (5 * r + s) + (a4 + a5)) else x.1 151 t := by
            intro t
            rw [wI_ne (by decide), wI_at, wI_ne (by decide), wI_ne (by decide), wI_ne (by decide), wI_ne (by decide), wI_ne (by decide), wI_ne (by decide)]
            rfl
          have dmb : ∀ t, (wI (wI (wI (wI (wI (wI (wI (wI (wJ (wJ (wJ (wJ (wJ x 105 s (0 + (a4 + a5)).toInt64) 106 s (0 + a5).toInt64) (60 + 8 * r + 6) s (x.1 151 (5 * r + s) + (a4 + a5)).toInt64) (60 + 8 * r + 7) s (x.1 152 (5 * r + s) + a5).toInt64) 187 0 (x.1 151 (5 * r + s) + (a4 + a5)).toInt64) 138 57 0) 160 s (zI (now / 60))) 161 s 0) 162 s 0) 161 s (0 + (a4 + a5))) 162 s (0 + a5)) 151 (5 * r + s) (x.1 151 (5 * r + s) + (a4 + a5))) 152 (5 * r + s) (x.1 152 (5 * r + s) + a5)).1 152 t = if t = 5 * r + s then x.1 152 (5 * r + s) + a5 else x.1 152 t := by
            intro t
            rw [wI_at, wI_ne (by decide), wI_ne (by decide), wI_ne (by decide), wI_ne (by decide), wI_ne (by decide), wI_ne (by decide), wI_ne (by decide)]
            rfl
          have dJ : ∀ a, ¬ a = 187 → ¬ a = 105 → ¬ a = 106 → (wI (wI (wI (wI (wI (wI (wI (wI (wJ (wJ (wJ (wJ (wJ x 105 s (0 + (a4 + a5)).toInt64) 106 s (0 + a5).toInt64) (60 + 8 * r + 6) s (x.1 151 (5 * r + s) + (a4 + a5)).toInt64) (60 + 8 * r + 7) s (x.1 152 (5 * r + s) + a5).toInt64) 187 0 (x.1 151 (5 * r + s) + (a4 + a5)).toInt64) 138 57 0) 160 s (zI (now / 60))) 161 s 0) 162 s 0) 161 s (0 + (a4 + a5))) 162 s (0 + a5)) 151 (5 * r + s) (x.1 151 (5 * r + s) + (a4 + a5))) 152 (5 * r + s) (x.1 152 (5 * r + s) + a5)).2.1 a = (wJ (wJ (wJ (wJ x 105 s (0 + (a4 + a5)).toInt64) 106 s (0 + a5).toInt64) (60 + 8 * r + 6) s (x.1 151 (5 * r + s) + (a4 + a5)).toInt64) (60 + 8 * r + 7) s (x.1 152 (5 * r + s) + a5).toInt64).2.1 a := fun a m1 m2 m3 => by
            show (wJ (wJ (wJ (wJ (wJ x 105 s (0 + (a4 + a5)).toInt64) 106 s (0 + a5).toInt64) (60 + 8 * r + 6) s (x.1 151 (5 * r + s) + (a4 + a5)).toInt64) (60 + 8 * r + 7) s (x.1 152 (5 * r + s) + a5).toInt64) 187 0 (x.1 151 (5 * r + s) + (a4 + a5)).toInt64).2.1 a = _
            rw [wJ_ne m1]
          have d105 : ∀ t, (wI (wI (wI (wI (wI (wI (wI (wI (wJ (wJ (wJ (wJ (wJ x 105 s (0 + (a4 + a5)).toInt64) 106 s (0 + a5).toInt64) (60 + 8 * r + 6) s (x.1 151 (5 * r + s) + (a4 + a5)).toInt64) (60 + 8 * r + 7) s (x.1 152 (5 * r + s) + a5).toInt64) 187 0 (x.1 151 (5 * r + s) + (a4 + a5)).toInt64) 138 57 0) 160 s (zI (now / 60))) 161 s 0) 162 s 0) 161 s (0 + (a4 + a5))) 162 s (0 + a5)) 151 (5 * r + s) (x.1 151 (5 * r + s) + (a4 + a5))) 152 (5 * r + s) (x.1 152 (5 * r + s) + a5)).2.1 105 t = if t = s then (0 + (a4 + a5)).toInt64 else x.2.1 105 t := by
            intro t
            show (wJ (wJ (wJ (wJ (wJ x 105 s (0 + (a4 + a5)).toInt64) 106 s (0 + a5).toInt64) (60 + 8 * r + 6) s (x.1 151 (5 * r + s) + (a4 + a5)).toInt64) (60 + 8 * r + 7) s (x.1 152 (5 * r + s) + a5).toInt64) 187 0 (x.1 151 (5 * r + s) + (a4 + a5)).toInt64).2.1 105 t = _
            rw [wJ_ne (by decide), wJ_ne (by omega), wJ_ne (by omega), wJ_ne (by decide), wJ_at]
          have d106 : ∀ t, (wI (wI (wI (wI (wI (wI (wI (wI (wJ (wJ (wJ (wJ (wJ x 105 s (0 + (a4 + a5)).toInt64) 106 s (0 + a5).toInt64) (60 + 8 * r + 6) s (x.1 151 (5 * r + s) + (a4 + a5)).toInt64) (60 + 8 * r + 7) s (x.1 152 (5 * r + s) + a5).toInt64) 187 0 (x.1 151 (5 * r + s) + (a4 + a5)).toInt64) 138 57 0) 160 s (zI (now / 60))) 161 s 0) 162 s 0) 161 s (0 + (a4 + a5))) 162 s (0 + a5)) 151 (5 * r + s) (x.1 151 (5 * r + s) + (a4 + a5))) 152 (5 * r + s) (x.1 152 (5 * r + s) + a5)).2.1 106 t = if t = s then (0 + a5).toInt64 else x.2.1 106 t := by
            intro t
            show (wJ (wJ (wJ (wJ (wJ x 105 s (0 + (a4 + a5)).toInt64) 106 s (0 + a5).toInt64) (60 + 8 * r + 6) s (x.1 151 (5 * r + s) + (a4 + a5)).toInt64) (60 + 8 * r + 7) s (x.1 152 (5 * r + s) + a5).toInt64) 187 0 (x.1 151 (5 * r + s) + (a4 + a5)).toInt64).2.1 106 t = _
            rw [wJ_ne (by decide), wJ_ne (by omega), wJ_ne (by omega), wJ_at, wJ_ne (by decide)]
          have dr : ∀ r2, r2 < 4 → ∀ k, k < 8 → ∀ t, ¬ (r2 = r ∧ t = s) ∨ (¬ k = 6 ∧ ¬ k = 7) → (wI (wI (wI (wI (wI (wI (wI (wI (wJ (wJ (wJ (wJ (wJ x 105 s (0 + (a4 + a5)).toInt64) 106 s (0 + a5).toInt64) (60 + 8 * r + 6) s (x.1 151 (5 * r + s) + (a4 + a5)).toInt64) (60 + 8 * r + 7) s (x.1 152 (5 * r + s) + a5).toInt64) 187 0 (x.1 151 (5 * r + s) + (a4 + a5)).toInt64) 138 57 0) 160 s (zI (now / 60))) 161 s 0) 162 s 0) 161 s (0 + (a4 + a5))) 162 s (0 + a5)) 151 (5 * r + s) (x.1 151 (5 * r + s) + (a4 + a5))) 152 (5 * r + s) (x.1 152 (5 * r + s) + a5)).2.1 (60 + 8 * r2 + k) t = x.2.1 (60 + 8 * r2 + k) t := by
            intro r2 hr2 k hk t ht
            rw [dJ _ (by omega) (by omega) (by omega)]
            by_cases h7 : 60 + 8 * r2 + k = 60 + 8 * r + 7
            · rw [h7, wJ_at, if_neg (by omega), wJ_ne (by omega), wJ_ne (by omega), wJ_ne (by omega)]
            · rw [wJ_ne h7]
              by_cases h6 : 60 + 8 * r2 + k = 60 + 8 * r + 6
              · rw [h6, wJ_at, if_neg (by omega), wJ_ne (by omega), wJ_ne (by omega)]
              · rw [wJ_ne h6, wJ_ne (by omega), wJ_ne (by omega)]
          have d6 : (wI (wI (wI (wI (wI (wI (wI (wI (wJ (wJ (wJ (wJ (wJ x 105 s (0 + (a4 + a5)).toInt64) 106 s (0 + a5).toInt64) (60 + 8 * r + 6) s (x.1 151 (5 * r + s) + (a4 + a5)).toInt64) (60 + 8 * r + 7) s (x.1 152 (5 * r + s) + a5).toInt64) 187 0 (x.1 151 (5 * r + s) + (a4 + a5)).toInt64) 138 57 0) 160 s (zI (now / 60))) 161 s 0) 162 s 0) 161 s (0 + (a4 + a5))) 162 s (0 + a5)) 151 (5 * r + s) (x.1 151 (5 * r + s) + (a4 + a5))) 152 (5 * r + s) (x.1 152 (5 * r + s) + a5)).2.1 (60 + 8 * r + 6) s = (x.1 151 (5 * r + s) + (a4 + a5)).toInt64 := by
            rw [dJ _ (by omega) (by omega) (by omega)]
            exact g8
          have d7 : (wI (wI (wI (wI (wI (wI (wI (wI (wJ (wJ (wJ (wJ (wJ x 105 s (0 + (a4 + a5)).toInt64) 106 s (0 + a5).toInt64) (60 + 8 * r + 6) s (x.1 151 (5 * r + s) + (a4 + a5)).toInt64) (60 + 8 * r + 7) s (x.1 152 (5 * r + s) + a5).toInt64) 187 0 (x.1 151 (5 * r + s) + (a4 + a5)).toInt64) 138 57 0) 160 s (zI (now / 60))) 161 s 0) 162 s 0) 161 s (0 + (a4 + a5))) 162 s (0 + a5)) 151 (5 * r + s) (x.1 151 (5 * r + s) + (a4 + a5))) 152 (5 * r + s) (x.1 152 (5 * r + s) + a5)).2.1 (60 + 8 * r + 7) s = (x.1 152 (5 * r + s) + a5).toInt64 := by
            rw [dJ _ (by omega) (by omega) (by omega), wJ_at, if_pos rfl]
          obtain ⟨z, e5, e2'⟩ := e.split
          have e2' := e2'.one
          refine ⟨S, B, Z, F, U, P, I, now, (hN.fr e5 (by decide)).fr e2' (by decide), (hC.fr e5 (by decide)).fr e2' (by decide), ?_, (hZ.fr e5 (by decide)).fr e2' (by decide), ?_, (hF.fr e5 (by decide)).fr e2' (by decide), (hD.fr e5 (by decide)).fr e2' (by decide), (hP.f0 e5 (by decide)).fr e2' (by decide)⟩
          · rw [cI 140 (by decide) (by decide) (by decide) (by decide) (by decide) (by decide)]
            generalize wI (wI (wI (wI (wI (wI (wI (wI (wJ (wJ (wJ (wJ (wJ x 105 s (0 + (a4 + a5)).toInt64) 106 s (0 + a5).toInt64) (60 + 8 * r + 6) s (x.1 151 (5 * r + s) + (a4 + a5)).toInt64) (60 + 8 * r + 7) s (x.1 152 (5 * r + s) + a5).toInt64) 187 0 (x.1 151 (5 * r + s) + (a4 + a5)).toInt64) 138 57 0) 160 s (zI (now / 60))) 161 s 0) 162 s 0) 161 s (0 + (a4 + a5))) 162 s (0 + a5)) 151 (5 * r + s) (x.1 151 (5 * r + s) + (a4 + a5))) 152 (5 * r + s) (x.1 152 (5 * r + s) + a5) = y at cI dma dmb dr d6 d7
            refine ⟨fun r2 hr2 s2 hs2 => ?_, fun s2 hs2 => ?_⟩
            · obtain ⟨a1, a2, a3, b1, b2, b3, b4⟩ := r1 r2 hr2 s2 hs2
              rw [cI (60 + 8 * r2 + 1) (by omega) (by omega) (by omega) (by omega) (by omega) (by omega), cI (60 + 8 * r2 + 2) (by omega) (by omega) (by omega) (by omega) (by omega) (by omega), cI (60 + 8 * r2 + 3) (by omega) (by omega) (by omega) (by omega) (by omega) (by omega), cI 147 (by decide) (by decide) (by decide) (by decide) (by decide) (by decide), cI 148 (by decide) (by decide) (by decide) (by decide) (by decide) (by decide), cI 149 (by decide) (by decide) (by decide) (by decide) (by decide) (by decide), cI 153 (by decide) (by decide) (by decide) (by decide) (by decide) (by decide), cI 154 (by decide) (by decide) (by decide) (by decide) (by decide) (by decide), dma, dmb]
              by_cases hh : r2 = r ∧ s2 = s
              · obtain ⟨hr', hs'⟩ := hh
                subst hr' hs'
                rw [d6, d7, dr r2 hr2 4 (by decide) s2 (Or.inr (by decide)), dr r2 hr2 5 (by decide) s2 (Or.inr (by decide)), if_pos rfl, if_pos rfl]
                exact ⟨a1, ⟨a2.1, a2.2.1, rfl, rfl⟩, a3, b1.add (m := 2000) (by omega) (by omega) (by omega) (by omega), b2.add (m := 1000) (by omega) (by omega) (by omega) (by omega), b3.up (by omega), b4.up (by omega)⟩
              · rw [dr r2 hr2 4 (by decide) s2 (Or.inl hh), dr r2 hr2 5 (by decide) s2 (Or.inl hh), dr r2 hr2 6 (by decide) s2 (Or.inl hh), dr r2 hr2 7 (by decide) s2 (Or.inl hh), if_neg (by omega), if_neg (by omega)]
                exact ⟨a1, a2, a3, b1.up (by omega), b2.up (by omega), b3.up (by omega), b4.up (by omega)⟩
            · rw [cI (93 + s2) (by omega) (by omega) (by omega) (by omega) (by omega) (by omega), cI 148 (by decide) (by decide) (by decide) (by decide) (by decide) (by decide), cI 150 (by decide) (by decide) (by decide) (by decide) (by decide) (by decide), cI 155 (by decide) (by decide) (by decide) (by decide) (by decide) (by decide), cI 156 (by decide) (by decide) (by decide) (by decide) (by decide) (by decide), cI 157 (by decide) (by decide) (by decide) (by decide) (by decide) (by decide)]
              exact r2 s2 hs2
          · generalize wI (wI (wI (wI (wI (wI (wI (wI (wJ (wJ (wJ (wJ (wJ x 105 s (0 + (a4 + a5)).toInt64) 106 s (0 + a5).toInt64) (60 + 8 * r + 6) s (x.1 151 (5 * r + s) + (a4 + a5)).toInt64) (60 + 8 * r + 7) s (x.1 152 (5 * r + s) + a5).toInt64) 187 0 (x.1 151 (5 * r + s) + (a4 + a5)).toInt64) 138 57 0) 160 s (zI (now / 60))) 161 s 0) 162 s 0) 161 s (0 + (a4 + a5))) 162 s (0 + a5)) 151 (5 * r + s) (x.1 151 (5 * r + s) + (a4 + a5))) 152 (5 * r + s) (x.1 152 (5 * r + s) + a5) = y at cI d160 d161 d162 d105 d106
            refine ⟨?_, fun t ht => ?_⟩
            · rw [cI 104 (by decide) (by decide) (by decide) (by decide) (by decide) (by decide), cI 159 (by decide) (by decide) (by decide) (by decide) (by decide) (by decide)]; exact w104
            · rw [cI 159 (by decide) (by decide) (by decide) (by decide) (by decide) (by decide), d160, d161, d162, d105, d106]
              obtain ⟨x1, x2, x3, x4, x5, x6⟩ := hb t ht
              by_cases hts : t = s
              · subst hts
                have hs1 : ∀ (a b : Int32), (if t = t then a else b) = a := fun a b => if_pos rfl
                have hs2 : ∀ (a b : Int64), (if t = t then a else b) = a := fun a b => if_pos rfl
                rw [hs1, hs1, hs1, hs2, hs2]
                refine ⟨x1, ?_, ?_, ?_, fun _ => ⟨rfl, rfl⟩, fun w => absurd rfl w⟩
                · unfold nB; rw [zI_int (by omega)]; omega
                · exact nB.add (v := 0) (n := 0) ⟨by decide, by decide⟩ (m := 2000) (by omega) (by omega) (by omega) (by omega)
                · exact nB.add (v := 0) (n := 0) ⟨by decide, by decide⟩ (m := 1000) (by omega) (by omega) (by omega) (by omega)
              · have hs1 : ∀ (a b : Int32), (if t = s then a else b) = b := fun a b => if_neg hts
                have hs2 : ∀ (a b : Int64), (if t = s then a else b) = b := fun a b => if_neg hts
                rw [hs1, hs1, hs1, hs2, hs2]
                exact ⟨x1, x2, x3.up (by omega), x4.up (by omega), x5, x6⟩
