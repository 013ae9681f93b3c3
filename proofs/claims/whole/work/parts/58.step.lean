/-! A step -/
theorem R140_39_1 (a1 : Int32) (x : Hs) : gm140_39 a1 1 x = some (0, wI x 138 57 1) := by
  unfold gm140_39
  rw [s113_1]
  rfl
theorem R140_39_2 (a1 : Int32) (x : Hs) : gm140_39 a1 2 x = some (0, wI x 138 57 2) := by
  unfold gm140_39
  rw [s113_2]
  rfl
theorem R140_39_3 (a1 : Int32) (x : Hs) : gm140_39 a1 3 x = some (0, wI x 138 57 3) := by
  unfold gm140_39
  rw [s113_3]
  rfl
theorem nB0 (n : Nat) : nB 0 n := by
  unfold nB
  rw [show (0 : Int32).toInt = 0 from rfl]
  omega
theorem ref_pos (x : Hs) (S Z I r s : Nat) (now w b : Int32) : refM x S Z I r s now w b = 0 ∨ ¬ refM x S Z I r s now w b ≤ 0 := by
  unfold refM gateM
  repeat' split
  all_goals first | exact Or.inl rfl | exact Or.inr (by decide)
theorem wJ_rd (x : Hs) (q j : Nat) (v : Int64) (a t : Nat) : (wJ x q j v).2.1 a t = if a = q ∧ t = j then v else x.2.1 a t := by
  by_cases h : a = q
  · subst h
    rw [wJ_at]
    by_cases h2 : t = j
    · rw [if_pos h2, if_pos ⟨rfl, h2⟩]
    · rw [if_neg h2, if_neg (fun w => h2 w.2)]
  · rw [wJ_ne h, if_neg (fun w => h w.1)]
theorem op_step {c : Nat} {x : Hs} (h : Inv c x) (a1 : Int32) : OpOK c x (gm190 a1 x) (gm140 a1) o64 := by
  have h0 := h
  obtain ⟨S, B, Z, F, U, P, I, now, hN, hC, hR, hZ, hB, hF, hD, hP⟩ := h
  obtain ⟨⟨k1, k2⟩, ⟨e1, e2, e3, e4⟩, -⟩ := id hC
  obtain ⟨r1, r2⟩ := id hR
  obtain ⟨z1, ⟨z2, z3⟩, ⟨w100, w101, w102, w99⟩, hex⟩ := id hZ
  obtain ⟨n1, n2, n3⟩ := id hN
  have T0 := s117 (x := x) a1 e2 k1
  cases p1 : aIn a1 S with
  | false =>
    refine OpOK.no h0 (k := 1) (b := 0) (by decide) ?_ ?_
    · simp only [gm190, gm67_74, gm67_32, gm67_31, gm67, s94_f hC p1, T0, p1, n10, n20, n21, Option.bind_some, b2i_t, b2i_f, i10, ↓reduceIte, cond_true, cond_false, kb0, kb1, kb2, s92_1, s92_0, s93_1, s93_0, s113_0, s113_1, s113_2, s113_3, aBit_b, aI01, xi0, xi1]
    · simp only [R140_39_1, R140_39_2, R140_39_3, gm140_34, gm140, s94_f hC p1, T0, p1, n10, n20, n21, Option.bind_some, b2i_t, b2i_f, i10, ↓reduceIte, cond_true, cond_false, kb0, kb1, kb2, s92_1, s92_0, s93_1, s93_0, s113_0, s113_1, s113_2, s113_3, aBit_b, aI01, xi0, xi1]
  | true =>
  rw [p1] at T0
  have F1 := s94_t hC p1
  have i5 := aIn_up p1 k1
  obtain ⟨s, hs, es⟩ := aIn_ex p1
  have xs' : xi a1 = s := by rw [es, xi_zI (by omega)]
  obtain ⟨b1, b2, b3, b4, b5⟩ := r2 s (by omega)
  by_cases g0 : x.1 155 s = -1
  · refine OpOK.no h0 (k := 2) (b := 0) (by decide) ?_ ?_
    · simp only [gm190, gm67_74, gm67_32, gm67_31, gm67, F1, T0, i5, xs', b2, if_pos g0, n10, n20, n21, Option.bind_some, b2i_t, b2i_f, i10, ↓reduceIte, cond_true, cond_false, kb0, kb1, kb2, s92_1, s92_0, s93_1, s93_0, s113_0, s113_1, s113_2, s113_3, aBit_b, aI01, xi0, xi1]
    · simp only [R140_39_1, R140_39_2, R140_39_3, gm140_34, gm140, F1, T0, i5, xs', b2, if_pos g0, n10, n20, n21, Option.bind_some, b2i_t, b2i_f, i10, ↓reduceIte, cond_true, cond_false, kb0, kb1, kb2, s92_1, s92_0, s93_1, s93_0, s113_0, s113_1, s113_2, s113_3, aBit_b, aI01, xi0, xi1]
  obtain ⟨b6, b7, b8, b9, b10⟩ := b5 g0
  by_cases hh : x.1 157 s = 0
  case neg =>
    refine OpOK.no h0 (k := 2) (b := 0) (by decide) ?_ ?_
    · simp only [gm190, gm67_74, gm67_32, gm67_31, gm67, F1, T0, i5, xs', b2, b8, if_neg g0, if_neg hh, n10, n20, n21, Option.bind_some, b2i_t, b2i_f, i10, ↓reduceIte, cond_true, cond_false, kb0, kb1, kb2, s92_1, s92_0, s93_1, s93_0, s113_0, s113_1, s113_2, s113_3, aBit_b, aI01, xi0, xi1]
    · simp only [R140_39_1, R140_39_2, R140_39_3, gm140_34, gm140, F1, T0, i5, xs', b2, b8, if_neg g0, if_neg hh, n10, n20, n21, Option.bind_some, b2i_t, b2i_f, i10, ↓reduceIte, cond_true, cond_false, kb0, kb1, kb2, s92_1, s92_0, s93_1, s93_0, s113_0, s113_1, s113_2, s113_3, aBit_b, aI01, xi0, xi1]
  case pos =>
  obtain ⟨r, hr, er⟩ := aIn_ex b7
  subst es
  have xs : xi (zI s) = s := xs'
  have j5 := i5
  have j4 : aIn (zI r) 4 = true := aIn_t (by omega) (by omega)
  have j20 : aIn (zI (5 * r + s)) 20 = true := aIn_t (by omega) (by omega)
  have xr : xi (zI r) = r := xi_zI (by omega)
  have xk : xi (zI (5 * r + s)) = 5 * r + s := xi_zI (by omega)
  have ix : 5 * zI r + zI s = zI (5 * r + s) := by rw [show (5 : Int32) = zI 5 from rfl, zI_mul, zI_add]
  rw [er] at b6
  have c6 := s106 hN hC hR hZ hB hD (by omega) g0 hh er hr
  have c31 := s31 hZ (zI s) (zI now)
  obtain ⟨⟨q1, q2, q3⟩, _, ⟨v1, v2, v3⟩, _⟩ := r1 r hr s (by omega)
  by_cases h0r : refM x S Z I r s (zI now) (zI (now / 60)) (x.1 155 s) = 0
  case neg =>
    have hle := (ref_pos x S Z I r s (zI now) (zI (now / 60)) (x.1 155 s)).resolve_left h0r
    have m1 := fun v : Int64 => s139 (y := wI (wJ x 187 0 v) 138 57 0) hN hC hR hZ hD (by omega) g0 hh er hr (fun a h1 h2 => by rw [wI_ne (by omega), wJ_I]) (fun j hj => by rw [wI_nj hj, wJ_I])
    generalize refM x S Z I r s (zI now) (zI (now / 60)) (x.1 155 s) = v at c6 h0r hle m1
    refine OpOK.ask h0 (b := v) v.toInt64 ?_ ?_ rfl
    · simp only [gm190, gm67_32, gm67_31, gm67, F1, i5, xs, b2, b8, if_neg g0, if_pos hh, c6, if_neg h0r, n10, n20, n21, Option.bind_some, b2i_t, b2i_f, i10, ↓reduceIte, cond_true, cond_false, kb0, kb1, kb2, s92_1, s92_0, s93_1, s93_0, s113_0, s113_1, s113_2, s113_3, aBit_b, aI01, xi0, xi1]
    · have T1 := s117 (x := wJ x 187 0 v.toInt64) (S := S) (zI s) e2 k1
      rw [p1] at T1
      have st : gm140 (zI s) (wJ x 187 0 v.toInt64) = gm140_39 (zI s) 0 (wJ x 187 0 v.toInt64) := by
        simp only [gm140_34, gm140, T1, i5, xs, wJ_I, if_neg g0, if_pos hh, n10, n20, n21, Option.bind_some, b2i_t, b2i_f, i10, ↓reduceIte, cond_true, cond_false, kb0, kb1, kb2, s92_1, s92_0, s93_1, s93_0, s113_0, s113_1, s113_2, s113_3, aBit_b, aI01, xi0, xi1]
      rw [st]
      unfold gm140_39
      rw [s113_0, Option.bind_some]
      simp only [↓reduceIte, m1, Option.bind_some, if_neg hle]
  case pos =>
  have ow : ∀ k, k < 8 → own (60 + 8 * r + k) ∈ [4, 2] := by
    intro k hk
    have : own (60 + 8 * r + k) = 2 := by
      unfold own; rw [if_neg (by omega), if_neg (by omega), if_neg (by omega), if_pos (by omega)]
    rw [this]
    decide
  have ow2 : own (93 + s) ∈ [4, 2] := by
    have : own (93 + s) = 2 := by
      unfold own; rw [if_neg (by omega), if_neg (by omega), if_neg (by omega), if_pos (by omega)]
    rw [this]
    decide
  have exs := hex s (by omega)
  rw [aIn_iff] at exs
  cases hfz : frozM x Z (zI now) (zI s) with
  | true =>
    have hne : ¬ x.1 158 s = 0 := by
      intro w
      unfold refM at h0r
      rw [hfz, decide_eq_true w, if_pos (show (true && true) = true from rfl)] at h0r
      exact absurd h0r (by decide)
    have hni : ¬ (x.1 158 s).toInt = 0 := fun w => hne ((i_eq _ _).mpr w)
    rw [hfz] at c31
    by_cases hcan : x.1 148 (5 * r + s) = -1
    ·
      have gx : gm109 (zI s) (93 + s) (wI x 99 s (x.1 158 s - 1)) = some (wJ (wJ (wJ (wJ (wI (wI x 99 s (x.1 158 s - 1)) (60 + 8 * r + 2) s (x.1 155 s)) (60 + 8 * r + 6) s 0) (60 + 8 * r + 7) s 0) (60 + 8 * r + 4) s 0) (60 + 8 * r + 5) s 0) := by
        unfold gm109 gm49 gm50
        have cx : ∀ a, ¬ a = 99 → (wI x 99 s (x.1 158 s - 1)).1 a = x.1 a := fun a ha => wI_ne ha
        have cJ : ∀ a, (wI x 99 s (x.1 158 s - 1)).2.1 a = x.2.1 a := fun a => rfl
        have y1 : (wI x 99 s (x.1 158 s - 1)).1 (93 + s) 1 = zI r := by rw [cx _ (by omega)]; exact b6
        have y0 : (wI x 99 s (x.1 158 s - 1)).1 (93 + s) 0 = x.1 155 s := by rw [cx _ (by omega)]; exact b2
        have yq : ∀ j, j < 8 → (wI x 99 s (x.1 158 s - 1)).1 (60 + 8 * r + j) = x.1 (60 + 8 * r + j) := fun j hj => cx _ (by omega)
        have y8 : (wI x 99 s (x.1 158 s - 1)).1 1 8 = zI now := n2
        generalize wI x 99 s (x.1 158 s - 1) = w at cx cJ y1 y0 yq y8
        have y2 : w.1 (60 + 8 * r + 2) s = -1 := by rw [yq 2 (by decide)]; exact q2.trans hcan
        simp only [y1, j4, cond_true, xr, xs, j5, y2, ↓reduceIte, y0, Option.bind_some]
      have hA : gm190 (zI s) x = some ((0 : Int32), wJ (wJ (wJ (wJ (wJ (wI (wI x 99 s (x.1 158 s - 1)) (60 + 8 * r + 2) s (x.1 155 s)) (60 + 8 * r + 6) s 0) (60 + 8 * r + 7) s 0) (60 + 8 * r + 4) s 0) (60 + 8 * r + 5) s 0) 187 0 (0 : Int32).toInt64) := by
        simp only [gm190, gm67_74, gm67_32, gm67_31, gm67, F1, i5, xs, b2, b8, if_neg g0, if_pos hh, c6, h0r, n2, c31, hfz, w99, j5, gx, n10, n20, n21, Option.bind_some, b2i_t, b2i_f, i10, ↓reduceIte, cond_true, cond_false, kb0, kb1, kb2, s92_1, s92_0, s93_1, s93_0, s113_0, s113_1, s113_2, s113_3, aBit_b, aI01, xi0, xi1]
      have oth : ∀ a, 139 ≤ a → a ≤ 186 → (wJ (wJ (wJ (wJ (wJ (wI (wI x 99 s (x.1 158 s - 1)) (60 + 8 * r + 2) s (x.1 155 s)) (60 + 8 * r + 6) s 0) (60 + 8 * r + 7) s 0) (60 + 8 * r + 4) s 0) (60 + 8 * r + 5) s 0) 187 0 (0 : Int32).toInt64).1 a = x.1 a := by
        intro a ha hb
        rw [wJ_I]
        show (wI (wI x 99 s (x.1 158 s - 1)) (60 + 8 * r + 2) s (x.1 155 s)).1 a = _
        rw [wI_ne (by omega), wI_ne (by omega)]
      have o138 : (wJ (wJ (wJ (wJ (wJ (wI (wI x 99 s (x.1 158 s - 1)) (60 + 8 * r + 2) s (x.1 155 s)) (60 + 8 * r + 6) s 0) (60 + 8 * r + 7) s 0) (60 + 8 * r + 4) s 0) (60 + 8 * r + 5) s 0) 187 0 (0 : Int32).toInt64).1 138 = x.1 138 := by
        rw [wJ_I]
        show (wI (wI x 99 s (x.1 158 s - 1)) (60 + 8 * r + 2) s (x.1 155 s)).1 138 = _
        rw [wI_ne (by omega), wI_ne (by omega)]
      have o0 : (wJ (wJ (wJ (wJ (wJ (wI (wI x 99 s (x.1 158 s - 1)) (60 + 8 * r + 2) s (x.1 155 s)) (60 + 8 * r + 6) s 0) (60 + 8 * r + 7) s 0) (60 + 8 * r + 4) s 0) (60 + 8 * r + 5) s 0) 187 0 (0 : Int32).toInt64).1 0 = x.1 0 := by
        rw [wJ_I]
        show (wI (wI x 99 s (x.1 158 s - 1)) (60 + 8 * r + 2) s (x.1 155 s)).1 0 = _
        rw [wI_ne (by omega), wI_ne (by omega)]
      have hM : gm140 (zI s) (wJ (wJ (wJ (wJ (wJ (wI (wI x 99 s (x.1 158 s - 1)) (60 + 8 * r + 2) s (x.1 155 s)) (60 + 8 * r + 6) s 0) (60 + 8 * r + 7) s 0) (60 + 8 * r + 4) s 0) (60 + 8 * r + 5) s 0) 187 0 (0 : Int32).toInt64) = some ((0 : Int32), wI (wI (wI (wI (wI (wI (wI (wJ (wJ (wJ (wJ (wJ (wI (wI x 99 s (x.1 158 s - 1)) (60 + 8 * r + 2) s (x.1 155 s)) (60 + 8 * r + 6) s 0) (60 + 8 * r + 7) s 0) (60 + 8 * r + 4) s 0) (60 + 8 * r + 5) s 0) 187 0 (0 : Int32).toInt64) 138 57 0) 158 s (x.1 158 s - 1)) 148 (5 * r + s) (x.1 155 s)) 151 (5 * r + s) 0) 152 (5 * r + s) 0) 153 (5 * r + s) 0) 154 (5 * r + s) 0) := by
        generalize wJ (wJ (wJ (wJ (wJ (wI (wI x 99 s (x.1 158 s - 1)) (60 + 8 * r + 2) s (x.1 155 s)) (60 + 8 * r + 6) s 0) (60 + 8 * r + 7) s 0) (60 + 8 * r + 4) s 0) (60 + 8 * r + 5) s 0) 187 0 (0 : Int32).toInt64 = y at oth o138
        have T0 := s117 (x := y) (S := S) (zI s) (by rw [o138]; exact e2) k1
        rw [p1] at T0
        have st : gm140 (zI s) y = gm140_39 (zI s) 0 y := by
          simp only [gm140_34, gm140, T0, i5, xs, oth 155 (by decide) (by decide), oth 157 (by decide) (by decide), if_neg g0, if_pos hh, n10, n20, n21, Option.bind_some, b2i_t, b2i_f, i10, ↓reduceIte, cond_true, cond_false, kb0, kb1, kb2, s92_1, s92_0, s93_1, s93_0, s113_0, s113_1, s113_2, s113_3, aBit_b, aI01, xi0, xi1]
        rw [st]
        unfold gm140_39
        rw [s113_0, Option.bind_some]
        have c0 : ∀ a, 139 ≤ a → a ≤ 186 → (wI y 138 57 0).1 a = x.1 a := fun a h1 h2 => by rw [wI_ne (by omega), oth a h1 h2]
        have c1 : ∀ j, ¬ j = 57 → (wI y 138 57 0).1 138 j = x.1 138 j := fun j hj => by rw [wI_nj hj, o138]
        have m1 := s139 hN hC hR hZ hD (by omega) g0 hh er hr c0 c1
        rw [h0r] at m1
        have m2 : gm135 (zI s) (wI y 138 57 0) = some (b2i (frozM x Z (zI now) (zI s))) := by
          rw [s135 (Z := Z) (by rw [c1 27 (by decide)]; exact z3) z1, c1 0 (by decide), n3]
          unfold frozM
          rw [c0 163 (by decide) (by decide), c0 164 (by decide) (by decide), c0 165 (by decide) (by decide)]
        rw [hfz] at m2
        have C147 := c0 147 (by decide) (by decide)
        have C148 := c0 148 (by decide) (by decide)
        have C155 := c0 155 (by decide) (by decide)
        have C156 := c0 156 (by decide) (by decide)
        have C158 := c0 158 (by decide) (by decide)
        have C0 := c1 0 (by decide)
        generalize wI y 138 57 0 = z at m1 m2 C147 C148 C155 C156 C158 C0
        have le0 : (0 : Int32) ≤ 0 := by decide
        have hne : ¬ (wI z 158 s (x.1 158 s - 1)).1 148 (5 * r + s) = x.1 155 s := by
          rw [wI_ne (by decide), C148, hcan]
          exact fun w => g0 w.symm
        simp only [gm140_91, ↓reduceIte, m1, m2, Option.bind_some, if_pos le0, j5, cond_true, xs, C156, er, ix, C158, j20, xk, b2i_t, b2i_f, i10, if_neg hne, wI_ne, not_false_eq_true, Nat.reduceEqDiff, C155]
        try simp only [if_neg (show ¬ x.1 148 (5 * r + s) = x.1 155 s from fun w => g0 (w.symm.trans hcan))]
        try simp only [C148, if_neg (show ¬ x.1 148 (5 * r + s) = x.1 155 s from fun w => g0 (w.symm.trans hcan))]
      have e : SBl [4, 2] x (wI (wI (wI (wI (wI (wI (wI (wJ (wJ (wJ (wJ (wJ (wI (wI x 99 s (x.1 158 s - 1)) (60 + 8 * r + 2) s (x.1 155 s)) (60 + 8 * r + 6) s 0) (60 + 8 * r + 7) s 0) (60 + 8 * r + 4) s 0) (60 + 8 * r + 5) s 0) 187 0 (0 : Int32).toInt64) 138 57 0) 158 s (x.1 158 s - 1)) 148 (5 * r + s) (x.1 155 s)) 151 (5 * r + s) 0) 152 (5 * r + s) 0) 153 (5 * r + s) 0) 154 (5 * r + s) 0) := by
        refine SBl.I ?_ (by decide) (Or.inl (by decide))
        refine SBl.I ?_ (by decide) (Or.inl (by decide))
        refine SBl.I ?_ (by decide) (Or.inl (by decide))
        refine SBl.I ?_ (by decide) (Or.inl (by decide))
        refine SBl.I ?_ (by decide) (Or.inl (by decide))
        refine SBl.I ?_ (by decide) (Or.inl (by decide))
        refine SBl.M ?_ (Or.inr rfl)
        refine SBl.J ?_ (Or.inr rfl)
        refine SBl.J ?_ (Or.inl (ow 5 (by decide)))
        refine SBl.J ?_ (Or.inl (ow 4 (by decide)))
        refine SBl.J ?_ (Or.inl (ow 7 (by decide)))
        refine SBl.J ?_ (Or.inl (ow 6 (by decide)))
        refine SBl.I ?_ (by omega) (Or.inl (ow 2 (by decide)))
        refine SBl.I ?_ (by decide) (Or.inl (by decide))
        exact SBl.rf _ _
      refine ⟨0, _, _, _, hA, hM, ?_, fun _ => rfl, o0, e.c 0 (by decide) (by decide) (by decide), ?_⟩
      · rw [wI_ne (by decide), wI_ne (by decide), wI_ne (by decide), wI_ne (by decide), wI_ne (by decide), wI_ne (by decide), wI_j]
      ·
        have cI : ∀ a, 139 ≤ a → a ≤ 186 → ¬ a = 158 → ¬ a = 148 → ¬ a = 151 → ¬ a = 152 → ¬ a = 153 → ¬ a = 154 → (wI (wI (wI (wI (wI (wI (wI (wJ (wJ (wJ (wJ (wJ (wI (wI x 99 s (x.1 158 s - 1)) (60 + 8 * r + 2) s (x.1 155 s)) (60 + 8 * r + 6) s 0) (60 + 8 * r + 7) s 0) (60 + 8 * r + 4) s 0) (60 + 8 * r + 5) s 0) 187 0 (0 : Int32).toInt64) 138 57 0) 158 s (x.1 158 s - 1)) 148 (5 * r + s) (x.1 155 s)) 151 (5 * r + s) 0) 152 (5 * r + s) 0) 153 (5 * r + s) 0) 154 (5 * r + s) 0).1 a = x.1 a := by
          intro a h1 h2 h3 m0 m1 m2 m3 m4
          rw [wI_ne m4, wI_ne m3, wI_ne m2, wI_ne m1, wI_ne m0, wI_ne h3, wI_ne (by omega)]
          exact oth a h1 h2
        have d148 : ∀ t, (wI (wI (wI (wI (wI (wI (wI (wJ (wJ (wJ (wJ (wJ (wI (wI x 99 s (x.1 158 s - 1)) (60 + 8 * r + 2) s (x.1 155 s)) (60 + 8 * r + 6) s 0) (60 + 8 * r + 7) s 0) (60 + 8 * r + 4) s 0) (60 + 8 * r + 5) s 0) 187 0 (0 : Int32).toInt64) 138 57 0) 158 s (x.1 158 s - 1)) 148 (5 * r + s) (x.1 155 s)) 151 (5 * r + s) 0) 152 (5 * r + s) 0) 153 (5 * r + s) 0) 154 (5 * r + s) 0).1 148 t = if t = 5 * r + s then (x.1 155 s) else x.1 148 t := by
          intro t
          rw [wI_ne (by decide), wI_ne (by decide), wI_ne (by decide), wI_ne (by decide), wI_at, wI_ne (by decide), wI_ne (by decide), oth 148 (by decide) (by decide)]
        have d151 : ∀ t, (wI (wI (wI (wI (wI (wI (wI (wJ (wJ (wJ (wJ (wJ (wI (wI x 99 s (x.1 158 s - 1)) (60 + 8 * r + 2) s (x.1 155 s)) (60 + 8 * r + 6) s 0) (60 + 8 * r + 7) s 0) (60 + 8 * r + 4) s 0) (60 + 8 * r + 5) s 0) 187 0 (0 : Int32).toInt64) 138 57 0) 158 s (x.1 158 s - 1)) 148 (5 * r + s) (x.1 155 s)) 151 (5 * r + s) 0) 152 (5 * r + s) 0) 153 (5 * r + s) 0) 154 (5 * r + s) 0).1 151 t = if t = 5 * r + s then 0 else x.1 151 t := by
          intro t
          rw [wI_ne (by decide), wI_ne (by decide), wI_ne (by decide), wI_at, wI_ne (by decide), wI_ne (by decide), wI_ne (by decide), oth 151 (by decide) (by decide)]
        have d152 : ∀ t, (wI (wI (wI (wI (wI (wI (wI (wJ (wJ (wJ (wJ (wJ (wI (wI x 99 s (x.1 158 s - 1)) (60 + 8 * r + 2) s (x.1 155 s)) (60 + 8 * r + 6) s 0) (60 + 8 * r + 7) s 0) (60 + 8 * r + 4) s 0) (60 + 8 * r + 5) s 0) 187 0 (0 : Int32).toInt64) 138 57 0) 158 s (x.1 158 s - 1)) 148 (5 * r + s) (x.1 155 s)) 151 (5 * r + s) 0) 152 (5 * r + s) 0) 153 (5 * r + s) 0) 154 (5 * r + s) 0).1 152 t = if t = 5 * r + s then 0 else x.1 152 t := by
          intro t
          rw [wI_ne (by decide), wI_ne (by decide), wI_at, wI_ne (by decide), wI_ne (by decide), wI_ne (by decide), wI_ne (by decide), oth 152 (by decide) (by decide)]
        have d153 : ∀ t, (wI (wI (wI (wI (wI (wI (wI (wJ (wJ (wJ (wJ (wJ (wI (wI x 99 s (x.1 158 s - 1)) (60 + 8 * r + 2) s (x.1 155 s)) (60 + 8 * r + 6) s 0) (60 + 8 * r + 7) s 0) (60 + 8 * r + 4) s 0) (60 + 8 * r + 5) s 0) 187 0 (0 : Int32).toInt64) 138 57 0) 158 s (x.1 158 s - 1)) 148 (5 * r + s) (x.1 155 s)) 151 (5 * r + s) 0) 152 (5 * r + s) 0) 153 (5 * r + s) 0) 154 (5 * r + s) 0).1 153 t = if t = 5 * r + s then 0 else x.1 153 t := by
          intro t
          rw [wI_ne (by decide), wI_at, wI_ne (by decide), wI_ne (by decide), wI_ne (by decide), wI_ne (by decide), wI_ne (by decide), oth 153 (by decide) (by decide)]
        have d154 : ∀ t, (wI (wI (wI (wI (wI (wI (wI (wJ (wJ (wJ (wJ (wJ (wI (wI x 99 s (x.1 158 s - 1)) (60 + 8 * r + 2) s (x.1 155 s)) (60 + 8 * r + 6) s 0) (60 + 8 * r + 7) s 0) (60 + 8 * r + 4) s 0) (60 + 8 * r + 5) s 0) 187 0 (0 : Int32).toInt64) 138 57 0) 158 s (x.1 158 s - 1)) 148 (5 * r + s) (x.1 155 s)) 151 (5 * r + s) 0) 152 (5 * r + s) 0) 153 (5 * r + s) 0) 154 (5 * r + s) 0).1 154 t = if t = 5 * r + s then 0 else x.1 154 t := by
          intro t
          rw [wI_at, wI_ne (by decide), wI_ne (by decide), wI_ne (by decide), wI_ne (by decide), wI_ne (by decide), wI_ne (by decide), oth 154 (by decide) (by decide)]
        have d158 : (wI (wI (wI (wI (wI (wI (wI (wJ (wJ (wJ (wJ (wJ (wI (wI x 99 s (x.1 158 s - 1)) (60 + 8 * r + 2) s (x.1 155 s)) (60 + 8 * r + 6) s 0) (60 + 8 * r + 7) s 0) (60 + 8 * r + 4) s 0) (60 + 8 * r + 5) s 0) 187 0 (0 : Int32).toInt64) 138 57 0) 158 s (x.1 158 s - 1)) 148 (5 * r + s) (x.1 155 s)) 151 (5 * r + s) 0) 152 (5 * r + s) 0) 153 (5 * r + s) 0) 154 (5 * r + s) 0).1 158 = fun t => if t = s then x.1 158 s - 1 else x.1 158 t := by
          funext t
          rw [wI_ne (by decide), wI_ne (by decide), wI_ne (by decide), wI_ne (by decide), wI_ne (by decide), wI_at, wI_ne (by decide), oth 158 (by decide) (by decide)]
        have cX : ∀ a, a < 138 → (wI (wI (wI (wI (wI (wI (wI (wJ (wJ (wJ (wJ (wJ (wI (wI x 99 s (x.1 158 s - 1)) (60 + 8 * r + 2) s (x.1 155 s)) (60 + 8 * r + 6) s 0) (60 + 8 * r + 7) s 0) (60 + 8 * r + 4) s 0) (60 + 8 * r + 5) s 0) 187 0 (0 : Int32).toInt64) 138 57 0) 158 s (x.1 158 s - 1)) 148 (5 * r + s) (x.1 155 s)) 151 (5 * r + s) 0) 152 (5 * r + s) 0) 153 (5 * r + s) 0) 154 (5 * r + s) 0).1 a = (wJ (wJ (wJ (wJ (wI (wI x 99 s (x.1 158 s - 1)) (60 + 8 * r + 2) s (x.1 155 s)) (60 + 8 * r + 6) s 0) (60 + 8 * r + 7) s 0) (60 + 8 * r + 4) s 0) (60 + 8 * r + 5) s 0).1 a := by
          intro a ha
          rw [wI_ne (by omega), wI_ne (by omega), wI_ne (by omega), wI_ne (by omega), wI_ne (by omega), wI_ne (by omega), wI_ne (by omega)]
          rfl
        have cJ : ∀ a, ¬ a = 187 → (wI (wI (wI (wI (wI (wI (wI (wJ (wJ (wJ (wJ (wJ (wI (wI x 99 s (x.1 158 s - 1)) (60 + 8 * r + 2) s (x.1 155 s)) (60 + 8 * r + 6) s 0) (60 + 8 * r + 7) s 0) (60 + 8 * r + 4) s 0) (60 + 8 * r + 5) s 0) 187 0 (0 : Int32).toInt64) 138 57 0) 158 s (x.1 158 s - 1)) 148 (5 * r + s) (x.1 155 s)) 151 (5 * r + s) 0) 152 (5 * r + s) 0) 153 (5 * r + s) 0) 154 (5 * r + s) 0).2.1 a = (wJ (wJ (wJ (wJ (wI (wI x 99 s (x.1 158 s - 1)) (60 + 8 * r + 2) s (x.1 155 s)) (60 + 8 * r + 6) s 0) (60 + 8 * r + 7) s 0) (60 + 8 * r + 4) s 0) (60 + 8 * r + 5) s 0).2.1 a := by
          intro a ha
          show (wJ (wJ (wJ (wJ (wJ (wI (wI x 99 s (x.1 158 s - 1)) (60 + 8 * r + 2) s (x.1 155 s)) (60 + 8 * r + 6) s 0) (60 + 8 * r + 7) s 0) (60 + 8 * r + 4) s 0) (60 + 8 * r + 5) s 0) 187 0 (0 : Int32).toInt64).2.1 a = _
          rw [wJ_ne ha]
        have xI : ∀ a, ¬ a = 99 → ¬ a = 60 + 8 * r + 2 → (wJ (wJ (wJ (wJ (wI (wI x 99 s (x.1 158 s - 1)) (60 + 8 * r + 2) s (x.1 155 s)) (60 + 8 * r + 6) s 0) (60 + 8 * r + 7) s 0) (60 + 8 * r + 4) s 0) (60 + 8 * r + 5) s 0).1 a = x.1 a := by
          intro a h9 h2
          show (wI (wI x 99 s (x.1 158 s - 1)) (60 + 8 * r + 2) s (x.1 155 s)).1 a = _
          rw [wI_ne h2, wI_ne h9]
        have xC : ∀ t, (wJ (wJ (wJ (wJ (wI (wI x 99 s (x.1 158 s - 1)) (60 + 8 * r + 2) s (x.1 155 s)) (60 + 8 * r + 6) s 0) (60 + 8 * r + 7) s 0) (60 + 8 * r + 4) s 0) (60 + 8 * r + 5) s 0).1 (60 + 8 * r + 2) t = if t = s then x.1 155 s else x.1 (60 + 8 * r + 2) t := by
          intro t
          show (wI (wI x 99 s (x.1 158 s - 1)) (60 + 8 * r + 2) s (x.1 155 s)).1 (60 + 8 * r + 2) t = _
          rw [wI_at, wI_ne (by omega)]
        have xJ : ∀ r2, r2 < 4 → ∀ k, 4 ≤ k → k < 8 → ∀ t, (wJ (wJ (wJ (wJ (wI (wI x 99 s (x.1 158 s - 1)) (60 + 8 * r + 2) s (x.1 155 s)) (60 + 8 * r + 6) s 0) (60 + 8 * r + 7) s 0) (60 + 8 * r + 4) s 0) (60 + 8 * r + 5) s 0).2.1 (60 + 8 * r2 + k) t = if r2 = r ∧ t = s then 0 else x.2.1 (60 + 8 * r2 + k) t := by
          intro r2 hr2 k hk hk8 t
          rw [wJ_rd, wJ_rd, wJ_rd, wJ_rd]
          show (if _ then _ else if _ then _ else if _ then _ else if _ then _ else x.2.1 (60 + 8 * r2 + k) t) = _
          by_cases hh : r2 = r ∧ t = s
          · rw [if_pos hh]
            repeat' split
            all_goals first | rfl | omega
          · rw [if_neg hh, if_neg (by omega), if_neg (by omega), if_neg (by omega), if_neg (by omega)]
        have x99 : (wJ (wJ (wJ (wJ (wI (wI x 99 s (x.1 158 s - 1)) (60 + 8 * r + 2) s (x.1 155 s)) (60 + 8 * r + 6) s 0) (60 + 8 * r + 7) s 0) (60 + 8 * r + 4) s 0) (60 + 8 * r + 5) s 0).1 99 = fun t => if t = s then x.1 158 s - 1 else x.1 99 t := by
          funext t
          show (wI (wI x 99 s (x.1 158 s - 1)) (60 + 8 * r + 2) s (x.1 155 s)).1 99 t = _
          rw [wI_ne (by omega), wI_at]
        obtain ⟨z, e4, e2'⟩ := e.split
        have e2' := e2'.one
        refine ⟨S, B, Z, F, U, P, I, now, (hN.fr e4 (by decide)).fr e2' (by decide), (hC.fr e4 (by decide)).fr e2' (by decide), ?_, ?_, (hB.f0 e4 (by decide)).fr e2' (by decide), (hF.fr e4 (by decide)).fr e2' (by decide), (hD.fr e4 (by decide)).fr e2' (by decide), (hP.f0 e4 (by decide)).fr e2' (by decide)⟩
        · rw [cI 140 (by decide) (by decide) (by decide) (by decide) (by decide) (by decide) (by decide) (by decide)]
          generalize wI (wI (wI (wI (wI (wI (wI (wJ (wJ (wJ (wJ (wJ (wI (wI x 99 s (x.1 158 s - 1)) (60 + 8 * r + 2) s (x.1 155 s)) (60 + 8 * r + 6) s 0) (60 + 8 * r + 7) s 0) (60 + 8 * r + 4) s 0) (60 + 8 * r + 5) s 0) 187 0 (0 : Int32).toInt64) 138 57 0) 158 s (x.1 158 s - 1)) 148 (5 * r + s) (x.1 155 s)) 151 (5 * r + s) 0) 152 (5 * r + s) 0) 153 (5 * r + s) 0) 154 (5 * r + s) 0 = y at cI d148 d151 d152 d153 d154 cX cJ
          generalize wJ (wJ (wJ (wJ (wI (wI x 99 s (x.1 158 s - 1)) (60 + 8 * r + 2) s (x.1 155 s)) (60 + 8 * r + 6) s 0) (60 + 8 * r + 7) s 0) (60 + 8 * r + 4) s 0) (60 + 8 * r + 5) s 0 = w at cX cJ xI xC xJ
          refine ⟨fun r2 hr2 s2 hs2 => ?_, fun s2 hs2 => ?_⟩
          · obtain ⟨⟨f1, f2, f3⟩, a2, ⟨o1, o2, o3⟩, t1, t2, t3, t4⟩ := r1 r2 hr2 s2 hs2
            rw [cX (60 + 8 * r2 + 1) (by omega), cX (60 + 8 * r2 + 2) (by omega), cX (60 + 8 * r2 + 3) (by omega), xI (60 + 8 * r2 + 1) (by omega) (by omega), xI (60 + 8 * r2 + 3) (by omega) (by omega), cJ (60 + 8 * r2 + 4) (by omega), cJ (60 + 8 * r2 + 5) (by omega), cJ (60 + 8 * r2 + 6) (by omega), cJ (60 + 8 * r2 + 7) (by omega), xJ r2 hr2 4 (by decide) (by decide), xJ r2 hr2 5 (by decide) (by decide), xJ r2 hr2 6 (by decide) (by decide), xJ r2 hr2 7 (by decide) (by decide), cI 147 (by decide) (by decide) (by decide) (by decide) (by decide) (by decide) (by decide) (by decide), cI 149 (by decide) (by decide) (by decide) (by decide) (by decide) (by decide) (by decide) (by decide), d148, d151, d152, d153, d154]
            by_cases hh : r2 = r ∧ s2 = s
            · obtain ⟨hr', hs'⟩ := hh
              subst hr' hs'
              have hsK : ∀ (a b : Int32), (if 5 * r2 + s2 = 5 * r2 + s2 then a else b) = a := fun a b => if_pos rfl
              have hsS : ∀ (a b : Int32), (if s2 = s2 then a else b) = a := fun a b => if_pos rfl
              have hsJ : ∀ (a b : Int64), (if r2 = r2 ∧ s2 = s2 then a else b) = a := fun a b => if_pos ⟨rfl, rfl⟩
              rw [xC]
              simp only [hsS, hsK, hsJ]
              exact ⟨⟨f1, rfl, f3⟩, ⟨rfl, rfl, rfl, rfl⟩, ⟨o1, b1, o3⟩, nB0 _, nB0 _, nB0 _, nB0 _⟩
            · have hsK : ∀ (a b : Int32), (if 5 * r2 + s2 = 5 * r + s then a else b) = b := fun a b => if_neg (by omega)
              have hsJ : ∀ (a b : Int64), (if r2 = r ∧ s2 = s then a else b) = b := fun a b => if_neg hh
              simp only [hsK, hsJ]
              refine ⟨⟨f1, ?_, f3⟩, a2, ⟨o1, o2, o3⟩, t1.up (by omega), t2.up (by omega), t3.up (by omega), t4.up (by omega)⟩
              by_cases hrr : r2 = r
              · subst hrr
                rw [xC, if_neg (fun w => hh ⟨rfl, w⟩)]
                exact f2
              · rw [xI (60 + 8 * r2 + 2) (by omega) (by omega)]
                exact f2
          · rw [cX (93 + s2) (by omega), xI (93 + s2) (by omega) (by omega), cI 150 (by decide) (by decide) (by decide) (by decide) (by decide) (by decide) (by decide) (by decide), cI 155 (by decide) (by decide) (by decide) (by decide) (by decide) (by decide) (by decide) (by decide), cI 156 (by decide) (by decide) (by decide) (by decide) (by decide) (by decide) (by decide) (by decide), cI 157 (by decide) (by decide) (by decide) (by decide) (by decide) (by decide) (by decide) (by decide)]
            obtain ⟨f1, f2, f3, f4, f5⟩ := r2 s2 hs2
            by_cases hss : s2 = s
            · subst hss
              refine ⟨f1, f2, f3, fun w => absurd w g0, fun _ => ⟨(f5 g0).1, (f5 g0).2.1, (f5 g0).2.2.1, fun r2 hr2 => ?_, (f5 g0).2.2.2.2⟩⟩
              rw [d148]
              by_cases hrr : r2 = r
              · subst hrr
                rw [if_pos rfl]
                exact Or.inr ⟨hh, er, rfl⟩
              · rw [if_neg (by omega)]
                exact (f5 g0).2.2.2.1 r2 hr2
            · refine ⟨f1, f2, f3, fun w r2 hr2 => ?_, fun w => ⟨(f5 w).1, (f5 w).2.1, (f5 w).2.2.1, fun r2 hr2 => ?_, (f5 w).2.2.2.2⟩⟩
              · rw [d148, if_neg (by omega)]
                exact f4 w r2 hr2
              · rw [d148, if_neg (by omega)]
                exact (f5 w).2.2.2.1 r2 hr2
        · rw [IFrz]
          refine ⟨z1, ?_, ?_, ?_⟩
          · rw [cX 98 (by decide), xI 98 (by decide) (by omega)]
            refine ⟨z2, ?_⟩
            rw [wI_ne (by decide), wI_ne (by decide), wI_ne (by decide), wI_ne (by decide), wI_ne (by decide), wI_ne (by decide), wI_nj (by decide), o138]
            exact z3
          · rw [cX 100 (by decide), cX 101 (by decide), cX 102 (by decide), cX 99 (by decide), x99, d158, xI 100 (by decide) (by omega), xI 101 (by decide) (by omega), xI 102 (by decide) (by omega), cI 163 (by decide) (by decide) (by decide) (by decide) (by decide) (by decide) (by decide) (by decide), cI 164 (by decide) (by decide) (by decide) (by decide) (by decide) (by decide) (by decide) (by decide), cI 165 (by decide) (by decide) (by decide) (by decide) (by decide) (by decide) (by decide) (by decide)]
            refine ⟨w100, w101, w102, ?_⟩
            funext t
            rw [w99]
          · intro t ht
            rw [d158]
            show aIn (if t = s then x.1 158 s - 1 else x.1 158 t) 10 = true
            by_cases hts : t = s
            · rw [if_pos hts, aIn_iff, i_sub] <;> rw [show (1 : Int32).toInt = 1 from rfl] <;> omega
            · rw [if_neg hts]; exact hex t ht
    · have hcb : x.1 148 (5 * r + s) = x.1 155 s := ((b9 r hr).resolve_left hcan).2.2
      by_cases h3 : r = 3
      · have h4 : zI (r + 1) = 4 := by rw [h3]; rfl
        have gx : gm109 (zI s) (93 + s) (wI x 99 s (x.1 158 s - 1)) = some (wI (wI (wI (wI (wI (wI x 99 s (x.1 158 s - 1)) (60 + 8 * r + 3) s (x.1 147 (5 * r + s))) (60 + 8 * r + 1) s (x.1 148 (5 * r + s))) (60 + 8 * r + 2) s (-1)) (93 + s) 2 (zI now)) (93 + s) 0 (-1)) := by
          unfold gm109 gm49 gm50
          have cx : ∀ a, ¬ a = 99 → (wI x 99 s (x.1 158 s - 1)).1 a = x.1 a := fun a ha => wI_ne ha
          have cJ : ∀ a, (wI x 99 s (x.1 158 s - 1)).2.1 a = x.2.1 a := fun a => rfl
          have y1 : (wI x 99 s (x.1 158 s - 1)).1 (93 + s) 1 = zI r := by rw [cx _ (by omega)]; exact b6
          have y0 : (wI x 99 s (x.1 158 s - 1)).1 (93 + s) 0 = x.1 155 s := by rw [cx _ (by omega)]; exact b2
          have yq : ∀ j, j < 8 → (wI x 99 s (x.1 158 s - 1)).1 (60 + 8 * r + j) = x.1 (60 + 8 * r + j) := fun j hj => cx _ (by omega)
          have y8 : (wI x 99 s (x.1 158 s - 1)).1 1 8 = zI now := n2
          generalize wI x 99 s (x.1 158 s - 1) = w at cx cJ y1 y0 yq y8
          have y2 : ¬ w.1 (60 + 8 * r + 2) s = -1 := by rw [yq 2 (by decide), q2]; exact hcan
          have u1 : w.1 (60 + 8 * r + 1) s = x.1 147 (5 * r + s) := by rw [yq 1 (by decide)]; exact q1
          have u2 : (wI w (60 + 8 * r + 3) s (x.1 147 (5 * r + s))).1 (60 + 8 * r + 2) s = x.1 148 (5 * r + s) := by rw [wI_ne (by omega), yq 2 (by decide)]; exact q2
          have u3 : (wI (wI (wI w (60 + 8 * r + 3) s (x.1 147 (5 * r + s))) (60 + 8 * r + 1) s (x.1 148 (5 * r + s))) (60 + 8 * r + 2) s (-1)).1 1 8 = zI now := by rw [wI_ne (by omega), wI_ne (by omega), wI_ne (by omega)]; exact y8
          have u4 : (wI (wI (wI (wI w (60 + 8 * r + 3) s (x.1 147 (5 * r + s))) (60 + 8 * r + 1) s (x.1 148 (5 * r + s))) (60 + 8 * r + 2) s (-1)) (93 + s) 2 (zI now)).1 (93 + s) 1 = zI r := by rw [wI_nj (by decide), wI_ne (by omega), wI_ne (by omega), wI_ne (by omega)]; exact y1
          have hr3 : zI r = 3 := by rw [h3]; rfl
          simp only [y1, j4, cond_true, xr, xs, j5, if_neg y2, u1, u2, u3, u4, if_pos hr3, Option.bind_some]
        have hA : gm190 (zI s) x = some ((0 : Int32), wJ (wI (wI (wI (wI (wI (wI x 99 s (x.1 158 s - 1)) (60 + 8 * r + 3) s (x.1 147 (5 * r + s))) (60 + 8 * r + 1) s (x.1 148 (5 * r + s))) (60 + 8 * r + 2) s (-1)) (93 + s) 2 (zI now)) (93 + s) 0 (-1)) 187 0 (0 : Int32).toInt64) := by
          simp only [gm190, gm67_74, gm67_32, gm67_31, gm67, F1, i5, xs, b2, b8, if_neg g0, if_pos hh, c6, h0r, n2, c31, hfz, w99, j5, gx, n10, n20, n21, Option.bind_some, b2i_t, b2i_f, i10, ↓reduceIte, cond_true, cond_false, kb0, kb1, kb2, s92_1, s92_0, s93_1, s93_0, s113_0, s113_1, s113_2, s113_3, aBit_b, aI01, xi0, xi1]
        have oth : ∀ a, 139 ≤ a → a ≤ 186 → (wJ (wI (wI (wI (wI (wI (wI x 99 s (x.1 158 s - 1)) (60 + 8 * r + 3) s (x.1 147 (5 * r + s))) (60 + 8 * r + 1) s (x.1 148 (5 * r + s))) (60 + 8 * r + 2) s (-1)) (93 + s) 2 (zI now)) (93 + s) 0 (-1)) 187 0 (0 : Int32).toInt64).1 a = x.1 a := by
          intro a ha hb
          rw [wJ_I]
          rw [wI_ne (by omega), wI_ne (by omega), wI_ne (by omega), wI_ne (by omega), wI_ne (by omega), wI_ne (by omega)]
        have o138 : (wJ (wI (wI (wI (wI (wI (wI x 99 s (x.1 158 s - 1)) (60 + 8 * r + 3) s (x.1 147 (5 * r + s))) (60 + 8 * r + 1) s (x.1 148 (5 * r + s))) (60 + 8 * r + 2) s (-1)) (93 + s) 2 (zI now)) (93 + s) 0 (-1)) 187 0 (0 : Int32).toInt64).1 138 = x.1 138 := by
          rw [wJ_I]
          rw [wI_ne (by omega), wI_ne (by omega), wI_ne (by omega), wI_ne (by omega), wI_ne (by omega), wI_ne (by omega)]
        have o0 : (wJ (wI (wI (wI (wI (wI (wI x 99 s (x.1 158 s - 1)) (60 + 8 * r + 3) s (x.1 147 (5 * r + s))) (60 + 8 * r + 1) s (x.1 148 (5 * r + s))) (60 + 8 * r + 2) s (-1)) (93 + s) 2 (zI now)) (93 + s) 0 (-1)) 187 0 (0 : Int32).toInt64).1 0 = x.1 0 := by
          rw [wJ_I]
          rw [wI_ne (by omega), wI_ne (by omega), wI_ne (by omega), wI_ne (by omega), wI_ne (by omega), wI_ne (by omega)]
        have hM : gm140 (zI s) (wJ (wI (wI (wI (wI (wI (wI x 99 s (x.1 158 s - 1)) (60 + 8 * r + 3) s (x.1 147 (5 * r + s))) (60 + 8 * r + 1) s (x.1 148 (5 * r + s))) (60 + 8 * r + 2) s (-1)) (93 + s) 2 (zI now)) (93 + s) 0 (-1)) 187 0 (0 : Int32).toInt64) = some ((0 : Int32), wI (wI (wI (wI (wI (wI (wI (wI (wJ (wI (wI (wI (wI (wI (wI x 99 s (x.1 158 s - 1)) (60 + 8 * r + 3) s (x.1 147 (5 * r + s))) (60 + 8 * r + 1) s (x.1 148 (5 * r + s))) (60 + 8 * r + 2) s (-1)) (93 + s) 2 (zI now)) (93 + s) 0 (-1)) 187 0 (0 : Int32).toInt64) 138 57 0) 158 s (x.1 158 s - 1)) 149 (5 * r + s) (x.1 147 (5 * r + s))) 147 (5 * r + s) (x.1 155 s)) 148 (5 * r + s) (-1)) 150 (5 * r + s) (zI now)) 156 s (zI (r + 1))) 155 s (-1)) := by
          generalize wJ (wI (wI (wI (wI (wI (wI x 99 s (x.1 158 s - 1)) (60 + 8 * r + 3) s (x.1 147 (5 * r + s))) (60 + 8 * r + 1) s (x.1 148 (5 * r + s))) (60 + 8 * r + 2) s (-1)) (93 + s) 2 (zI now)) (93 + s) 0 (-1)) 187 0 (0 : Int32).toInt64 = y at oth o138
          have T0 := s117 (x := y) (S := S) (zI s) (by rw [o138]; exact e2) k1
          rw [p1] at T0
          have st : gm140 (zI s) y = gm140_39 (zI s) 0 y := by
            simp only [gm140_34, gm140, T0, i5, xs, oth 155 (by decide) (by decide), oth 157 (by decide) (by decide), if_neg g0, if_pos hh, n10, n20, n21, Option.bind_some, b2i_t, b2i_f, i10, ↓reduceIte, cond_true, cond_false, kb0, kb1, kb2, s92_1, s92_0, s93_1, s93_0, s113_0, s113_1, s113_2, s113_3, aBit_b, aI01, xi0, xi1]
          rw [st]
          unfold gm140_39
          rw [s113_0, Option.bind_some]
          have c0 : ∀ a, 139 ≤ a → a ≤ 186 → (wI y 138 57 0).1 a = x.1 a := fun a h1 h2 => by rw [wI_ne (by omega), oth a h1 h2]
          have c1 : ∀ j, ¬ j = 57 → (wI y 138 57 0).1 138 j = x.1 138 j := fun j hj => by rw [wI_nj hj, o138]
          have m1 := s139 hN hC hR hZ hD (by omega) g0 hh er hr c0 c1
          rw [h0r] at m1
          have m2 : gm135 (zI s) (wI y 138 57 0) = some (b2i (frozM x Z (zI now) (zI s))) := by
            rw [s135 (Z := Z) (by rw [c1 27 (by decide)]; exact z3) z1, c1 0 (by decide), n3]
            unfold frozM
            rw [c0 163 (by decide) (by decide), c0 164 (by decide) (by decide), c0 165 (by decide) (by decide)]
          rw [hfz] at m2
          have C147 := c0 147 (by decide) (by decide)
          have C148 := c0 148 (by decide) (by decide)
          have C155 := c0 155 (by decide) (by decide)
          have C156 := c0 156 (by decide) (by decide)
          have C158 := c0 158 (by decide) (by decide)
          have C0 := c1 0 (by decide)
          generalize wI y 138 57 0 = z at m1 m2 C147 C148 C155 C156 C158 C0
          have le0 : (0 : Int32) ≤ 0 := by decide
          have heq : x.1 148 (5 * r + s) = x.1 155 s := hcb
          simp only [gm140_91, gm140_190, ↓reduceIte, m1, m2, Option.bind_some, if_pos le0, j5, cond_true, xs, C156, er, ix, C158, j20, xk, b2i_t, b2i_f, i10, wI_ne, not_false_eq_true, Nat.reduceEqDiff, C155, C148, C147, C0, n3, if_pos heq, wI_j, zI_succ, if_pos h4]
        have e : SBl [4, 2] x (wI (wI (wI (wI (wI (wI (wI (wI (wJ (wI (wI (wI (wI (wI (wI x 99 s (x.1 158 s - 1)) (60 + 8 * r + 3) s (x.1 147 (5 * r + s))) (60 + 8 * r + 1) s (x.1 148 (5 * r + s))) (60 + 8 * r + 2) s (-1)) (93 + s) 2 (zI now)) (93 + s) 0 (-1)) 187 0 (0 : Int32).toInt64) 138 57 0) 158 s (x.1 158 s - 1)) 149 (5 * r + s) (x.1 147 (5 * r + s))) 147 (5 * r + s) (x.1 155 s)) 148 (5 * r + s) (-1)) 150 (5 * r + s) (zI now)) 156 s (zI (r + 1))) 155 s (-1)) := by
          refine SBl.I ?_ (by decide) (Or.inl (by decide))
          refine SBl.I ?_ (by decide) (Or.inl (by decide))
          refine SBl.I ?_ (by decide) (Or.inl (by decide))
          refine SBl.I ?_ (by decide) (Or.inl (by decide))
          refine SBl.I ?_ (by decide) (Or.inl (by decide))
          refine SBl.I ?_ (by decide) (Or.inl (by decide))
          refine SBl.I ?_ (by decide) (Or.inl (by decide))
          refine SBl.M ?_ (Or.inr rfl)
          refine SBl.J ?_ (Or.inr rfl)
          refine SBl.I ?_ (by omega) (Or.inl ow2)
          refine SBl.I ?_ (by omega) (Or.inl ow2)
          refine SBl.I ?_ (by omega) (Or.inl (ow 2 (by decide)))
          refine SBl.I ?_ (by omega) (Or.inl (ow 1 (by decide)))
          refine SBl.I ?_ (by omega) (Or.inl (ow 3 (by decide)))
          refine SBl.I ?_ (by decide) (Or.inl (by decide))
          exact SBl.rf _ _
        refine ⟨0, _, _, _, hA, hM, ?_, fun _ => rfl, o0, e.c 0 (by decide) (by decide) (by decide), ?_⟩
        · rw [wI_ne (by decide), wI_ne (by decide), wI_ne (by decide), wI_ne (by decide), wI_ne (by decide), wI_ne (by decide), wI_ne (by decide), wI_j]
        ·
          have cI : ∀ a, 139 ≤ a → a ≤ 186 → ¬ a = 158 → ¬ a = 149 → ¬ a = 147 → ¬ a = 148 → ¬ a = 150 → ¬ a = 156 → ¬ a = 155 → (wI (wI (wI (wI (wI (wI (wI (wI (wJ (wI (wI (wI (wI (wI (wI x 99 s (x.1 158 s - 1)) (60 + 8 * r + 3) s (x.1 147 (5 * r + s))) (60 + 8 * r + 1) s (x.1 148 (5 * r + s))) (60 + 8 * r + 2) s (-1)) (93 + s) 2 (zI now)) (93 + s) 0 (-1)) 187 0 (0 : Int32).toInt64) 138 57 0) 158 s (x.1 158 s - 1)) 149 (5 * r + s) (x.1 147 (5 * r + s))) 147 (5 * r + s) (x.1 155 s)) 148 (5 * r + s) (-1)) 150 (5 * r + s) (zI now)) 156 s (zI (r + 1))) 155 s (-1)).1 a = x.1 a := by
            intro a h1 h2 h3 m0 m1 m2 m3 m4 m5
            rw [wI_ne m5, wI_ne m4, wI_ne m3, wI_ne m2, wI_ne m1, wI_ne m0, wI_ne h3, wI_ne (by omega)]
            exact oth a h1 h2
          have d149 : ∀ t, (wI (wI (wI (wI (wI (wI (wI (wI (wJ (wI (wI (wI (wI (wI (wI x 99 s (x.1 158 s - 1)) (60 + 8 * r + 3) s (x.1 147 (5 * r + s))) (60 + 8 * r + 1) s (x.1 148 (5 * r + s))) (60 + 8 * r + 2) s (-1)) (93 + s) 2 (zI now)) (93 + s) 0 (-1)) 187 0 (0 : Int32).toInt64) 138 57 0) 158 s (x.1 158 s - 1)) 149 (5 * r + s) (x.1 147 (5 * r + s))) 147 (5 * r + s) (x.1 155 s)) 148 (5 * r + s) (-1)) 150 (5 * r + s) (zI now)) 156 s (zI (r + 1))) 155 s (-1)).1 149 t = if t = 5 * r + s then x.1 147 (5 * r + s) else x.1 149 t := by
            intro t
            rw [wI_ne (by decide), wI_ne (by decide), wI_ne (by decide), wI_ne (by decide), wI_ne (by decide), wI_at, wI_ne (by decide), wI_ne (by decide), oth 149 (by decide) (by decide)]
          have d147 : ∀ t, (wI (wI (wI (wI (wI (wI (wI (wI (wJ (wI (wI (wI (wI (wI (wI x 99 s (x.1 158 s - 1)) (60 + 8 * r + 3) s (x.1 147 (5 * r + s))) (60 + 8 * r + 1) s (x.1 148 (5 * r + s))) (60 + 8 * r + 2) s (-1)) (93 + s) 2 (zI now)) (93 + s) 0 (-1)) 187 0 (0 : Int32).toInt64) 138 57 0) 158 s (x.1 158 s - 1)) 149 (5 * r + s) (x.1 147 (5 * r + s))) 147 (5 * r + s) (x.1 155 s)) 148 (5 * r + s) (-1)) 150 (5 * r + s) (zI now)) 156 s (zI (r + 1))) 155 s (-1)).1 147 t = if t = 5 * r + s then (x.1 155 s) else x.1 147 t := by
            intro t
            rw [wI_ne (by decide), wI_ne (by decide), wI_ne (by decide), wI_ne (by decide), wI_at, wI_ne (by decide), wI_ne (by decide), wI_ne (by decide), oth 147 (by decide) (by decide)]
          have d148 : ∀ t, (wI (wI (wI (wI (wI (wI (wI (wI (wJ (wI (wI (wI (wI (wI (wI x 99 s (x.1 158 s - 1)) (60 + 8 * r + 3) s (x.1 147 (5 * r + s))) (60 + 8 * r + 1) s (x.1 148 (5 * r + s))) (60 + 8 * r + 2) s (-1)) (93 + s) 2 (zI now)) (93 + s) 0 (-1)) 187 0 (0 : Int32).toInt64) 138 57 0) 158 s (x.1 158 s - 1)) 149 (5 * r + s) (x.1 147 (5 * r + s))) 147 (5 * r + s) (x.1 155 s)) 148 (5 * r + s) (-1)) 150 (5 * r + s) (zI now)) 156 s (zI (r + 1))) 155 s (-1)).1 148 t = if t = 5 * r + s then (-1) else x.1 148 t := by
            intro t
            rw [wI_ne (by decide), wI_ne (by decide), wI_ne (by decide), wI_at, wI_ne (by decide), wI_ne (by decide), wI_ne (by decide), wI_ne (by decide), oth 148 (by decide) (by decide)]
          have d150 : ∀ t, (wI (wI (wI (wI (wI (wI (wI (wI (wJ (wI (wI (wI (wI (wI (wI x 99 s (x.1 158 s - 1)) (60 + 8 * r + 3) s (x.1 147 (5 * r + s))) (60 + 8 * r + 1) s (x.1 148 (5 * r + s))) (60 + 8 * r + 2) s (-1)) (93 + s) 2 (zI now)) (93 + s) 0 (-1)) 187 0 (0 : Int32).toInt64) 138 57 0) 158 s (x.1 158 s - 1)) 149 (5 * r + s) (x.1 147 (5 * r + s))) 147 (5 * r + s) (x.1 155 s)) 148 (5 * r + s) (-1)) 150 (5 * r + s) (zI now)) 156 s (zI (r + 1))) 155 s (-1)).1 150 t = if t = 5 * r + s then zI now else x.1 150 t := by
            intro t
            rw [wI_ne (by decide), wI_ne (by decide), wI_at, wI_ne (by decide), wI_ne (by decide), wI_ne (by decide), wI_ne (by decide), wI_ne (by decide), oth 150 (by decide) (by decide)]
          have d156 : ∀ t, (wI (wI (wI (wI (wI (wI (wI (wI (wJ (wI (wI (wI (wI (wI (wI x 99 s (x.1 158 s - 1)) (60 + 8 * r + 3) s (x.1 147 (5 * r + s))) (60 + 8 * r + 1) s (x.1 148 (5 * r + s))) (60 + 8 * r + 2) s (-1)) (93 + s) 2 (zI now)) (93 + s) 0 (-1)) 187 0 (0 : Int32).toInt64) 138 57 0) 158 s (x.1 158 s - 1)) 149 (5 * r + s) (x.1 147 (5 * r + s))) 147 (5 * r + s) (x.1 155 s)) 148 (5 * r + s) (-1)) 150 (5 * r + s) (zI now)) 156 s (zI (r + 1))) 155 s (-1)).1 156 t = if t = s then zI (r + 1) else x.1 156 t := by
            intro t
            rw [wI_ne (by decide), wI_at, wI_ne (by decide), wI_ne (by decide), wI_ne (by decide), wI_ne (by decide), wI_ne (by decide), wI_ne (by decide), oth 156 (by decide) (by decide)]
          have d155 : ∀ t, (wI (wI (wI (wI (wI (wI (wI (wI (wJ (wI (wI (wI (wI (wI (wI x 99 s (x.1 158 s - 1)) (60 + 8 * r + 3) s (x.1 147 (5 * r + s))) (60 + 8 * r + 1) s (x.1 148 (5 * r + s))) (60 + 8 * r + 2) s (-1)) (93 + s) 2 (zI now)) (93 + s) 0 (-1)) 187 0 (0 : Int32).toInt64) 138 57 0) 158 s (x.1 158 s - 1)) 149 (5 * r + s) (x.1 147 (5 * r + s))) 147 (5 * r + s) (x.1 155 s)) 148 (5 * r + s) (-1)) 150 (5 * r + s) (zI now)) 156 s (zI (r + 1))) 155 s (-1)).1 155 t = if t = s then (-1) else x.1 155 t := by
            intro t
            rw [wI_at, wI_ne (by decide), wI_ne (by decide), wI_ne (by decide), wI_ne (by decide), wI_ne (by decide), wI_ne (by decide), wI_ne (by decide), oth 155 (by decide) (by decide)]
          have d158 : (wI (wI (wI (wI (wI (wI (wI (wI (wJ (wI (wI (wI (wI (wI (wI x 99 s (x.1 158 s - 1)) (60 + 8 * r + 3) s (x.1 147 (5 * r + s))) (60 + 8 * r + 1) s (x.1 148 (5 * r + s))) (60 + 8 * r + 2) s (-1)) (93 + s) 2 (zI now)) (93 + s) 0 (-1)) 187 0 (0 : Int32).toInt64) 138 57 0) 158 s (x.1 158 s - 1)) 149 (5 * r + s) (x.1 147 (5 * r + s))) 147 (5 * r + s) (x.1 155 s)) 148 (5 * r + s) (-1)) 150 (5 * r + s) (zI now)) 156 s (zI (r + 1))) 155 s (-1)).1 158 = fun t => if t = s then x.1 158 s - 1 else x.1 158 t := by
            funext t
            rw [wI_ne (by decide), wI_ne (by decide), wI_ne (by decide), wI_ne (by decide), wI_ne (by decide), wI_ne (by decide), wI_at, wI_ne (by decide), oth 158 (by decide) (by decide)]
          have cX : ∀ a, a < 138 → (wI (wI (wI (wI (wI (wI (wI (wI (wJ (wI (wI (wI (wI (wI (wI x 99 s (x.1 158 s - 1)) (60 + 8 * r + 3) s (x.1 147 (5 * r + s))) (60 + 8 * r + 1) s (x.1 148 (5 * r + s))) (60 + 8 * r + 2) s (-1)) (93 + s) 2 (zI now)) (93 + s) 0 (-1)) 187 0 (0 : Int32).toInt64) 138 57 0) 158 s (x.1 158 s - 1)) 149 (5 * r + s) (x.1 147 (5 * r + s))) 147 (5 * r + s) (x.1 155 s)) 148 (5 * r + s) (-1)) 150 (5 * r + s) (zI now)) 156 s (zI (r + 1))) 155 s (-1)).1 a = (wI (wI (wI (wI (wI (wI x 99 s (x.1 158 s - 1)) (60 + 8 * r + 3) s (x.1 147 (5 * r + s))) (60 + 8 * r + 1) s (x.1 148 (5 * r + s))) (60 + 8 * r + 2) s (-1)) (93 + s) 2 (zI now)) (93 + s) 0 (-1)).1 a := by
            intro a ha
            rw [wI_ne (by omega), wI_ne (by omega), wI_ne (by omega), wI_ne (by omega), wI_ne (by omega), wI_ne (by omega), wI_ne (by omega), wI_ne (by omega)]
            rfl
          have cJ : ∀ a, ¬ a = 187 → (wI (wI (wI (wI (wI (wI (wI (wI (wJ (wI (wI (wI (wI (wI (wI x 99 s (x.1 158 s - 1)) (60 + 8 * r + 3) s (x.1 147 (5 * r + s))) (60 + 8 * r + 1) s (x.1 148 (5 * r + s))) (60 + 8 * r + 2) s (-1)) (93 + s) 2 (zI now)) (93 + s) 0 (-1)) 187 0 (0 : Int32).toInt64) 138 57 0) 158 s (x.1 158 s - 1)) 149 (5 * r + s) (x.1 147 (5 * r + s))) 147 (5 * r + s) (x.1 155 s)) 148 (5 * r + s) (-1)) 150 (5 * r + s) (zI now)) 156 s (zI (r + 1))) 155 s (-1)).2.1 a = (wI (wI (wI (wI (wI (wI x 99 s (x.1 158 s - 1)) (60 + 8 * r + 3) s (x.1 147 (5 * r + s))) (60 + 8 * r + 1) s (x.1 148 (5 * r + s))) (60 + 8 * r + 2) s (-1)) (93 + s) 2 (zI now)) (93 + s) 0 (-1)).2.1 a := by
            intro a ha
            show (wJ (wI (wI (wI (wI (wI (wI x 99 s (x.1 158 s - 1)) (60 + 8 * r + 3) s (x.1 147 (5 * r + s))) (60 + 8 * r + 1) s (x.1 148 (5 * r + s))) (60 + 8 * r + 2) s (-1)) (93 + s) 2 (zI now)) (93 + s) 0 (-1)) 187 0 (0 : Int32).toInt64).2.1 a = _
            rw [wJ_ne ha]
          have xI : ∀ a, ¬ a = 99 → (a < 60 + 8 * r + 1 ∨ 60 + 8 * r + 3 < a) → ¬ a = 93 + s → (wI (wI (wI (wI (wI (wI x 99 s (x.1 158 s - 1)) (60 + 8 * r + 3) s (x.1 147 (5 * r + s))) (60 + 8 * r + 1) s (x.1 148 (5 * r + s))) (60 + 8 * r + 2) s (-1)) (93 + s) 2 (zI now)) (93 + s) 0 (-1)).1 a = x.1 a := by
            intro a h9 h2 h3
            rw [wI_ne h3, wI_ne h3, wI_ne (by omega), wI_ne (by omega), wI_ne (by omega), wI_ne h9]
          have x1 : ∀ t, (wI (wI (wI (wI (wI (wI x 99 s (x.1 158 s - 1)) (60 + 8 * r + 3) s (x.1 147 (5 * r + s))) (60 + 8 * r + 1) s (x.1 148 (5 * r + s))) (60 + 8 * r + 2) s (-1)) (93 + s) 2 (zI now)) (93 + s) 0 (-1)).1 (60 + 8 * r + 1) t = if t = s then x.1 148 (5 * r + s) else x.1 (60 + 8 * r + 1) t := by
            intro t
            rw [wI_ne (by omega), wI_ne (by omega), wI_ne (by omega), wI_at, wI_ne (by omega), wI_ne (by omega)]
          have x2 : ∀ t, (wI (wI (wI (wI (wI (wI x 99 s (x.1 158 s - 1)) (60 + 8 * r + 3) s (x.1 147 (5 * r + s))) (60 + 8 * r + 1) s (x.1 148 (5 * r + s))) (60 + 8 * r + 2) s (-1)) (93 + s) 2 (zI now)) (93 + s) 0 (-1)).1 (60 + 8 * r + 2) t = if t = s then -1 else x.1 (60 + 8 * r + 2) t := by
            intro t
            rw [wI_ne (by omega), wI_ne (by omega), wI_at, wI_ne (by omega), wI_ne (by omega), wI_ne (by omega)]
          have x3 : ∀ t, (wI (wI (wI (wI (wI (wI x 99 s (x.1 158 s - 1)) (60 + 8 * r + 3) s (x.1 147 (5 * r + s))) (60 + 8 * r + 1) s (x.1 148 (5 * r + s))) (60 + 8 * r + 2) s (-1)) (93 + s) 2 (zI now)) (93 + s) 0 (-1)).1 (60 + 8 * r + 3) t = if t = s then x.1 147 (5 * r + s) else x.1 (60 + 8 * r + 3) t := by
            intro t
            rw [wI_ne (by omega), wI_ne (by omega), wI_ne (by omega), wI_ne (by omega), wI_at, wI_ne (by omega)]
          have x9 : ∀ t, (wI (wI (wI (wI (wI (wI x 99 s (x.1 158 s - 1)) (60 + 8 * r + 3) s (x.1 147 (5 * r + s))) (60 + 8 * r + 1) s (x.1 148 (5 * r + s))) (60 + 8 * r + 2) s (-1)) (93 + s) 2 (zI now)) (93 + s) 0 (-1)).1 (93 + s) t = if t = 0 then -1 else if t = 2 then zI now else x.1 (93 + s) t := by
            intro t
            rw [wI_at, wI_at, wI_ne (by omega), wI_ne (by omega), wI_ne (by omega), wI_ne (by omega)]
          have x99 : (wI (wI (wI (wI (wI (wI x 99 s (x.1 158 s - 1)) (60 + 8 * r + 3) s (x.1 147 (5 * r + s))) (60 + 8 * r + 1) s (x.1 148 (5 * r + s))) (60 + 8 * r + 2) s (-1)) (93 + s) 2 (zI now)) (93 + s) 0 (-1)).1 99 = fun t => if t = s then x.1 158 s - 1 else x.1 99 t := by
            funext t
            rw [wI_ne (by omega), wI_ne (by omega), wI_ne (by omega), wI_ne (by omega), wI_ne (by omega), wI_at]
          have JX : ∀ a, (wI (wI (wI (wI (wI (wI x 99 s (x.1 158 s - 1)) (60 + 8 * r + 3) s (x.1 147 (5 * r + s))) (60 + 8 * r + 1) s (x.1 148 (5 * r + s))) (60 + 8 * r + 2) s (-1)) (93 + s) 2 (zI now)) (93 + s) 0 (-1)).2.1 a = x.2.1 a := fun _ => rfl
          obtain ⟨z, e4, e2'⟩ := e.split
          have e2' := e2'.one
          refine ⟨S, B, Z, F, U, P, I, now, (hN.fr e4 (by decide)).fr e2' (by decide), (hC.fr e4 (by decide)).fr e2' (by decide), ?_, ?_, (hB.f0 e4 (by decide)).fr e2' (by decide), (hF.fr e4 (by decide)).fr e2' (by decide), (hD.fr e4 (by decide)).fr e2' (by decide), (hP.f0 e4 (by decide)).fr e2' (by decide)⟩
          · rw [cI 140 (by decide) (by decide) (by decide) (by decide) (by decide) (by decide) (by decide) (by decide) (by decide)]
            generalize wI (wI (wI (wI (wI (wI (wI (wI (wJ (wI (wI (wI (wI (wI (wI x 99 s (x.1 158 s - 1)) (60 + 8 * r + 3) s (x.1 147 (5 * r + s))) (60 + 8 * r + 1) s (x.1 148 (5 * r + s))) (60 + 8 * r + 2) s (-1)) (93 + s) 2 (zI now)) (93 + s) 0 (-1)) 187 0 (0 : Int32).toInt64) 138 57 0) 158 s (x.1 158 s - 1)) 149 (5 * r + s) (x.1 147 (5 * r + s))) 147 (5 * r + s) (x.1 155 s)) 148 (5 * r + s) (-1)) 150 (5 * r + s) (zI now)) 156 s (zI (r + 1))) 155 s (-1) = y at cI d149 d147 d148 d150 d156 d155 cX cJ
            generalize wI (wI (wI (wI (wI (wI x 99 s (x.1 158 s - 1)) (60 + 8 * r + 3) s (x.1 147 (5 * r + s))) (60 + 8 * r + 1) s (x.1 148 (5 * r + s))) (60 + 8 * r + 2) s (-1)) (93 + s) 2 (zI now)) (93 + s) 0 (-1) = w at cX cJ xI x1 x2 x3 x9 JX
            refine ⟨fun r2 hr2 s2 hs2 => ?_, fun s2 hs2 => ?_⟩
            · obtain ⟨⟨f1, f2, f3⟩, a2, ⟨o1, o2, o3⟩, t1, t2, t3, t4⟩ := r1 r2 hr2 s2 hs2
              have hJ : ∀ k, k < 8 → y.2.1 (60 + 8 * r2 + k) = x.2.1 (60 + 8 * r2 + k) := fun k hk => by rw [cJ (60 + 8 * r2 + k) (by omega)]; exact (JX _)
              rw [cX (60 + 8 * r2 + 1) (by omega), cX (60 + 8 * r2 + 2) (by omega), cX (60 + 8 * r2 + 3) (by omega), hJ 4 (by decide), hJ 5 (by decide), hJ 6 (by decide), hJ 7 (by decide), cI 151 (by decide) (by decide) (by decide) (by decide) (by decide) (by decide) (by decide) (by decide) (by decide), cI 152 (by decide) (by decide) (by decide) (by decide) (by decide) (by decide) (by decide) (by decide) (by decide), cI 153 (by decide) (by decide) (by decide) (by decide) (by decide) (by decide) (by decide) (by decide) (by decide), cI 154 (by decide) (by decide) (by decide) (by decide) (by decide) (by decide) (by decide) (by decide) (by decide), d147, d148, d149]
              by_cases hrr : r2 = r
              · subst hrr
                rw [x1, x2, x3]
                by_cases hss : s2 = s
                · subst hss
                  have hs1 : ∀ (a b : Int32), (if s2 = s2 then a else b) = a := fun a b => if_pos rfl
                  rw [hs1, hs1, hs1, if_pos rfl, if_pos rfl, if_pos rfl]
                  exact ⟨⟨hcb, rfl, rfl⟩, a2, ⟨b1, Or.inl rfl, o1⟩, t1.up (by omega), t2.up (by omega), t3.up (by omega), t4.up (by omega)⟩
                · have hsK : ∀ (a b : Int32), (if 5 * r2 + s2 = 5 * r2 + s then a else b) = b := fun a b => if_neg (by omega)
                  have hsS : ∀ (a b : Int32), (if s2 = s then a else b) = b := fun a b => if_neg hss
                  simp only [hsK, hsS]
                  exact ⟨⟨f1, f2, f3⟩, a2, ⟨o1, o2, o3⟩, t1.up (by omega), t2.up (by omega), t3.up (by omega), t4.up (by omega)⟩
              · rw [xI (60 + 8 * r2 + 1) (by omega) (by omega) (by omega), xI (60 + 8 * r2 + 2) (by omega) (by omega) (by omega), xI (60 + 8 * r2 + 3) (by omega) (by omega) (by omega)]
                have hsK : ∀ (a b : Int32), (if 5 * r2 + s2 = 5 * r + s then a else b) = b := fun a b => if_neg (by omega)
                simp only [hsK]
                exact ⟨⟨f1, f2, f3⟩, a2, ⟨o1, o2, o3⟩, t1.up (by omega), t2.up (by omega), t3.up (by omega), t4.up (by omega)⟩
            · obtain ⟨f1, f2, f3, f4, f5⟩ := r2 s2 hs2
              rw [cX (93 + s2) (by omega), cI 157 (by decide) (by decide) (by decide) (by decide) (by decide) (by decide) (by decide) (by decide) (by decide), d155, d156]
              by_cases hss : s2 = s
              · subst hss
                have hs1 : ∀ (a b : Int32), (if s2 = s2 then a else b) = a := fun a b => if_pos rfl
                rw [x9, x9, x9, x9, hs1, hs1]
                have all : ∀ r2, r2 < 4 → y.1 148 (5 * r2 + s2) = -1 := by
                  intro r2 hr2
                  rw [d148]
                  by_cases hrr : r2 = r
                  · rw [if_pos (by omega)]
                  · rw [if_neg (by omega)]
                    rcases (f5 g0).2.2.2.1 r2 hr2 with w | ⟨_, w, _⟩
                    · exact w
                    · rw [er, zI_inj (by omega) (by omega)] at w
                      omega
                exact ⟨Or.inl rfl, rfl, f3, fun _ => all, fun w => absurd rfl w⟩
              · rw [xI (93 + s2) (by omega) (by omega) (by omega), if_neg hss, if_neg hss]
                refine ⟨f1, f2, f3, fun w r2 hr2 => ?_, fun w => ⟨(f5 w).1, (f5 w).2.1, (f5 w).2.2.1, fun r2 hr2 => ?_, fun w1 w2 => ?_⟩⟩
                · rw [d148, if_neg (by omega)]
                  exact f4 w r2 hr2
                · rw [d148, if_neg (by omega)]
                  exact (f5 w).2.2.2.1 r2 hr2
                · rw [d150, if_neg (by omega)]
                  exact (f5 w).2.2.2.2 w1 w2
          · rw [IFrz]
            refine ⟨z1, ?_, ?_, ?_⟩
            · rw [cX 98 (by decide), xI 98 (by decide) (by omega) (by omega)]
              refine ⟨z2, ?_⟩
              rw [wI_ne (by decide), wI_ne (by decide), wI_ne (by decide), wI_ne (by decide), wI_ne (by decide), wI_ne (by decide), wI_ne (by decide), wI_nj (by decide), o138]
              exact z3
            · rw [cX 100 (by decide), cX 101 (by decide), cX 102 (by decide), cX 99 (by decide), x99, d158, xI 100 (by decide) (by omega) (by omega), xI 101 (by decide) (by omega) (by omega), xI 102 (by decide) (by omega) (by omega), cI 163 (by decide) (by decide) (by decide) (by decide) (by decide) (by decide) (by decide) (by decide) (by decide), cI 164 (by decide) (by decide) (by decide) (by decide) (by decide) (by decide) (by decide) (by decide) (by decide), cI 165 (by decide) (by decide) (by decide) (by decide) (by decide) (by decide) (by decide) (by decide) (by decide)]
              refine ⟨w100, w101, w102, ?_⟩
              funext t
              rw [w99]
            · intro t ht
              rw [d158]
              show aIn (if t = s then x.1 158 s - 1 else x.1 158 t) 10 = true
              by_cases hts : t = s
              · rw [if_pos hts, aIn_iff, i_sub] <;> rw [show (1 : Int32).toInt = 1 from rfl] <;> omega
              · rw [if_neg hts]; exact hex t ht
      · have h4 : ¬ zI (r + 1) = 4 := by rw [show (4 : Int32) = zI 4 from rfl, zI_inj (by omega) (by omega)]; omega
        have gx : gm109 (zI s) (93 + s) (wI x 99 s (x.1 158 s - 1)) = some (wI (wI (wI (wI (wI (wI x 99 s (x.1 158 s - 1)) (60 + 8 * r + 3) s (x.1 147 (5 * r + s))) (60 + 8 * r + 1) s (x.1 148 (5 * r + s))) (60 + 8 * r + 2) s (-1)) (93 + s) 2 (zI now)) (93 + s) 1 (zI (r + 1))) := by
          unfold gm109 gm49 gm50
          have cx : ∀ a, ¬ a = 99 → (wI x 99 s (x.1 158 s - 1)).1 a = x.1 a := fun a ha => wI_ne ha
          have cJ : ∀ a, (wI x 99 s (x.1 158 s - 1)).2.1 a = x.2.1 a := fun a => rfl
          have y1 : (wI x 99 s (x.1 158 s - 1)).1 (93 + s) 1 = zI r := by rw [cx _ (by omega)]; exact b6
          have y0 : (wI x 99 s (x.1 158 s - 1)).1 (93 + s) 0 = x.1 155 s := by rw [cx _ (by omega)]; exact b2
          have yq : ∀ j, j < 8 → (wI x 99 s (x.1 158 s - 1)).1 (60 + 8 * r + j) = x.1 (60 + 8 * r + j) := fun j hj => cx _ (by omega)
          have y8 : (wI x 99 s (x.1 158 s - 1)).1 1 8 = zI now := n2
          generalize wI x 99 s (x.1 158 s - 1) = w at cx cJ y1 y0 yq y8
          have y2 : ¬ w.1 (60 + 8 * r + 2) s = -1 := by rw [yq 2 (by decide), q2]; exact hcan
          have u1 : w.1 (60 + 8 * r + 1) s = x.1 147 (5 * r + s) := by rw [yq 1 (by decide)]; exact q1
          have u2 : (wI w (60 + 8 * r + 3) s (x.1 147 (5 * r + s))).1 (60 + 8 * r + 2) s = x.1 148 (5 * r + s) := by rw [wI_ne (by omega), yq 2 (by decide)]; exact q2
          have u3 : (wI (wI (wI w (60 + 8 * r + 3) s (x.1 147 (5 * r + s))) (60 + 8 * r + 1) s (x.1 148 (5 * r + s))) (60 + 8 * r + 2) s (-1)).1 1 8 = zI now := by rw [wI_ne (by omega), wI_ne (by omega), wI_ne (by omega)]; exact y8
          have u4 : (wI (wI (wI (wI w (60 + 8 * r + 3) s (x.1 147 (5 * r + s))) (60 + 8 * r + 1) s (x.1 148 (5 * r + s))) (60 + 8 * r + 2) s (-1)) (93 + s) 2 (zI now)).1 (93 + s) 1 = zI r := by rw [wI_nj (by decide), wI_ne (by omega), wI_ne (by omega), wI_ne (by omega)]; exact y1
          have hr3 : ¬ zI r = 3 := by rw [show (3 : Int32) = zI 3 from rfl, zI_inj (by omega) (by omega)]; exact h3
          simp only [y1, j4, cond_true, xr, xs, j5, if_neg y2, u1, u2, u3, u4, if_neg hr3, zI_succ, Option.bind_some]
        have hA : gm190 (zI s) x = some ((0 : Int32), wJ (wI (wI (wI (wI (wI (wI x 99 s (x.1 158 s - 1)) (60 + 8 * r + 3) s (x.1 147 (5 * r + s))) (60 + 8 * r + 1) s (x.1 148 (5 * r + s))) (60 + 8 * r + 2) s (-1)) (93 + s) 2 (zI now)) (93 + s) 1 (zI (r + 1))) 187 0 (0 : Int32).toInt64) := by
          simp only [gm190, gm67_74, gm67_32, gm67_31, gm67, F1, i5, xs, b2, b8, if_neg g0, if_pos hh, c6, h0r, n2, c31, hfz, w99, j5, gx, n10, n20, n21, Option.bind_some, b2i_t, b2i_f, i10, ↓reduceIte, cond_true, cond_false, kb0, kb1, kb2, s92_1, s92_0, s93_1, s93_0, s113_0, s113_1, s113_2, s113_3, aBit_b, aI01, xi0, xi1]
        have oth : ∀ a, 139 ≤ a → a ≤ 186 → (wJ (wI (wI (wI (wI (wI (wI x 99 s (x.1 158 s - 1)) (60 + 8 * r + 3) s (x.1 147 (5 * r + s))) (60 + 8 * r + 1) s (x.1 148 (5 * r + s))) (60 + 8 * r + 2) s (-1)) (93 + s) 2 (zI now)) (93 + s) 1 (zI (r + 1))) 187 0 (0 : Int32).toInt64).1 a = x.1 a := by
          intro a ha hb
          rw [wJ_I]
          rw [wI_ne (by omega), wI_ne (by omega), wI_ne (by omega), wI_ne (by omega), wI_ne (by omega), wI_ne (by omega)]
        have o138 : (wJ (wI (wI (wI (wI (wI (wI x 99 s (x.1 158 s - 1)) (60 + 8 * r + 3) s (x.1 147 (5 * r + s))) (60 + 8 * r + 1) s (x.1 148 (5 * r + s))) (60 + 8 * r + 2) s (-1)) (93 + s) 2 (zI now)) (93 + s) 1 (zI (r + 1))) 187 0 (0 : Int32).toInt64).1 138 = x.1 138 := by
          rw [wJ_I]
          rw [wI_ne (by omega), wI_ne (by omega), wI_ne (by omega), wI_ne (by omega), wI_ne (by omega), wI_ne (by omega)]
        have o0 : (wJ (wI (wI (wI (wI (wI (wI x 99 s (x.1 158 s - 1)) (60 + 8 * r + 3) s (x.1 147 (5 * r + s))) (60 + 8 * r + 1) s (x.1 148 (5 * r + s))) (60 + 8 * r + 2) s (-1)) (93 + s) 2 (zI now)) (93 + s) 1 (zI (r + 1))) 187 0 (0 : Int32).toInt64).1 0 = x.1 0 := by
          rw [wJ_I]
          rw [wI_ne (by omega), wI_ne (by omega), wI_ne (by omega), wI_ne (by omega), wI_ne (by omega), wI_ne (by omega)]
        have hM : gm140 (zI s) (wJ (wI (wI (wI (wI (wI (wI x 99 s (x.1 158 s - 1)) (60 + 8 * r + 3) s (x.1 147 (5 * r + s))) (60 + 8 * r + 1) s (x.1 148 (5 * r + s))) (60 + 8 * r + 2) s (-1)) (93 + s) 2 (zI now)) (93 + s) 1 (zI (r + 1))) 187 0 (0 : Int32).toInt64) = some ((0 : Int32), wI (wI (wI (wI (wI (wI (wI (wI (wJ (wI (wI (wI (wI (wI (wI x 99 s (x.1 158 s - 1)) (60 + 8 * r + 3) s (x.1 147 (5 * r + s))) (60 + 8 * r + 1) s (x.1 148 (5 * r + s))) (60 + 8 * r + 2) s (-1)) (93 + s) 2 (zI now)) (93 + s) 1 (zI (r + 1))) 187 0 (0 : Int32).toInt64) 138 57 0) 158 s (x.1 158 s - 1)) 149 (5 * r + s) (x.1 147 (5 * r + s))) 147 (5 * r + s) (x.1 155 s)) 148 (5 * r + s) (-1)) 150 (5 * r + s) (zI now)) 156 s (zI (r + 1))) 155 s (x.1 155 s)) := by
          generalize wJ (wI (wI (wI (wI (wI (wI x 99 s (x.1 158 s - 1)) (60 + 8 * r + 3) s (x.1 147 (5 * r + s))) (60 + 8 * r + 1) s (x.1 148 (5 * r + s))) (60 + 8 * r + 2) s (-1)) (93 + s) 2 (zI now)) (93 + s) 1 (zI (r + 1))) 187 0 (0 : Int32).toInt64 = y at oth o138
          have T0 := s117 (x := y) (S := S) (zI s) (by rw [o138]; exact e2) k1
          rw [p1] at T0
          have st : gm140 (zI s) y = gm140_39 (zI s) 0 y := by
            simp only [gm140_34, gm140, T0, i5, xs, oth 155 (by decide) (by decide), oth 157 (by decide) (by decide), if_neg g0, if_pos hh, n10, n20, n21, Option.bind_some, b2i_t, b2i_f, i10, ↓reduceIte, cond_true, cond_false, kb0, kb1, kb2, s92_1, s92_0, s93_1, s93_0, s113_0, s113_1, s113_2, s113_3, aBit_b, aI01, xi0, xi1]
          rw [st]
          unfold gm140_39
          rw [s113_0, Option.bind_some]
          have c0 : ∀ a, 139 ≤ a → a ≤ 186 → (wI y 138 57 0).1 a = x.1 a := fun a h1 h2 => by rw [wI_ne (by omega), oth a h1 h2]
          have c1 : ∀ j, ¬ j = 57 → (wI y 138 57 0).1 138 j = x.1 138 j := fun j hj => by rw [wI_nj hj, o138]
          have m1 := s139 hN hC hR hZ hD (by omega) g0 hh er hr c0 c1
          rw [h0r] at m1
          have m2 : gm135 (zI s) (wI y 138 57 0) = some (b2i (frozM x Z (zI now) (zI s))) := by
            rw [s135 (Z := Z) (by rw [c1 27 (by decide)]; exact z3) z1, c1 0 (by decide), n3]
            unfold frozM
            rw [c0 163 (by decide) (by decide), c0 164 (by decide) (by decide), c0 165 (by decide) (by decide)]
          rw [hfz] at m2
          have C147 := c0 147 (by decide) (by decide)
          have C148 := c0 148 (by decide) (by decide)
          have C155 := c0 155 (by decide) (by decide)
          have C156 := c0 156 (by decide) (by decide)
          have C158 := c0 158 (by decide) (by decide)
          have C0 := c1 0 (by decide)
          generalize wI y 138 57 0 = z at m1 m2 C147 C148 C155 C156 C158 C0
          have le0 : (0 : Int32) ≤ 0 := by decide
          have heq : x.1 148 (5 * r + s) = x.1 155 s := hcb
          simp only [gm140_91, gm140_190, ↓reduceIte, m1, m2, Option.bind_some, if_pos le0, j5, cond_true, xs, C156, er, ix, C158, j20, xk, b2i_t, b2i_f, i10, wI_ne, not_false_eq_true, Nat.reduceEqDiff, C155, C148, C147, C0, n3, if_pos heq, wI_j, zI_succ, if_neg h4]
        have e : SBl [4, 2] x (wI (wI (wI (wI (wI (wI (wI (wI (wJ (wI (wI (wI (wI (wI (wI x 99 s (x.1 158 s - 1)) (60 + 8 * r + 3) s (x.1 147 (5 * r + s))) (60 + 8 * r + 1) s (x.1 148 (5 * r + s))) (60 + 8 * r + 2) s (-1)) (93 + s) 2 (zI now)) (93 + s) 1 (zI (r + 1))) 187 0 (0 : Int32).toInt64) 138 57 0) 158 s (x.1 158 s - 1)) 149 (5 * r + s) (x.1 147 (5 * r + s))) 147 (5 * r + s) (x.1 155 s)) 148 (5 * r + s) (-1)) 150 (5 * r + s) (zI now)) 156 s (zI (r + 1))) 155 s (x.1 155 s)) := by
          refine SBl.I ?_ (by decide) (Or.inl (by decide))
          refine SBl.I ?_ (by decide) (Or.inl (by decide))
          refine SBl.I ?_ (by decide) (Or.inl (by decide))
          refine SBl.I ?_ (by decide) (Or.inl (by decide))
          refine SBl.I ?_ (by decide) (Or.inl (by decide))
          refine SBl.I ?_ (by decide) (Or.inl (by decide))
          refine SBl.I ?_ (by decide) (Or.inl (by decide))
          refine SBl.M ?_ (Or.inr rfl)
          refine SBl.J ?_ (Or.inr rfl)
          refine SBl.I ?_ (by omega) (Or.inl ow2)
          refine SBl.I ?_ (by omega) (Or.inl ow2)
          refine SBl.I ?_ (by omega) (Or.inl (ow 2 (by decide)))
          refine SBl.I ?_ (by omega) (Or.inl (ow 1 (by decide)))
          refine SBl.I ?_ (by omega) (Or.inl (ow 3 (by decide)))
          refine SBl.I ?_ (by decide) (Or.inl (by decide))
          exact SBl.rf _ _
        refine ⟨0, _, _, _, hA, hM, ?_, fun _ => rfl, o0, e.c 0 (by decide) (by decide) (by decide), ?_⟩
        · rw [wI_ne (by decide), wI_ne (by decide), wI_ne (by decide), wI_ne (by decide), wI_ne (by decide), wI_ne (by decide), wI_ne (by decide), wI_j]
        ·
          have cI : ∀ a, 139 ≤ a → a ≤ 186 → ¬ a = 158 → ¬ a = 149 → ¬ a = 147 → ¬ a = 148 → ¬ a = 150 → ¬ a = 156 → ¬ a = 155 → (wI (wI (wI (wI (wI (wI (wI (wI (wJ (wI (wI (wI (wI (wI (wI x 99 s (x.1 158 s - 1)) (60 + 8 * r + 3) s (x.1 147 (5 * r + s))) (60 + 8 * r + 1) s (x.1 148 (5 * r + s))) (60 + 8 * r + 2) s (-1)) (93 + s) 2 (zI now)) (93 + s) 1 (zI (r + 1))) 187 0 (0 : Int32).toInt64) 138 57 0) 158 s (x.1 158 s - 1)) 149 (5 * r + s) (x.1 147 (5 * r + s))) 147 (5 * r + s) (x.1 155 s)) 148 (5 * r + s) (-1)) 150 (5 * r + s) (zI now)) 156 s (zI (r + 1))) 155 s (x.1 155 s)).1 a = x.1 a := by
            intro a h1 h2 h3 m0 m1 m2 m3 m4 m5
            rw [wI_ne m5, wI_ne m4, wI_ne m3, wI_ne m2, wI_ne m1, wI_ne m0, wI_ne h3, wI_ne (by omega)]
            exact oth a h1 h2
          have d149 : ∀ t, (wI (wI (wI (wI (wI (wI (wI (wI (wJ (wI (wI (wI (wI (wI (wI x 99 s (x.1 158 s - 1)) (60 + 8 * r + 3) s (x.1 147 (5 * r + s))) (60 + 8 * r + 1) s (x.1 148 (5 * r + s))) (60 + 8 * r + 2) s (-1)) (93 + s) 2 (zI now)) (93 + s) 1 (zI (r + 1))) 187 0 (0 : Int32).toInt64) 138 57 0) 158 s (x.1 158 s - 1)) 149 (5 * r + s) (x.1 147 (5 * r + s))) 147 (5 * r + s) (x.1 155 s)) 148 (5 * r + s) (-1)) 150 (5 * r + s) (zI now)) 156 s (zI (r + 1))) 155 s (x.1 155 s)).1 149 t = if t = 5 * r + s then x.1 147 (5 * r + s) else x.1 149 t := by
            intro t
            rw [wI_ne (by decide), wI_ne (by decide), wI_ne (by decide), wI_ne (by decide), wI_ne (by decide), wI_at, wI_ne (by decide), wI_ne (by decide), oth 149 (by decide) (by decide)]
          have d147 : ∀ t, (wI (wI (wI (wI (wI (wI (wI (wI (wJ (wI (wI (wI (wI (wI (wI x 99 s (x.1 158 s - 1)) (60 + 8 * r + 3) s (x.1 147 (5 * r + s))) (60 + 8 * r + 1) s (x.1 148 (5 * r + s))) (60 + 8 * r + 2) s (-1)) (93 + s) 2 (zI now)) (93 + s) 1 (zI (r + 1))) 187 0 (0 : Int32).toInt64) 138 57 0) 158 s (x.1 158 s - 1)) 149 (5 * r + s) (x.1 147 (5 * r + s))) 147 (5 * r + s) (x.1 155 s)) 148 (5 * r + s) (-1)) 150 (5 * r + s) (zI now)) 156 s (zI (r + 1))) 155 s (x.1 155 s)).1 147 t = if t = 5 * r + s then (x.1 155 s) else x.1 147 t := by
            intro t
            rw [wI_ne (by decide), wI_ne (by decide), wI_ne (by decide), wI_ne (by decide), wI_at, wI_ne (by decide), wI_ne (by decide), wI_ne (by decide), oth 147 (by decide) (by decide)]
          have d148 : ∀ t, (wI (wI (wI (wI (wI (wI (wI (wI (wJ (wI (wI (wI (wI (wI (wI x 99 s (x.1 158 s - 1)) (60 + 8 * r + 3) s (x.1 147 (5 * r + s))) (60 + 8 * r + 1) s (x.1 148 (5 * r + s))) (60 + 8 * r + 2) s (-1)) (93 + s) 2 (zI now)) (93 + s) 1 (zI (r + 1))) 187 0 (0 : Int32).toInt64) 138 57 0) 158 s (x.1 158 s - 1)) 149 (5 * r + s) (x.1 147 (5 * r + s))) 147 (5 * r + s) (x.1 155 s)) 148 (5 * r + s) (-1)) 150 (5 * r + s) (zI now)) 156 s (zI (r + 1))) 155 s (x.1 155 s)).1 148 t = if t = 5 * r + s then (-1) else x.1 148 t := by
            intro t
            rw [wI_ne (by decide), wI_ne (by decide), wI_ne (by decide), wI_at, wI_ne (by decide), wI_ne (by decide), wI_ne (by decide), wI_ne (by decide), oth 148 (by decide) (by decide)]
          have d150 : ∀ t, (wI (wI (wI (wI (wI (wI (wI (wI (wJ (wI (wI (wI (wI (wI (wI x 99 s (x.1 158 s - 1)) (60 + 8 * r + 3) s (x.1 147 (5 * r + s))) (60 + 8 * r + 1) s (x.1 148 (5 * r + s))) (60 + 8 * r + 2) s (-1)) (93 + s) 2 (zI now)) (93 + s) 1 (zI (r + 1))) 187 0 (0 : Int32).toInt64) 138 57 0) 158 s (x.1 158 s - 1)) 149 (5 * r + s) (x.1 147 (5 * r + s))) 147 (5 * r + s) (x.1 155 s)) 148 (5 * r + s) (-1)) 150 (5 * r + s) (zI now)) 156 s (zI (r + 1))) 155 s (x.1 155 s)).1 150 t = if t = 5 * r + s then zI now else x.1 150 t := by
            intro t
            rw [wI_ne (by decide), wI_ne (by decide), wI_at, wI_ne (by decide), wI_ne (by decide), wI_ne (by decide), wI_ne (by decide), wI_ne (by decide), oth 150 (by decide) (by decide)]
          have d156 : ∀ t, (wI (wI (wI (wI (wI (wI (wI (wI (wJ (wI (wI (wI (wI (wI (wI x 99 s (x.1 158 s - 1)) (60 + 8 * r + 3) s (x.1 147 (5 * r + s))) (60 + 8 * r + 1) s (x.1 148 (5 * r + s))) (60 + 8 * r + 2) s (-1)) (93 + s) 2 (zI now)) (93 + s) 1 (zI (r + 1))) 187 0 (0 : Int32).toInt64) 138 57 0) 158 s (x.1 158 s - 1)) 149 (5 * r + s) (x.1 147 (5 * r + s))) 147 (5 * r + s) (x.1 155 s)) 148 (5 * r + s) (-1)) 150 (5 * r + s) (zI now)) 156 s (zI (r + 1))) 155 s (x.1 155 s)).1 156 t = if t = s then zI (r + 1) else x.1 156 t := by
            intro t
            rw [wI_ne (by decide), wI_at, wI_ne (by decide), wI_ne (by decide), wI_ne (by decide), wI_ne (by decide), wI_ne (by decide), wI_ne (by decide), oth 156 (by decide) (by decide)]
          have d155 : ∀ t, (wI (wI (wI (wI (wI (wI (wI (wI (wJ (wI (wI (wI (wI (wI (wI x 99 s (x.1 158 s - 1)) (60 + 8 * r + 3) s (x.1 147 (5 * r + s))) (60 + 8 * r + 1) s (x.1 148 (5 * r + s))) (60 + 8 * r + 2) s (-1)) (93 + s) 2 (zI now)) (93 + s) 1 (zI (r + 1))) 187 0 (0 : Int32).toInt64) 138 57 0) 158 s (x.1 158 s - 1)) 149 (5 * r + s) (x.1 147 (5 * r + s))) 147 (5 * r + s) (x.1 155 s)) 148 (5 * r + s) (-1)) 150 (5 * r + s) (zI now)) 156 s (zI (r + 1))) 155 s (x.1 155 s)).1 155 t = if t = s then (x.1 155 s) else x.1 155 t := by
            intro t
            rw [wI_at, wI_ne (by decide), wI_ne (by decide), wI_ne (by decide), wI_ne (by decide), wI_ne (by decide), wI_ne (by decide), wI_ne (by decide), oth 155 (by decide) (by decide)]
          have d158 : (wI (wI (wI (wI (wI (wI (wI (wI (wJ (wI (wI (wI (wI (wI (wI x 99 s (x.1 158 s - 1)) (60 + 8 * r + 3) s (x.1 147 (5 * r + s))) (60 + 8 * r + 1) s (x.1 148 (5 * r + s))) (60 + 8 * r + 2) s (-1)) (93 + s) 2 (zI now)) (93 + s) 1 (zI (r + 1))) 187 0 (0 : Int32).toInt64) 138 57 0) 158 s (x.1 158 s - 1)) 149 (5 * r + s) (x.1 147 (5 * r + s))) 147 (5 * r + s) (x.1 155 s)) 148 (5 * r + s) (-1)) 150 (5 * r + s) (zI now)) 156 s (zI (r + 1))) 155 s (x.1 155 s)).1 158 = fun t => if t = s then x.1 158 s - 1 else x.1 158 t := by
            funext t
            rw [wI_ne (by decide), wI_ne (by decide), wI_ne (by decide), wI_ne (by decide), wI_ne (by decide), wI_ne (by decide), wI_at, wI_ne (by decide), oth 158 (by decide) (by decide)]
          have cX : ∀ a, a < 138 → (wI (wI (wI (wI (wI (wI (wI (wI (wJ (wI (wI (wI (wI (wI (wI x 99 s (x.1 158 s - 1)) (60 + 8 * r + 3) s (x.1 147 (5 * r + s))) (60 + 8 * r + 1) s (x.1 148 (5 * r + s))) (60 + 8 * r + 2) s (-1)) (93 + s) 2 (zI now)) (93 + s) 1 (zI (r + 1))) 187 0 (0 : Int32).toInt64) 138 57 0) 158 s (x.1 158 s - 1)) 149 (5 * r + s) (x.1 147 (5 * r + s))) 147 (5 * r + s) (x.1 155 s)) 148 (5 * r + s) (-1)) 150 (5 * r + s) (zI now)) 156 s (zI (r + 1))) 155 s (x.1 155 s)).1 a = (wI (wI (wI (wI (wI (wI x 99 s (x.1 158 s - 1)) (60 + 8 * r + 3) s (x.1 147 (5 * r + s))) (60 + 8 * r + 1) s (x.1 148 (5 * r + s))) (60 + 8 * r + 2) s (-1)) (93 + s) 2 (zI now)) (93 + s) 1 (zI (r + 1))).1 a := by
            intro a ha
            rw [wI_ne (by omega), wI_ne (by omega), wI_ne (by omega), wI_ne (by omega), wI_ne (by omega), wI_ne (by omega), wI_ne (by omega), wI_ne (by omega)]
            rfl
          have cJ : ∀ a, ¬ a = 187 → (wI (wI (wI (wI (wI (wI (wI (wI (wJ (wI (wI (wI (wI (wI (wI x 99 s (x.1 158 s - 1)) (60 + 8 * r + 3) s (x.1 147 (5 * r + s))) (60 + 8 * r + 1) s (x.1 148 (5 * r + s))) (60 + 8 * r + 2) s (-1)) (93 + s) 2 (zI now)) (93 + s) 1 (zI (r + 1))) 187 0 (0 : Int32).toInt64) 138 57 0) 158 s (x.1 158 s - 1)) 149 (5 * r + s) (x.1 147 (5 * r + s))) 147 (5 * r + s) (x.1 155 s)) 148 (5 * r + s) (-1)) 150 (5 * r + s) (zI now)) 156 s (zI (r + 1))) 155 s (x.1 155 s)).2.1 a = (wI (wI (wI (wI (wI (wI x 99 s (x.1 158 s - 1)) (60 + 8 * r + 3) s (x.1 147 (5 * r + s))) (60 + 8 * r + 1) s (x.1 148 (5 * r + s))) (60 + 8 * r + 2) s (-1)) (93 + s) 2 (zI now)) (93 + s) 1 (zI (r + 1))).2.1 a := by
            intro a ha
            show (wJ (wI (wI (wI (wI (wI (wI x 99 s (x.1 158 s - 1)) (60 + 8 * r + 3) s (x.1 147 (5 * r + s))) (60 + 8 * r + 1) s (x.1 148 (5 * r + s))) (60 + 8 * r + 2) s (-1)) (93 + s) 2 (zI now)) (93 + s) 1 (zI (r + 1))) 187 0 (0 : Int32).toInt64).2.1 a = _
            rw [wJ_ne ha]
          have xI : ∀ a, ¬ a = 99 → (a < 60 + 8 * r + 1 ∨ 60 + 8 * r + 3 < a) → ¬ a = 93 + s → (wI (wI (wI (wI (wI (wI x 99 s (x.1 158 s - 1)) (60 + 8 * r + 3) s (x.1 147 (5 * r + s))) (60 + 8 * r + 1) s (x.1 148 (5 * r + s))) (60 + 8 * r + 2) s (-1)) (93 + s) 2 (zI now)) (93 + s) 1 (zI (r + 1))).1 a = x.1 a := by
            intro a h9 h2 h3
            rw [wI_ne h3, wI_ne h3, wI_ne (by omega), wI_ne (by omega), wI_ne (by omega), wI_ne h9]
          have x1 : ∀ t, (wI (wI (wI (wI (wI (wI x 99 s (x.1 158 s - 1)) (60 + 8 * r + 3) s (x.1 147 (5 * r + s))) (60 + 8 * r + 1) s (x.1 148 (5 * r + s))) (60 + 8 * r + 2) s (-1)) (93 + s) 2 (zI now)) (93 + s) 1 (zI (r + 1))).1 (60 + 8 * r + 1) t = if t = s then x.1 148 (5 * r + s) else x.1 (60 + 8 * r + 1) t := by
            intro t
            rw [wI_ne (by omega), wI_ne (by omega), wI_ne (by omega), wI_at, wI_ne (by omega), wI_ne (by omega)]
          have x2 : ∀ t, (wI (wI (wI (wI (wI (wI x 99 s (x.1 158 s - 1)) (60 + 8 * r + 3) s (x.1 147 (5 * r + s))) (60 + 8 * r + 1) s (x.1 148 (5 * r + s))) (60 + 8 * r + 2) s (-1)) (93 + s) 2 (zI now)) (93 + s) 1 (zI (r + 1))).1 (60 + 8 * r + 2) t = if t = s then -1 else x.1 (60 + 8 * r + 2) t := by
            intro t
            rw [wI_ne (by omega), wI_ne (by omega), wI_at, wI_ne (by omega), wI_ne (by omega), wI_ne (by omega)]
          have x3 : ∀ t, (wI (wI (wI (wI (wI (wI x 99 s (x.1 158 s - 1)) (60 + 8 * r + 3) s (x.1 147 (5 * r + s))) (60 + 8 * r + 1) s (x.1 148 (5 * r + s))) (60 + 8 * r + 2) s (-1)) (93 + s) 2 (zI now)) (93 + s) 1 (zI (r + 1))).1 (60 + 8 * r + 3) t = if t = s then x.1 147 (5 * r + s) else x.1 (60 + 8 * r + 3) t := by
            intro t
            rw [wI_ne (by omega), wI_ne (by omega), wI_ne (by omega), wI_ne (by omega), wI_at, wI_ne (by omega)]
          have x9 : ∀ t, (wI (wI (wI (wI (wI (wI x 99 s (x.1 158 s - 1)) (60 + 8 * r + 3) s (x.1 147 (5 * r + s))) (60 + 8 * r + 1) s (x.1 148 (5 * r + s))) (60 + 8 * r + 2) s (-1)) (93 + s) 2 (zI now)) (93 + s) 1 (zI (r + 1))).1 (93 + s) t = if t = 1 then zI (r + 1) else if t = 2 then zI now else x.1 (93 + s) t := by
            intro t
            rw [wI_at, wI_at, wI_ne (by omega), wI_ne (by omega), wI_ne (by omega), wI_ne (by omega)]
          have x99 : (wI (wI (wI (wI (wI (wI x 99 s (x.1 158 s - 1)) (60 + 8 * r + 3) s (x.1 147 (5 * r + s))) (60 + 8 * r + 1) s (x.1 148 (5 * r + s))) (60 + 8 * r + 2) s (-1)) (93 + s) 2 (zI now)) (93 + s) 1 (zI (r + 1))).1 99 = fun t => if t = s then x.1 158 s - 1 else x.1 99 t := by
            funext t
            rw [wI_ne (by omega), wI_ne (by omega), wI_ne (by omega), wI_ne (by omega), wI_ne (by omega), wI_at]
          have JX : ∀ a, (wI (wI (wI (wI (wI (wI x 99 s (x.1 158 s - 1)) (60 + 8 * r + 3) s (x.1 147 (5 * r + s))) (60 + 8 * r + 1) s (x.1 148 (5 * r + s))) (60 + 8 * r + 2) s (-1)) (93 + s) 2 (zI now)) (93 + s) 1 (zI (r + 1))).2.1 a = x.2.1 a := fun _ => rfl
          obtain ⟨z, e4, e2'⟩ := e.split
          have e2' := e2'.one
          refine ⟨S, B, Z, F, U, P, I, now, (hN.fr e4 (by decide)).fr e2' (by decide), (hC.fr e4 (by decide)).fr e2' (by decide), ?_, ?_, (hB.f0 e4 (by decide)).fr e2' (by decide), (hF.fr e4 (by decide)).fr e2' (by decide), (hD.fr e4 (by decide)).fr e2' (by decide), (hP.f0 e4 (by decide)).fr e2' (by decide)⟩
          · rw [cI 140 (by decide) (by decide) (by decide) (by decide) (by decide) (by decide) (by decide) (by decide) (by decide)]
            generalize wI (wI (wI (wI (wI (wI (wI (wI (wJ (wI (wI (wI (wI (wI (wI x 99 s (x.1 158 s - 1)) (60 + 8 * r + 3) s (x.1 147 (5 * r + s))) (60 + 8 * r + 1) s (x.1 148 (5 * r + s))) (60 + 8 * r + 2) s (-1)) (93 + s) 2 (zI now)) (93 + s) 1 (zI (r + 1))) 187 0 (0 : Int32).toInt64) 138 57 0) 158 s (x.1 158 s - 1)) 149 (5 * r + s) (x.1 147 (5 * r + s))) 147 (5 * r + s) (x.1 155 s)) 148 (5 * r + s) (-1)) 150 (5 * r + s) (zI now)) 156 s (zI (r + 1))) 155 s (x.1 155 s) = y at cI d149 d147 d148 d150 d156 d155 cX cJ
            generalize wI (wI (wI (wI (wI (wI x 99 s (x.1 158 s - 1)) (60 + 8 * r + 3) s (x.1 147 (5 * r + s))) (60 + 8 * r + 1) s (x.1 148 (5 * r + s))) (60 + 8 * r + 2) s (-1)) (93 + s) 2 (zI now)) (93 + s) 1 (zI (r + 1)) = w at cX cJ xI x1 x2 x3 x9 JX
            refine ⟨fun r2 hr2 s2 hs2 => ?_, fun s2 hs2 => ?_⟩
            · obtain ⟨⟨f1, f2, f3⟩, a2, ⟨o1, o2, o3⟩, t1, t2, t3, t4⟩ := r1 r2 hr2 s2 hs2
              have hJ : ∀ k, k < 8 → y.2.1 (60 + 8 * r2 + k) = x.2.1 (60 + 8 * r2 + k) := fun k hk => by rw [cJ (60 + 8 * r2 + k) (by omega)]; exact (JX _)
              rw [cX (60 + 8 * r2 + 1) (by omega), cX (60 + 8 * r2 + 2) (by omega), cX (60 + 8 * r2 + 3) (by omega), hJ 4 (by decide), hJ 5 (by decide), hJ 6 (by decide), hJ 7 (by decide), cI 151 (by decide) (by decide) (by decide) (by decide) (by decide) (by decide) (by decide) (by decide) (by decide), cI 152 (by decide) (by decide) (by decide) (by decide) (by decide) (by decide) (by decide) (by decide) (by decide), cI 153 (by decide) (by decide) (by decide) (by decide) (by decide) (by decide) (by decide) (by decide) (by decide), cI 154 (by decide) (by decide) (by decide) (by decide) (by decide) (by decide) (by decide) (by decide) (by decide), d147, d148, d149]
              by_cases hrr : r2 = r
              · subst hrr
                rw [x1, x2, x3]
                by_cases hss : s2 = s
                · subst hss
                  have hs1 : ∀ (a b : Int32), (if s2 = s2 then a else b) = a := fun a b => if_pos rfl
                  rw [hs1, hs1, hs1, if_pos rfl, if_pos rfl, if_pos rfl]
                  exact ⟨⟨hcb, rfl, rfl⟩, a2, ⟨b1, Or.inl rfl, o1⟩, t1.up (by omega), t2.up (by omega), t3.up (by omega), t4.up (by omega)⟩
                · have hsK : ∀ (a b : Int32), (if 5 * r2 + s2 = 5 * r2 + s then a else b) = b := fun a b => if_neg (by omega)
                  have hsS : ∀ (a b : Int32), (if s2 = s then a else b) = b := fun a b => if_neg hss
                  simp only [hsK, hsS]
                  exact ⟨⟨f1, f2, f3⟩, a2, ⟨o1, o2, o3⟩, t1.up (by omega), t2.up (by omega), t3.up (by omega), t4.up (by omega)⟩
              · rw [xI (60 + 8 * r2 + 1) (by omega) (by omega) (by omega), xI (60 + 8 * r2 + 2) (by omega) (by omega) (by omega), xI (60 + 8 * r2 + 3) (by omega) (by omega) (by omega)]
                have hsK : ∀ (a b : Int32), (if 5 * r2 + s2 = 5 * r + s then a else b) = b := fun a b => if_neg (by omega)
                simp only [hsK]
                exact ⟨⟨f1, f2, f3⟩, a2, ⟨o1, o2, o3⟩, t1.up (by omega), t2.up (by omega), t3.up (by omega), t4.up (by omega)⟩
            · obtain ⟨f1, f2, f3, f4, f5⟩ := r2 s2 hs2
              rw [cX (93 + s2) (by omega), cI 157 (by decide) (by decide) (by decide) (by decide) (by decide) (by decide) (by decide) (by decide) (by decide), d155, d156]
              by_cases hss : s2 = s
              · subst hss
                have hs1 : ∀ (a b : Int32), (if s2 = s2 then a else b) = a := fun a b => if_pos rfl
                rw [x9, x9, x9, x9, hs1, hs1]
                have all : ∀ r2, r2 < 4 → y.1 148 (5 * r2 + s2) = -1 := by
                  intro r2 hr2
                  rw [d148]
                  by_cases hrr : r2 = r
                  · rw [if_pos (by omega)]
                  · rw [if_neg (by omega)]
                    rcases (f5 g0).2.2.2.1 r2 hr2 with w | ⟨_, w, _⟩
                    · exact w
                    · rw [er, zI_inj (by omega) (by omega)] at w
                      omega
                refine ⟨f1, f2, f3, fun w => absurd w g0, fun _ => ⟨rfl, aIn_t (by omega) (by omega), (f5 g0).2.2.1, fun r2 hr2 => Or.inl (all r2 hr2), fun _ _ => ?_⟩⟩
                show zI now = _
                rw [xi_zI (by omega), d150, if_pos (by omega)]
              · rw [xI (93 + s2) (by omega) (by omega) (by omega), if_neg hss, if_neg hss]
                refine ⟨f1, f2, f3, fun w r2 hr2 => ?_, fun w => ⟨(f5 w).1, (f5 w).2.1, (f5 w).2.2.1, fun r2 hr2 => ?_, fun w1 w2 => ?_⟩⟩
                · rw [d148, if_neg (by omega)]
                  exact f4 w r2 hr2
                · rw [d148, if_neg (by omega)]
                  exact (f5 w).2.2.2.1 r2 hr2
                · rw [d150, if_neg (by omega)]
                  exact (f5 w).2.2.2.2 w1 w2
          · rw [IFrz]
            refine ⟨z1, ?_, ?_, ?_⟩
            · rw [cX 98 (by decide), xI 98 (by decide) (by omega) (by omega)]
              refine ⟨z2, ?_⟩
              rw [wI_ne (by decide), wI_ne (by decide), wI_ne (by decide), wI_ne (by decide), wI_ne (by decide), wI_ne (by decide), wI_ne (by decide), wI_nj (by decide), o138]
              exact z3
            · rw [cX 100 (by decide), cX 101 (by decide), cX 102 (by decide), cX 99 (by decide), x99, d158, xI 100 (by decide) (by omega) (by omega), xI 101 (by decide) (by omega) (by omega), xI 102 (by decide) (by omega) (by omega), cI 163 (by decide) (by decide) (by decide) (by decide) (by decide) (by decide) (by decide) (by decide) (by decide), cI 164 (by decide) (by decide) (by decide) (by decide) (by decide) (by decide) (by decide) (by decide) (by decide), cI 165 (by decide) (by decide) (by decide) (by decide) (by decide) (by decide) (by decide) (by decide) (by decide)]
              refine ⟨w100, w101, w102, ?_⟩
              funext t
              rw [w99]
            · intro t ht
              rw [d158]
              show aIn (if t = s then x.1 158 s - 1 else x.1 158 t) 10 = true
              by_cases hts : t = s
              · rw [if_pos hts, aIn_iff, i_sub] <;> rw [show (1 : Int32).toInt = 1 from rfl] <;> omega
              · rw [if_neg hts]; exact hex t ht
  | false =>
    rw [hfz] at c31
    by_cases hcan : x.1 148 (5 * r + s) = -1
    ·
      have gx : gm109 (zI s) (93 + s) (x) = some (wJ (wJ (wJ (wJ (wI (x) (60 + 8 * r + 2) s (x.1 155 s)) (60 + 8 * r + 6) s 0) (60 + 8 * r + 7) s 0) (60 + 8 * r + 4) s 0) (60 + 8 * r + 5) s 0) := by
        unfold gm109 gm49 gm50
        have y1 := b6
        have y0 := b2
        have y8 := n2
        have yq : ∀ j, j < 8 → x.1 (60 + 8 * r + j) = x.1 (60 + 8 * r + j) := fun j _ => rfl
        have y2 : x.1 (60 + 8 * r + 2) s = -1 := by rw [yq 2 (by decide)]; exact q2.trans hcan
        simp only [y1, j4, cond_true, xr, xs, j5, y2, ↓reduceIte, y0, Option.bind_some]
      have hA : gm190 (zI s) x = some ((0 : Int32), wJ (wJ (wJ (wJ (wJ (wI (x) (60 + 8 * r + 2) s (x.1 155 s)) (60 + 8 * r + 6) s 0) (60 + 8 * r + 7) s 0) (60 + 8 * r + 4) s 0) (60 + 8 * r + 5) s 0) 187 0 (0 : Int32).toInt64) := by
        simp only [gm190, gm67_74, gm67_32, gm67_31, gm67, F1, i5, xs, b2, b8, if_neg g0, if_pos hh, c6, h0r, n2, c31, hfz, gx, n10, n20, n21, Option.bind_some, b2i_t, b2i_f, i10, ↓reduceIte, cond_true, cond_false, kb0, kb1, kb2, s92_1, s92_0, s93_1, s93_0, s113_0, s113_1, s113_2, s113_3, aBit_b, aI01, xi0, xi1]
      have oth : ∀ a, 139 ≤ a → a ≤ 186 → (wJ (wJ (wJ (wJ (wJ (wI (x) (60 + 8 * r + 2) s (x.1 155 s)) (60 + 8 * r + 6) s 0) (60 + 8 * r + 7) s 0) (60 + 8 * r + 4) s 0) (60 + 8 * r + 5) s 0) 187 0 (0 : Int32).toInt64).1 a = x.1 a := by
        intro a ha hb
        rw [wJ_I]
        show (wI (x) (60 + 8 * r + 2) s (x.1 155 s)).1 a = _
        rw [wI_ne (by omega)]
      have o138 : (wJ (wJ (wJ (wJ (wJ (wI (x) (60 + 8 * r + 2) s (x.1 155 s)) (60 + 8 * r + 6) s 0) (60 + 8 * r + 7) s 0) (60 + 8 * r + 4) s 0) (60 + 8 * r + 5) s 0) 187 0 (0 : Int32).toInt64).1 138 = x.1 138 := by
        rw [wJ_I]
        show (wI (x) (60 + 8 * r + 2) s (x.1 155 s)).1 138 = _
        rw [wI_ne (by omega)]
      have o0 : (wJ (wJ (wJ (wJ (wJ (wI (x) (60 + 8 * r + 2) s (x.1 155 s)) (60 + 8 * r + 6) s 0) (60 + 8 * r + 7) s 0) (60 + 8 * r + 4) s 0) (60 + 8 * r + 5) s 0) 187 0 (0 : Int32).toInt64).1 0 = x.1 0 := by
        rw [wJ_I]
        show (wI (x) (60 + 8 * r + 2) s (x.1 155 s)).1 0 = _
        rw [wI_ne (by omega)]
      have hM : gm140 (zI s) (wJ (wJ (wJ (wJ (wJ (wI (x) (60 + 8 * r + 2) s (x.1 155 s)) (60 + 8 * r + 6) s 0) (60 + 8 * r + 7) s 0) (60 + 8 * r + 4) s 0) (60 + 8 * r + 5) s 0) 187 0 (0 : Int32).toInt64) = some ((0 : Int32), wI (wI (wI (wI (wI (wI (wI (wJ (wJ (wJ (wJ (wJ (wI (x) (60 + 8 * r + 2) s (x.1 155 s)) (60 + 8 * r + 6) s 0) (60 + 8 * r + 7) s 0) (60 + 8 * r + 4) s 0) (60 + 8 * r + 5) s 0) 187 0 (0 : Int32).toInt64) 138 57 0) 158 s (x.1 158 s - 0)) 148 (5 * r + s) (x.1 155 s)) 151 (5 * r + s) 0) 152 (5 * r + s) 0) 153 (5 * r + s) 0) 154 (5 * r + s) 0) := by
        generalize wJ (wJ (wJ (wJ (wJ (wI (x) (60 + 8 * r + 2) s (x.1 155 s)) (60 + 8 * r + 6) s 0) (60 + 8 * r + 7) s 0) (60 + 8 * r + 4) s 0) (60 + 8 * r + 5) s 0) 187 0 (0 : Int32).toInt64 = y at oth o138
        have T0 := s117 (x := y) (S := S) (zI s) (by rw [o138]; exact e2) k1
        rw [p1] at T0
        have st : gm140 (zI s) y = gm140_39 (zI s) 0 y := by
          simp only [gm140_34, gm140, T0, i5, xs, oth 155 (by decide) (by decide), oth 157 (by decide) (by decide), if_neg g0, if_pos hh, n10, n20, n21, Option.bind_some, b2i_t, b2i_f, i10, ↓reduceIte, cond_true, cond_false, kb0, kb1, kb2, s92_1, s92_0, s93_1, s93_0, s113_0, s113_1, s113_2, s113_3, aBit_b, aI01, xi0, xi1]
        rw [st]
        unfold gm140_39
        rw [s113_0, Option.bind_some]
        have c0 : ∀ a, 139 ≤ a → a ≤ 186 → (wI y 138 57 0).1 a = x.1 a := fun a h1 h2 => by rw [wI_ne (by omega), oth a h1 h2]
        have c1 : ∀ j, ¬ j = 57 → (wI y 138 57 0).1 138 j = x.1 138 j := fun j hj => by rw [wI_nj hj, o138]
        have m1 := s139 hN hC hR hZ hD (by omega) g0 hh er hr c0 c1
        rw [h0r] at m1
        have m2 : gm135 (zI s) (wI y 138 57 0) = some (b2i (frozM x Z (zI now) (zI s))) := by
          rw [s135 (Z := Z) (by rw [c1 27 (by decide)]; exact z3) z1, c1 0 (by decide), n3]
          unfold frozM
          rw [c0 163 (by decide) (by decide), c0 164 (by decide) (by decide), c0 165 (by decide) (by decide)]
        rw [hfz] at m2
        have C147 := c0 147 (by decide) (by decide)
        have C148 := c0 148 (by decide) (by decide)
        have C155 := c0 155 (by decide) (by decide)
        have C156 := c0 156 (by decide) (by decide)
        have C158 := c0 158 (by decide) (by decide)
        have C0 := c1 0 (by decide)
        generalize wI y 138 57 0 = z at m1 m2 C147 C148 C155 C156 C158 C0
        have le0 : (0 : Int32) ≤ 0 := by decide
        have hne : ¬ (wI z 158 s (x.1 158 s - 0)).1 148 (5 * r + s) = x.1 155 s := by
          rw [wI_ne (by decide), C148, hcan]
          exact fun w => g0 w.symm
        simp only [gm140_91, ↓reduceIte, m1, m2, Option.bind_some, if_pos le0, j5, cond_true, xs, C156, er, ix, C158, j20, xk, b2i_t, b2i_f, i10, if_neg hne, wI_ne, not_false_eq_true, Nat.reduceEqDiff, C155]
        try simp only [if_neg (show ¬ x.1 148 (5 * r + s) = x.1 155 s from fun w => g0 (w.symm.trans hcan))]
        try simp only [C148, if_neg (show ¬ x.1 148 (5 * r + s) = x.1 155 s from fun w => g0 (w.symm.trans hcan))]
      have e : SBl [4, 2] x (wI (wI (wI (wI (wI (wI (wI (wJ (wJ (wJ (wJ (wJ (wI (x) (60 + 8 * r + 2) s (x.1 155 s)) (60 + 8 * r + 6) s 0) (60 + 8 * r + 7) s 0) (60 + 8 * r + 4) s 0) (60 + 8 * r + 5) s 0) 187 0 (0 : Int32).toInt64) 138 57 0) 158 s (x.1 158 s - 0)) 148 (5 * r + s) (x.1 155 s)) 151 (5 * r + s) 0) 152 (5 * r + s) 0) 153 (5 * r + s) 0) 154 (5 * r + s) 0) := by
        refine SBl.I ?_ (by decide) (Or.inl (by decide))
        refine SBl.I ?_ (by decide) (Or.inl (by decide))
        refine SBl.I ?_ (by decide) (Or.inl (by decide))
        refine SBl.I ?_ (by decide) (Or.inl (by decide))
        refine SBl.I ?_ (by decide) (Or.inl (by decide))
        refine SBl.I ?_ (by decide) (Or.inl (by decide))
        refine SBl.M ?_ (Or.inr rfl)
        refine SBl.J ?_ (Or.inr rfl)
        refine SBl.J ?_ (Or.inl (ow 5 (by decide)))
        refine SBl.J ?_ (Or.inl (ow 4 (by decide)))
        refine SBl.J ?_ (Or.inl (ow 7 (by decide)))
        refine SBl.J ?_ (Or.inl (ow 6 (by decide)))
        refine SBl.I ?_ (by omega) (Or.inl (ow 2 (by decide)))
        exact SBl.rf _ _
      refine ⟨0, _, _, _, hA, hM, ?_, fun _ => rfl, o0, e.c 0 (by decide) (by decide) (by decide), ?_⟩
      · rw [wI_ne (by decide), wI_ne (by decide), wI_ne (by decide), wI_ne (by decide), wI_ne (by decide), wI_ne (by decide), wI_j]
      ·
        have cI : ∀ a, 139 ≤ a → a ≤ 186 → ¬ a = 158 → ¬ a = 148 → ¬ a = 151 → ¬ a = 152 → ¬ a = 153 → ¬ a = 154 → (wI (wI (wI (wI (wI (wI (wI (wJ (wJ (wJ (wJ (wJ (wI (x) (60 + 8 * r + 2) s (x.1 155 s)) (60 + 8 * r + 6) s 0) (60 + 8 * r + 7) s 0) (60 + 8 * r + 4) s 0) (60 + 8 * r + 5) s 0) 187 0 (0 : Int32).toInt64) 138 57 0) 158 s (x.1 158 s - 0)) 148 (5 * r + s) (x.1 155 s)) 151 (5 * r + s) 0) 152 (5 * r + s) 0) 153 (5 * r + s) 0) 154 (5 * r + s) 0).1 a = x.1 a := by
          intro a h1 h2 h3 m0 m1 m2 m3 m4
          rw [wI_ne m4, wI_ne m3, wI_ne m2, wI_ne m1, wI_ne m0, wI_ne h3, wI_ne (by omega)]
          exact oth a h1 h2
        have d148 : ∀ t, (wI (wI (wI (wI (wI (wI (wI (wJ (wJ (wJ (wJ (wJ (wI (x) (60 + 8 * r + 2) s (x.1 155 s)) (60 + 8 * r + 6) s 0) (60 + 8 * r + 7) s 0) (60 + 8 * r + 4) s 0) (60 + 8 * r + 5) s 0) 187 0 (0 : Int32).toInt64) 138 57 0) 158 s (x.1 158 s - 0)) 148 (5 * r + s) (x.1 155 s)) 151 (5 * r + s) 0) 152 (5 * r + s) 0) 153 (5 * r + s) 0) 154 (5 * r + s) 0).1 148 t = if t = 5 * r + s then (x.1 155 s) else x.1 148 t := by
          intro t
          rw [wI_ne (by decide), wI_ne (by decide), wI_ne (by decide), wI_ne (by decide), wI_at, wI_ne (by decide), wI_ne (by decide), oth 148 (by decide) (by decide)]
        have d151 : ∀ t, (wI (wI (wI (wI (wI (wI (wI (wJ (wJ (wJ (wJ (wJ (wI (x) (60 + 8 * r + 2) s (x.1 155 s)) (60 + 8 * r + 6) s 0) (60 + 8 * r + 7) s 0) (60 + 8 * r + 4) s 0) (60 + 8 * r + 5) s 0) 187 0 (0 : Int32).toInt64) 138 57 0) 158 s (x.1 158 s - 0)) 148 (5 * r + s) (x.1 155 s)) 151 (5 * r + s) 0) 152 (5 * r + s) 0) 153 (5 * r + s) 0) 154 (5 * r + s) 0).1 151 t = if t = 5 * r + s then 0 else x.1 151 t := by
          intro t
          rw [wI_ne (by decide), wI_ne (by decide), wI_ne (by decide), wI_at, wI_ne (by decide), wI_ne (by decide), wI_ne (by decide), oth 151 (by decide) (by decide)]
        have d152 : ∀ t, (wI (wI (wI (wI (wI (wI (wI (wJ (wJ (wJ (wJ (wJ (wI (x) (60 + 8 * r + 2) s (x.1 155 s)) (60 + 8 * r + 6) s 0) (60 + 8 * r + 7) s 0) (60 + 8 * r + 4) s 0) (60 + 8 * r + 5) s 0) 187 0 (0 : Int32).toInt64) 138 57 0) 158 s (x.1 158 s - 0)) 148 (5 * r + s) (x.1 155 s)) 151 (5 * r + s) 0) 152 (5 * r + s) 0) 153 (5 * r + s) 0) 154 (5 * r + s) 0).1 152 t = if t = 5 * r + s then 0 else x.1 152 t := by
          intro t
          rw [wI_ne (by decide), wI_ne (by decide), wI_at, wI_ne (by decide), wI_ne (by decide), wI_ne (by decide), wI_ne (by decide), oth 152 (by decide) (by decide)]
        have d153 : ∀ t, (wI (wI (wI (wI (wI (wI (wI (wJ (wJ (wJ (wJ (wJ (wI (x) (60 + 8 * r + 2) s (x.1 155 s)) (60 + 8 * r + 6) s 0) (60 + 8 * r + 7) s 0) (60 + 8 * r + 4) s 0) (60 + 8 * r + 5) s 0) 187 0 (0 : Int32).toInt64) 138 57 0) 158 s (x.1 158 s - 0)) 148 (5 * r + s) (x.1 155 s)) 151 (5 * r + s) 0) 152 (5 * r + s) 0) 153 (5 * r + s) 0) 154 (5 * r + s) 0).1 153 t = if t = 5 * r + s then 0 else x.1 153 t := by
          intro t
          rw [wI_ne (by decide), wI_at, wI_ne (by decide), wI_ne (by decide), wI_ne (by decide), wI_ne (by decide), wI_ne (by decide), oth 153 (by decide) (by decide)]
        have d154 : ∀ t, (wI (wI (wI (wI (wI (wI (wI (wJ (wJ (wJ (wJ (wJ (wI (x) (60 + 8 * r + 2) s (x.1 155 s)) (60 + 8 * r + 6) s 0) (60 + 8 * r + 7) s 0) (60 + 8 * r + 4) s 0) (60 + 8 * r + 5) s 0) 187 0 (0 : Int32).toInt64) 138 57 0) 158 s (x.1 158 s - 0)) 148 (5 * r + s) (x.1 155 s)) 151 (5 * r + s) 0) 152 (5 * r + s) 0) 153 (5 * r + s) 0) 154 (5 * r + s) 0).1 154 t = if t = 5 * r + s then 0 else x.1 154 t := by
          intro t
          rw [wI_at, wI_ne (by decide), wI_ne (by decide), wI_ne (by decide), wI_ne (by decide), wI_ne (by decide), wI_ne (by decide), oth 154 (by decide) (by decide)]
        have d158 : (wI (wI (wI (wI (wI (wI (wI (wJ (wJ (wJ (wJ (wJ (wI (x) (60 + 8 * r + 2) s (x.1 155 s)) (60 + 8 * r + 6) s 0) (60 + 8 * r + 7) s 0) (60 + 8 * r + 4) s 0) (60 + 8 * r + 5) s 0) 187 0 (0 : Int32).toInt64) 138 57 0) 158 s (x.1 158 s - 0)) 148 (5 * r + s) (x.1 155 s)) 151 (5 * r + s) 0) 152 (5 * r + s) 0) 153 (5 * r + s) 0) 154 (5 * r + s) 0).1 158 = fun t => if t = s then x.1 158 s - 0 else x.1 158 t := by
          funext t
          rw [wI_ne (by decide), wI_ne (by decide), wI_ne (by decide), wI_ne (by decide), wI_ne (by decide), wI_at, wI_ne (by decide), oth 158 (by decide) (by decide)]
        have cX : ∀ a, a < 138 → (wI (wI (wI (wI (wI (wI (wI (wJ (wJ (wJ (wJ (wJ (wI (x) (60 + 8 * r + 2) s (x.1 155 s)) (60 + 8 * r + 6) s 0) (60 + 8 * r + 7) s 0) (60 + 8 * r + 4) s 0) (60 + 8 * r + 5) s 0) 187 0 (0 : Int32).toInt64) 138 57 0) 158 s (x.1 158 s - 0)) 148 (5 * r + s) (x.1 155 s)) 151 (5 * r + s) 0) 152 (5 * r + s) 0) 153 (5 * r + s) 0) 154 (5 * r + s) 0).1 a = (wJ (wJ (wJ (wJ (wI (x) (60 + 8 * r + 2) s (x.1 155 s)) (60 + 8 * r + 6) s 0) (60 + 8 * r + 7) s 0) (60 + 8 * r + 4) s 0) (60 + 8 * r + 5) s 0).1 a := by
          intro a ha
          rw [wI_ne (by omega), wI_ne (by omega), wI_ne (by omega), wI_ne (by omega), wI_ne (by omega), wI_ne (by omega), wI_ne (by omega)]
          rfl
        have cJ : ∀ a, ¬ a = 187 → (wI (wI (wI (wI (wI (wI (wI (wJ (wJ (wJ (wJ (wJ (wI (x) (60 + 8 * r + 2) s (x.1 155 s)) (60 + 8 * r + 6) s 0) (60 + 8 * r + 7) s 0) (60 + 8 * r + 4) s 0) (60 + 8 * r + 5) s 0) 187 0 (0 : Int32).toInt64) 138 57 0) 158 s (x.1 158 s - 0)) 148 (5 * r + s) (x.1 155 s)) 151 (5 * r + s) 0) 152 (5 * r + s) 0) 153 (5 * r + s) 0) 154 (5 * r + s) 0).2.1 a = (wJ (wJ (wJ (wJ (wI (x) (60 + 8 * r + 2) s (x.1 155 s)) (60 + 8 * r + 6) s 0) (60 + 8 * r + 7) s 0) (60 + 8 * r + 4) s 0) (60 + 8 * r + 5) s 0).2.1 a := by
          intro a ha
          show (wJ (wJ (wJ (wJ (wJ (wI (x) (60 + 8 * r + 2) s (x.1 155 s)) (60 + 8 * r + 6) s 0) (60 + 8 * r + 7) s 0) (60 + 8 * r + 4) s 0) (60 + 8 * r + 5) s 0) 187 0 (0 : Int32).toInt64).2.1 a = _
          rw [wJ_ne ha]
        have xI : ∀ a, ¬ a = 99 → ¬ a = 60 + 8 * r + 2 → (wJ (wJ (wJ (wJ (wI (x) (60 + 8 * r + 2) s (x.1 155 s)) (60 + 8 * r + 6) s 0) (60 + 8 * r + 7) s 0) (60 + 8 * r + 4) s 0) (60 + 8 * r + 5) s 0).1 a = x.1 a := by
          intro a h9 h2
          show (wI (x) (60 + 8 * r + 2) s (x.1 155 s)).1 a = _
          rw [wI_ne h2]
        have xC : ∀ t, (wJ (wJ (wJ (wJ (wI (x) (60 + 8 * r + 2) s (x.1 155 s)) (60 + 8 * r + 6) s 0) (60 + 8 * r + 7) s 0) (60 + 8 * r + 4) s 0) (60 + 8 * r + 5) s 0).1 (60 + 8 * r + 2) t = if t = s then x.1 155 s else x.1 (60 + 8 * r + 2) t := by
          intro t
          show (wI (x) (60 + 8 * r + 2) s (x.1 155 s)).1 (60 + 8 * r + 2) t = _
          rw [wI_at]
        have xJ : ∀ r2, r2 < 4 → ∀ k, 4 ≤ k → k < 8 → ∀ t, (wJ (wJ (wJ (wJ (wI (x) (60 + 8 * r + 2) s (x.1 155 s)) (60 + 8 * r + 6) s 0) (60 + 8 * r + 7) s 0) (60 + 8 * r + 4) s 0) (60 + 8 * r + 5) s 0).2.1 (60 + 8 * r2 + k) t = if r2 = r ∧ t = s then 0 else x.2.1 (60 + 8 * r2 + k) t := by
          intro r2 hr2 k hk hk8 t
          rw [wJ_rd, wJ_rd, wJ_rd, wJ_rd]
          show (if _ then _ else if _ then _ else if _ then _ else if _ then _ else x.2.1 (60 + 8 * r2 + k) t) = _
          by_cases hh : r2 = r ∧ t = s
          · rw [if_pos hh]
            repeat' split
            all_goals first | rfl | omega
          · rw [if_neg hh, if_neg (by omega), if_neg (by omega), if_neg (by omega), if_neg (by omega)]
        have x99 : (wJ (wJ (wJ (wJ (wI (x) (60 + 8 * r + 2) s (x.1 155 s)) (60 + 8 * r + 6) s 0) (60 + 8 * r + 7) s 0) (60 + 8 * r + 4) s 0) (60 + 8 * r + 5) s 0).1 99 = fun t => x.1 99 t := by
          funext t
          show (wI (x) (60 + 8 * r + 2) s (x.1 155 s)).1 99 t = _
          rw [wI_ne (by omega)]
        obtain ⟨z, e4, e2'⟩ := e.split
        have e2' := e2'.one
        refine ⟨S, B, Z, F, U, P, I, now, (hN.fr e4 (by decide)).fr e2' (by decide), (hC.fr e4 (by decide)).fr e2' (by decide), ?_, ?_, (hB.f0 e4 (by decide)).fr e2' (by decide), (hF.fr e4 (by decide)).fr e2' (by decide), (hD.fr e4 (by decide)).fr e2' (by decide), (hP.f0 e4 (by decide)).fr e2' (by decide)⟩
        · rw [cI 140 (by decide) (by decide) (by decide) (by decide) (by decide) (by decide) (by decide) (by decide)]
          generalize wI (wI (wI (wI (wI (wI (wI (wJ (wJ (wJ (wJ (wJ (wI (x) (60 + 8 * r + 2) s (x.1 155 s)) (60 + 8 * r + 6) s 0) (60 + 8 * r + 7) s 0) (60 + 8 * r + 4) s 0) (60 + 8 * r + 5) s 0) 187 0 (0 : Int32).toInt64) 138 57 0) 158 s (x.1 158 s - 0)) 148 (5 * r + s) (x.1 155 s)) 151 (5 * r + s) 0) 152 (5 * r + s) 0) 153 (5 * r + s) 0) 154 (5 * r + s) 0 = y at cI d148 d151 d152 d153 d154 cX cJ
          generalize wJ (wJ (wJ (wJ (wI (x) (60 + 8 * r + 2) s (x.1 155 s)) (60 + 8 * r + 6) s 0) (60 + 8 * r + 7) s 0) (60 + 8 * r + 4) s 0) (60 + 8 * r + 5) s 0 = w at cX cJ xI xC xJ
          refine ⟨fun r2 hr2 s2 hs2 => ?_, fun s2 hs2 => ?_⟩
          · obtain ⟨⟨f1, f2, f3⟩, a2, ⟨o1, o2, o3⟩, t1, t2, t3, t4⟩ := r1 r2 hr2 s2 hs2
            rw [cX (60 + 8 * r2 + 1) (by omega), cX (60 + 8 * r2 + 2) (by omega), cX (60 + 8 * r2 + 3) (by omega), xI (60 + 8 * r2 + 1) (by omega) (by omega), xI (60 + 8 * r2 + 3) (by omega) (by omega), cJ (60 + 8 * r2 + 4) (by omega), cJ (60 + 8 * r2 + 5) (by omega), cJ (60 + 8 * r2 + 6) (by omega), cJ (60 + 8 * r2 + 7) (by omega), xJ r2 hr2 4 (by decide) (by decide), xJ r2 hr2 5 (by decide) (by decide), xJ r2 hr2 6 (by decide) (by decide), xJ r2 hr2 7 (by decide) (by decide), cI 147 (by decide) (by decide) (by decide) (by decide) (by decide) (by decide) (by decide) (by decide), cI 149 (by decide) (by decide) (by decide) (by decide) (by decide) (by decide) (by decide) (by decide), d148, d151, d152, d153, d154]
            by_cases hh : r2 = r ∧ s2 = s
            · obtain ⟨hr', hs'⟩ := hh
              subst hr' hs'
              have hsK : ∀ (a b : Int32), (if 5 * r2 + s2 = 5 * r2 + s2 then a else b) = a := fun a b => if_pos rfl
              have hsS : ∀ (a b : Int32), (if s2 = s2 then a else b) = a := fun a b => if_pos rfl
              have hsJ : ∀ (a b : Int64), (if r2 = r2 ∧ s2 = s2 then a else b) = a := fun a b => if_pos ⟨rfl, rfl⟩
              rw [xC]
              simp only [hsS, hsK, hsJ]
              exact ⟨⟨f1, rfl, f3⟩, ⟨rfl, rfl, rfl, rfl⟩, ⟨o1, b1, o3⟩, nB0 _, nB0 _, nB0 _, nB0 _⟩
            · have hsK : ∀ (a b : Int32), (if 5 * r2 + s2 = 5 * r + s then a else b) = b := fun a b => if_neg (by omega)
              have hsJ : ∀ (a b : Int64), (if r2 = r ∧ s2 = s then a else b) = b := fun a b => if_neg hh
              simp only [hsK, hsJ]
              refine ⟨⟨f1, ?_, f3⟩, a2, ⟨o1, o2, o3⟩, t1.up (by omega), t2.up (by omega), t3.up (by omega), t4.up (by omega)⟩
              by_cases hrr : r2 = r
              · subst hrr
                rw [xC, if_neg (fun w => hh ⟨rfl, w⟩)]
                exact f2
              · rw [xI (60 + 8 * r2 + 2) (by omega) (by omega)]
                exact f2
          · rw [cX (93 + s2) (by omega), xI (93 + s2) (by omega) (by omega), cI 150 (by decide) (by decide) (by decide) (by decide) (by decide) (by decide) (by decide) (by decide), cI 155 (by decide) (by decide) (by decide) (by decide) (by decide) (by decide) (by decide) (by decide), cI 156 (by decide) (by decide) (by decide) (by decide) (by decide) (by decide) (by decide) (by decide), cI 157 (by decide) (by decide) (by decide) (by decide) (by decide) (by decide) (by decide) (by decide)]
            obtain ⟨f1, f2, f3, f4, f5⟩ := r2 s2 hs2
            by_cases hss : s2 = s
            · subst hss
              refine ⟨f1, f2, f3, fun w => absurd w g0, fun _ => ⟨(f5 g0).1, (f5 g0).2.1, (f5 g0).2.2.1, fun r2 hr2 => ?_, (f5 g0).2.2.2.2⟩⟩
              rw [d148]
              by_cases hrr : r2 = r
              · subst hrr
                rw [if_pos rfl]
                exact Or.inr ⟨hh, er, rfl⟩
              · rw [if_neg (by omega)]
                exact (f5 g0).2.2.2.1 r2 hr2
            · refine ⟨f1, f2, f3, fun w r2 hr2 => ?_, fun w => ⟨(f5 w).1, (f5 w).2.1, (f5 w).2.2.1, fun r2 hr2 => ?_, (f5 w).2.2.2.2⟩⟩
              · rw [d148, if_neg (by omega)]
                exact f4 w r2 hr2
              · rw [d148, if_neg (by omega)]
                exact (f5 w).2.2.2.1 r2 hr2
        · rw [IFrz]
          refine ⟨z1, ?_, ?_, ?_⟩
          · rw [cX 98 (by decide), xI 98 (by decide) (by omega)]
            refine ⟨z2, ?_⟩
            rw [wI_ne (by decide), wI_ne (by decide), wI_ne (by decide), wI_ne (by decide), wI_ne (by decide), wI_ne (by decide), wI_nj (by decide), o138]
            exact z3
          · rw [cX 100 (by decide), cX 101 (by decide), cX 102 (by decide), cX 99 (by decide), x99, d158, xI 100 (by decide) (by omega), xI 101 (by decide) (by omega), xI 102 (by decide) (by omega), cI 163 (by decide) (by decide) (by decide) (by decide) (by decide) (by decide) (by decide) (by decide), cI 164 (by decide) (by decide) (by decide) (by decide) (by decide) (by decide) (by decide) (by decide), cI 165 (by decide) (by decide) (by decide) (by decide) (by decide) (by decide) (by decide) (by decide)]
            refine ⟨w100, w101, w102, ?_⟩
            funext t
            rw [w99]
            by_cases hts : t = s
            · rw [if_pos hts, hts, Int32.sub_zero]
            · rw [if_neg hts]
          · intro t ht
            rw [d158]
            show aIn (if t = s then x.1 158 s - 0 else x.1 158 t) 10 = true
            by_cases hts : t = s
            · rw [if_pos hts, Int32.sub_zero]; exact hex s (by omega)
            · rw [if_neg hts]; exact hex t ht
    · have hcb : x.1 148 (5 * r + s) = x.1 155 s := ((b9 r hr).resolve_left hcan).2.2
      by_cases h3 : r = 3
      · have h4 : zI (r + 1) = 4 := by rw [h3]; rfl
        have gx : gm109 (zI s) (93 + s) (x) = some (wI (wI (wI (wI (wI (x) (60 + 8 * r + 3) s (x.1 147 (5 * r + s))) (60 + 8 * r + 1) s (x.1 148 (5 * r + s))) (60 + 8 * r + 2) s (-1)) (93 + s) 2 (zI now)) (93 + s) 0 (-1)) := by
          unfold gm109 gm49 gm50
          have y1 := b6
          have y0 := b2
          have y8 := n2
          have yq : ∀ j, j < 8 → x.1 (60 + 8 * r + j) = x.1 (60 + 8 * r + j) := fun j _ => rfl
          have y2 : ¬ x.1 (60 + 8 * r + 2) s = -1 := by rw [yq 2 (by decide), q2]; exact hcan
          have u1 : x.1 (60 + 8 * r + 1) s = x.1 147 (5 * r + s) := by rw [yq 1 (by decide)]; exact q1
          have u2 : (wI x (60 + 8 * r + 3) s (x.1 147 (5 * r + s))).1 (60 + 8 * r + 2) s = x.1 148 (5 * r + s) := by rw [wI_ne (by omega), yq 2 (by decide)]; exact q2
          have u3 : (wI (wI (wI x (60 + 8 * r + 3) s (x.1 147 (5 * r + s))) (60 + 8 * r + 1) s (x.1 148 (5 * r + s))) (60 + 8 * r + 2) s (-1)).1 1 8 = zI now := by rw [wI_ne (by omega), wI_ne (by omega), wI_ne (by omega)]; exact y8
          have u4 : (wI (wI (wI (wI x (60 + 8 * r + 3) s (x.1 147 (5 * r + s))) (60 + 8 * r + 1) s (x.1 148 (5 * r + s))) (60 + 8 * r + 2) s (-1)) (93 + s) 2 (zI now)).1 (93 + s) 1 = zI r := by rw [wI_nj (by decide), wI_ne (by omega), wI_ne (by omega), wI_ne (by omega)]; exact y1
          have hr3 : zI r = 3 := by rw [h3]; rfl
          simp only [y1, j4, cond_true, xr, xs, j5, if_neg y2, u1, u2, u3, u4, if_pos hr3, Option.bind_some]
        have hA : gm190 (zI s) x = some ((0 : Int32), wJ (wI (wI (wI (wI (wI (x) (60 + 8 * r + 3) s (x.1 147 (5 * r + s))) (60 + 8 * r + 1) s (x.1 148 (5 * r + s))) (60 + 8 * r + 2) s (-1)) (93 + s) 2 (zI now)) (93 + s) 0 (-1)) 187 0 (0 : Int32).toInt64) := by
          simp only [gm190, gm67_74, gm67_32, gm67_31, gm67, F1, i5, xs, b2, b8, if_neg g0, if_pos hh, c6, h0r, n2, c31, hfz, gx, n10, n20, n21, Option.bind_some, b2i_t, b2i_f, i10, ↓reduceIte, cond_true, cond_false, kb0, kb1, kb2, s92_1, s92_0, s93_1, s93_0, s113_0, s113_1, s113_2, s113_3, aBit_b, aI01, xi0, xi1]
        have oth : ∀ a, 139 ≤ a → a ≤ 186 → (wJ (wI (wI (wI (wI (wI (x) (60 + 8 * r + 3) s (x.1 147 (5 * r + s))) (60 + 8 * r + 1) s (x.1 148 (5 * r + s))) (60 + 8 * r + 2) s (-1)) (93 + s) 2 (zI now)) (93 + s) 0 (-1)) 187 0 (0 : Int32).toInt64).1 a = x.1 a := by
          intro a ha hb
          rw [wJ_I]
          rw [wI_ne (by omega), wI_ne (by omega), wI_ne (by omega), wI_ne (by omega), wI_ne (by omega)]
        have o138 : (wJ (wI (wI (wI (wI (wI (x) (60 + 8 * r + 3) s (x.1 147 (5 * r + s))) (60 + 8 * r + 1) s (x.1 148 (5 * r + s))) (60 + 8 * r + 2) s (-1)) (93 + s) 2 (zI now)) (93 + s) 0 (-1)) 187 0 (0 : Int32).toInt64).1 138 = x.1 138 := by
          rw [wJ_I]
          rw [wI_ne (by omega), wI_ne (by omega), wI_ne (by omega), wI_ne (by omega), wI_ne (by omega)]
        have o0 : (wJ (wI (wI (wI (wI (wI (x) (60 + 8 * r + 3) s (x.1 147 (5 * r + s))) (60 + 8 * r + 1) s (x.1 148 (5 * r + s))) (60 + 8 * r + 2) s (-1)) (93 + s) 2 (zI now)) (93 + s) 0 (-1)) 187 0 (0 : Int32).toInt64).1 0 = x.1 0 := by
          rw [wJ_I]
          rw [wI_ne (by omega), wI_ne (by omega), wI_ne (by omega), wI_ne (by omega), wI_ne (by omega)]
        have hM : gm140 (zI s) (wJ (wI (wI (wI (wI (wI (x) (60 + 8 * r + 3) s (x.1 147 (5 * r + s))) (60 + 8 * r + 1) s (x.1 148 (5 * r + s))) (60 + 8 * r + 2) s (-1)) (93 + s) 2 (zI now)) (93 + s) 0 (-1)) 187 0 (0 : Int32).toInt64) = some ((0 : Int32), wI (wI (wI (wI (wI (wI (wI (wI (wJ (wI (wI (wI (wI (wI (x) (60 + 8 * r + 3) s (x.1 147 (5 * r + s))) (60 + 8 * r + 1) s (x.1 148 (5 * r + s))) (60 + 8 * r + 2) s (-1)) (93 + s) 2 (zI now)) (93 + s) 0 (-1)) 187 0 (0 : Int32).toInt64) 138 57 0) 158 s (x.1 158 s - 0)) 149 (5 * r + s) (x.1 147 (5 * r + s))) 147 (5 * r + s) (x.1 155 s)) 148 (5 * r + s) (-1)) 150 (5 * r + s) (zI now)) 156 s (zI (r + 1))) 155 s (-1)) := by
          generalize wJ (wI (wI (wI (wI (wI (x) (60 + 8 * r + 3) s (x.1 147 (5 * r + s))) (60 + 8 * r + 1) s (x.1 148 (5 * r + s))) (60 + 8 * r + 2) s (-1)) (93 + s) 2 (zI now)) (93 + s) 0 (-1)) 187 0 (0 : Int32).toInt64 = y at oth o138
          have T0 := s117 (x := y) (S := S) (zI s) (by rw [o138]; exact e2) k1
          rw [p1] at T0
          have st : gm140 (zI s) y = gm140_39 (zI s) 0 y := by
            simp only [gm140_34, gm140, T0, i5, xs, oth 155 (by decide) (by decide), oth 157 (by decide) (by decide), if_neg g0, if_pos hh, n10, n20, n21, Option.bind_some, b2i_t, b2i_f, i10, ↓reduceIte, cond_true, cond_false, kb0, kb1, kb2, s92_1, s92_0, s93_1, s93_0, s113_0, s113_1, s113_2, s113_3, aBit_b, aI01, xi0, xi1]
          rw [st]
          unfold gm140_39
          rw [s113_0, Option.bind_some]
          have c0 : ∀ a, 139 ≤ a → a ≤ 186 → (wI y 138 57 0).1 a = x.1 a := fun a h1 h2 => by rw [wI_ne (by omega), oth a h1 h2]
          have c1 : ∀ j, ¬ j = 57 → (wI y 138 57 0).1 138 j = x.1 138 j := fun j hj => by rw [wI_nj hj, o138]
          have m1 := s139 hN hC hR hZ hD (by omega) g0 hh er hr c0 c1
          rw [h0r] at m1
          have m2 : gm135 (zI s) (wI y 138 57 0) = some (b2i (frozM x Z (zI now) (zI s))) := by
            rw [s135 (Z := Z) (by rw [c1 27 (by decide)]; exact z3) z1, c1 0 (by decide), n3]
            unfold frozM
            rw [c0 163 (by decide) (by decide), c0 164 (by decide) (by decide), c0 165 (by decide) (by decide)]
          rw [hfz] at m2
          have C147 := c0 147 (by decide) (by decide)
          have C148 := c0 148 (by decide) (by decide)
          have C155 := c0 155 (by decide) (by decide)
          have C156 := c0 156 (by decide) (by decide)
          have C158 := c0 158 (by decide) (by decide)
          have C0 := c1 0 (by decide)
          generalize wI y 138 57 0 = z at m1 m2 C147 C148 C155 C156 C158 C0
          have le0 : (0 : Int32) ≤ 0 := by decide
          have heq : x.1 148 (5 * r + s) = x.1 155 s := hcb
          simp only [gm140_91, gm140_190, ↓reduceIte, m1, m2, Option.bind_some, if_pos le0, j5, cond_true, xs, C156, er, ix, C158, j20, xk, b2i_t, b2i_f, i10, wI_ne, not_false_eq_true, Nat.reduceEqDiff, C155, C148, C147, C0, n3, if_pos heq, wI_j, zI_succ, if_pos h4]
        have e : SBl [4, 2] x (wI (wI (wI (wI (wI (wI (wI (wI (wJ (wI (wI (wI (wI (wI (x) (60 + 8 * r + 3) s (x.1 147 (5 * r + s))) (60 + 8 * r + 1) s (x.1 148 (5 * r + s))) (60 + 8 * r + 2) s (-1)) (93 + s) 2 (zI now)) (93 + s) 0 (-1)) 187 0 (0 : Int32).toInt64) 138 57 0) 158 s (x.1 158 s - 0)) 149 (5 * r + s) (x.1 147 (5 * r + s))) 147 (5 * r + s) (x.1 155 s)) 148 (5 * r + s) (-1)) 150 (5 * r + s) (zI now)) 156 s (zI (r + 1))) 155 s (-1)) := by
          refine SBl.I ?_ (by decide) (Or.inl (by decide))
          refine SBl.I ?_ (by decide) (Or.inl (by decide))
          refine SBl.I ?_ (by decide) (Or.inl (by decide))
          refine SBl.I ?_ (by decide) (Or.inl (by decide))
          refine SBl.I ?_ (by decide) (Or.inl (by decide))
          refine SBl.I ?_ (by decide) (Or.inl (by decide))
          refine SBl.I ?_ (by decide) (Or.inl (by decide))
          refine SBl.M ?_ (Or.inr rfl)
          refine SBl.J ?_ (Or.inr rfl)
          refine SBl.I ?_ (by omega) (Or.inl ow2)
          refine SBl.I ?_ (by omega) (Or.inl ow2)
          refine SBl.I ?_ (by omega) (Or.inl (ow 2 (by decide)))
          refine SBl.I ?_ (by omega) (Or.inl (ow 1 (by decide)))
          refine SBl.I ?_ (by omega) (Or.inl (ow 3 (by decide)))
          exact SBl.rf _ _
        refine ⟨0, _, _, _, hA, hM, ?_, fun _ => rfl, o0, e.c 0 (by decide) (by decide) (by decide), ?_⟩
        · rw [wI_ne (by decide), wI_ne (by decide), wI_ne (by decide), wI_ne (by decide), wI_ne (by decide), wI_ne (by decide), wI_ne (by decide), wI_j]
        ·
          have cI : ∀ a, 139 ≤ a → a ≤ 186 → ¬ a = 158 → ¬ a = 149 → ¬ a = 147 → ¬ a = 148 → ¬ a = 150 → ¬ a = 156 → ¬ a = 155 → (wI (wI (wI (wI (wI (wI (wI (wI (wJ (wI (wI (wI (wI (wI (x) (60 + 8 * r + 3) s (x.1 147 (5 * r + s))) (60 + 8 * r + 1) s (x.1 148 (5 * r + s))) (60 + 8 * r + 2) s (-1)) (93 + s) 2 (zI now)) (93 + s) 0 (-1)) 187 0 (0 : Int32).toInt64) 138 57 0) 158 s (x.1 158 s - 0)) 149 (5 * r + s) (x.1 147 (5 * r + s))) 147 (5 * r + s) (x.1 155 s)) 148 (5 * r + s) (-1)) 150 (5 * r + s) (zI now)) 156 s (zI (r + 1))) 155 s (-1)).1 a = x.1 a := by
            intro a h1 h2 h3 m0 m1 m2 m3 m4 m5
            rw [wI_ne m5, wI_ne m4, wI_ne m3, wI_ne m2, wI_ne m1, wI_ne m0, wI_ne h3, wI_ne (by omega)]
            exact oth a h1 h2
          have d149 : ∀ t, (wI (wI (wI (wI (wI (wI (wI (wI (wJ (wI (wI (wI (wI (wI (x) (60 + 8 * r + 3) s (x.1 147 (5 * r + s))) (60 + 8 * r + 1) s (x.1 148 (5 * r + s))) (60 + 8 * r + 2) s (-1)) (93 + s) 2 (zI now)) (93 + s) 0 (-1)) 187 0 (0 : Int32).toInt64) 138 57 0) 158 s (x.1 158 s - 0)) 149 (5 * r + s) (x.1 147 (5 * r + s))) 147 (5 * r + s) (x.1 155 s)) 148 (5 * r + s) (-1)) 150 (5 * r + s) (zI now)) 156 s (zI (r + 1))) 155 s (-1)).1 149 t = if t = 5 * r + s then x.1 147 (5 * r + s) else x.1 149 t := by
            intro t
            rw [wI_ne (by decide), wI_ne (by decide), wI_ne (by decide), wI_ne (by decide), wI_ne (by decide), wI_at, wI_ne (by decide), wI_ne (by decide), oth 149 (by decide) (by decide)]
          have d147 : ∀ t, (wI (wI (wI (wI (wI (wI (wI (wI (wJ (wI (wI (wI (wI (wI (x) (60 + 8 * r + 3) s (x.1 147 (5 * r + s))) (60 + 8 * r + 1) s (x.1 148 (5 * r + s))) (60 + 8 * r + 2) s (-1)) (93 + s) 2 (zI now)) (93 + s) 0 (-1)) 187 0 (0 : Int32).toInt64) 138 57 0) 158 s (x.1 158 s - 0)) 149 (5 * r + s) (x.1 147 (5 * r + s))) 147 (5 * r + s) (x.1 155 s)) 148 (5 * r + s) (-1)) 150 (5 * r + s) (zI now)) 156 s (zI (r + 1))) 155 s (-1)).1 147 t = if t = 5 * r + s then (x.1 155 s) else x.1 147 t := by
            intro t
            rw [wI_ne (by decide), wI_ne (by decide), wI_ne (by decide), wI_ne (by decide), wI_at, wI_ne (by decide), wI_ne (by decide), wI_ne (by decide), oth 147 (by decide) (by decide)]
          have d148 : ∀ t, (wI (wI (wI (wI (wI (wI (wI (wI (wJ (wI (wI (wI (wI (wI (x) (60 + 8 * r + 3) s (x.1 147 (5 * r + s))) (60 + 8 * r + 1) s (x.1 148 (5 * r + s))) (60 + 8 * r + 2) s (-1)) (93 + s) 2 (zI now)) (93 + s) 0 (-1)) 187 0 (0 : Int32).toInt64) 138 57 0) 158 s (x.1 158 s - 0)) 149 (5 * r + s) (x.1 147 (5 * r + s))) 147 (5 * r + s) (x.1 155 s)) 148 (5 * r + s) (-1)) 150 (5 * r + s) (zI now)) 156 s (zI (r + 1))) 155 s (-1)).1 148 t = if t = 5 * r + s then (-1) else x.1 148 t := by
            intro t
            rw [wI_ne (by decide), wI_ne (by decide), wI_ne (by decide), wI_at, wI_ne (by decide), wI_ne (by decide), wI_ne (by decide), wI_ne (by decide), oth 148 (by decide) (by decide)]
          have d150 : ∀ t, (wI (wI (wI (wI (wI (wI (wI (wI (wJ (wI (wI (wI (wI (wI (x) (60 + 8 * r + 3) s (x.1 147 (5 * r + s))) (60 + 8 * r + 1) s (x.1 148 (5 * r + s))) (60 + 8 * r + 2) s (-1)) (93 + s) 2 (zI now)) (93 + s) 0 (-1)) 187 0 (0 : Int32).toInt64) 138 57 0) 158 s (x.1 158 s - 0)) 149 (5 * r + s) (x.1 147 (5 * r + s))) 147 (5 * r + s) (x.1 155 s)) 148 (5 * r + s) (-1)) 150 (5 * r + s) (zI now)) 156 s (zI (r + 1))) 155 s (-1)).1 150 t = if t = 5 * r + s then zI now else x.1 150 t := by
            intro t
            rw [wI_ne (by decide), wI_ne (by decide), wI_at, wI_ne (by decide), wI_ne (by decide), wI_ne (by decide), wI_ne (by decide), wI_ne (by decide), oth 150 (by decide) (by decide)]
          have d156 : ∀ t, (wI (wI (wI (wI (wI (wI (wI (wI (wJ (wI (wI (wI (wI (wI (x) (60 + 8 * r + 3) s (x.1 147 (5 * r + s))) (60 + 8 * r + 1) s (x.1 148 (5 * r + s))) (60 + 8 * r + 2) s (-1)) (93 + s) 2 (zI now)) (93 + s) 0 (-1)) 187 0 (0 : Int32).toInt64) 138 57 0) 158 s (x.1 158 s - 0)) 149 (5 * r + s) (x.1 147 (5 * r + s))) 147 (5 * r + s) (x.1 155 s)) 148 (5 * r + s) (-1)) 150 (5 * r + s) (zI now)) 156 s (zI (r + 1))) 155 s (-1)).1 156 t = if t = s then zI (r + 1) else x.1 156 t := by
            intro t
            rw [wI_ne (by decide), wI_at, wI_ne (by decide), wI_ne (by decide), wI_ne (by decide), wI_ne (by decide), wI_ne (by decide), wI_ne (by decide), oth 156 (by decide) (by decide)]
          have d155 : ∀ t, (wI (wI (wI (wI (wI (wI (wI (wI (wJ (wI (wI (wI (wI (wI (x) (60 + 8 * r + 3) s (x.1 147 (5 * r + s))) (60 + 8 * r + 1) s (x.1 148 (5 * r + s))) (60 + 8 * r + 2) s (-1)) (93 + s) 2 (zI now)) (93 + s) 0 (-1)) 187 0 (0 : Int32).toInt64) 138 57 0) 158 s (x.1 158 s - 0)) 149 (5 * r + s) (x.1 147 (5 * r + s))) 147 (5 * r + s) (x.1 155 s)) 148 (5 * r + s) (-1)) 150 (5 * r + s) (zI now)) 156 s (zI (r + 1))) 155 s (-1)).1 155 t = if t = s then (-1) else x.1 155 t := by
            intro t
            rw [wI_at, wI_ne (by decide), wI_ne (by decide), wI_ne (by decide), wI_ne (by decide), wI_ne (by decide), wI_ne (by decide), wI_ne (by decide), oth 155 (by decide) (by decide)]
          have d158 : (wI (wI (wI (wI (wI (wI (wI (wI (wJ (wI (wI (wI (wI (wI (x) (60 + 8 * r + 3) s (x.1 147 (5 * r + s))) (60 + 8 * r + 1) s (x.1 148 (5 * r + s))) (60 + 8 * r + 2) s (-1)) (93 + s) 2 (zI now)) (93 + s) 0 (-1)) 187 0 (0 : Int32).toInt64) 138 57 0) 158 s (x.1 158 s - 0)) 149 (5 * r + s) (x.1 147 (5 * r + s))) 147 (5 * r + s) (x.1 155 s)) 148 (5 * r + s) (-1)) 150 (5 * r + s) (zI now)) 156 s (zI (r + 1))) 155 s (-1)).1 158 = fun t => if t = s then x.1 158 s - 0 else x.1 158 t := by
            funext t
            rw [wI_ne (by decide), wI_ne (by decide), wI_ne (by decide), wI_ne (by decide), wI_ne (by decide), wI_ne (by decide), wI_at, wI_ne (by decide), oth 158 (by decide) (by decide)]
          have cX : ∀ a, a < 138 → (wI (wI (wI (wI (wI (wI (wI (wI (wJ (wI (wI (wI (wI (wI (x) (60 + 8 * r + 3) s (x.1 147 (5 * r + s))) (60 + 8 * r + 1) s (x.1 148 (5 * r + s))) (60 + 8 * r + 2) s (-1)) (93 + s) 2 (zI now)) (93 + s) 0 (-1)) 187 0 (0 : Int32).toInt64) 138 57 0) 158 s (x.1 158 s - 0)) 149 (5 * r + s) (x.1 147 (5 * r + s))) 147 (5 * r + s) (x.1 155 s)) 148 (5 * r + s) (-1)) 150 (5 * r + s) (zI now)) 156 s (zI (r + 1))) 155 s (-1)).1 a = (wI (wI (wI (wI (wI (x) (60 + 8 * r + 3) s (x.1 147 (5 * r + s))) (60 + 8 * r + 1) s (x.1 148 (5 * r + s))) (60 + 8 * r + 2) s (-1)) (93 + s) 2 (zI now)) (93 + s) 0 (-1)).1 a := by
            intro a ha
            rw [wI_ne (by omega), wI_ne (by omega), wI_ne (by omega), wI_ne (by omega), wI_ne (by omega), wI_ne (by omega), wI_ne (by omega), wI_ne (by omega)]
            rfl
          have cJ : ∀ a, ¬ a = 187 → (wI (wI (wI (wI (wI (wI (wI (wI (wJ (wI (wI (wI (wI (wI (x) (60 + 8 * r + 3) s (x.1 147 (5 * r + s))) (60 + 8 * r + 1) s (x.1 148 (5 * r + s))) (60 + 8 * r + 2) s (-1)) (93 + s) 2 (zI now)) (93 + s) 0 (-1)) 187 0 (0 : Int32).toInt64) 138 57 0) 158 s (x.1 158 s - 0)) 149 (5 * r + s) (x.1 147 (5 * r + s))) 147 (5 * r + s) (x.1 155 s)) 148 (5 * r + s) (-1)) 150 (5 * r + s) (zI now)) 156 s (zI (r + 1))) 155 s (-1)).2.1 a = (wI (wI (wI (wI (wI (x) (60 + 8 * r + 3) s (x.1 147 (5 * r + s))) (60 + 8 * r + 1) s (x.1 148 (5 * r + s))) (60 + 8 * r + 2) s (-1)) (93 + s) 2 (zI now)) (93 + s) 0 (-1)).2.1 a := by
            intro a ha
            show (wJ (wI (wI (wI (wI (wI (x) (60 + 8 * r + 3) s (x.1 147 (5 * r + s))) (60 + 8 * r + 1) s (x.1 148 (5 * r + s))) (60 + 8 * r + 2) s (-1)) (93 + s) 2 (zI now)) (93 + s) 0 (-1)) 187 0 (0 : Int32).toInt64).2.1 a = _
            rw [wJ_ne ha]
          have xI : ∀ a, ¬ a = 99 → (a < 60 + 8 * r + 1 ∨ 60 + 8 * r + 3 < a) → ¬ a = 93 + s → (wI (wI (wI (wI (wI (x) (60 + 8 * r + 3) s (x.1 147 (5 * r + s))) (60 + 8 * r + 1) s (x.1 148 (5 * r + s))) (60 + 8 * r + 2) s (-1)) (93 + s) 2 (zI now)) (93 + s) 0 (-1)).1 a = x.1 a := by
            intro a h9 h2 h3
            rw [wI_ne h3, wI_ne h3, wI_ne (by omega), wI_ne (by omega), wI_ne (by omega)]
          have x1 : ∀ t, (wI (wI (wI (wI (wI (x) (60 + 8 * r + 3) s (x.1 147 (5 * r + s))) (60 + 8 * r + 1) s (x.1 148 (5 * r + s))) (60 + 8 * r + 2) s (-1)) (93 + s) 2 (zI now)) (93 + s) 0 (-1)).1 (60 + 8 * r + 1) t = if t = s then x.1 148 (5 * r + s) else x.1 (60 + 8 * r + 1) t := by
            intro t
            rw [wI_ne (by omega), wI_ne (by omega), wI_ne (by omega), wI_at, wI_ne (by omega)]
          have x2 : ∀ t, (wI (wI (wI (wI (wI (x) (60 + 8 * r + 3) s (x.1 147 (5 * r + s))) (60 + 8 * r + 1) s (x.1 148 (5 * r + s))) (60 + 8 * r + 2) s (-1)) (93 + s) 2 (zI now)) (93 + s) 0 (-1)).1 (60 + 8 * r + 2) t = if t = s then -1 else x.1 (60 + 8 * r + 2) t := by
            intro t
            rw [wI_ne (by omega), wI_ne (by omega), wI_at, wI_ne (by omega), wI_ne (by omega)]
          have x3 : ∀ t, (wI (wI (wI (wI (wI (x) (60 + 8 * r + 3) s (x.1 147 (5 * r + s))) (60 + 8 * r + 1) s (x.1 148 (5 * r + s))) (60 + 8 * r + 2) s (-1)) (93 + s) 2 (zI now)) (93 + s) 0 (-1)).1 (60 + 8 * r + 3) t = if t = s then x.1 147 (5 * r + s) else x.1 (60 + 8 * r + 3) t := by
            intro t
            rw [wI_ne (by omega), wI_ne (by omega), wI_ne (by omega), wI_ne (by omega), wI_at]
          have x9 : ∀ t, (wI (wI (wI (wI (wI (x) (60 + 8 * r + 3) s (x.1 147 (5 * r + s))) (60 + 8 * r + 1) s (x.1 148 (5 * r + s))) (60 + 8 * r + 2) s (-1)) (93 + s) 2 (zI now)) (93 + s) 0 (-1)).1 (93 + s) t = if t = 0 then -1 else if t = 2 then zI now else x.1 (93 + s) t := by
            intro t
            rw [wI_at, wI_at, wI_ne (by omega), wI_ne (by omega), wI_ne (by omega)]
          have x99 : (wI (wI (wI (wI (wI (x) (60 + 8 * r + 3) s (x.1 147 (5 * r + s))) (60 + 8 * r + 1) s (x.1 148 (5 * r + s))) (60 + 8 * r + 2) s (-1)) (93 + s) 2 (zI now)) (93 + s) 0 (-1)).1 99 = fun t => x.1 99 t := by
            funext t
            rw [wI_ne (by omega), wI_ne (by omega), wI_ne (by omega), wI_ne (by omega), wI_ne (by omega)]
          have JX : ∀ a, (wI (wI (wI (wI (wI (x) (60 + 8 * r + 3) s (x.1 147 (5 * r + s))) (60 + 8 * r + 1) s (x.1 148 (5 * r + s))) (60 + 8 * r + 2) s (-1)) (93 + s) 2 (zI now)) (93 + s) 0 (-1)).2.1 a = x.2.1 a := fun _ => rfl
          obtain ⟨z, e4, e2'⟩ := e.split
          have e2' := e2'.one
          refine ⟨S, B, Z, F, U, P, I, now, (hN.fr e4 (by decide)).fr e2' (by decide), (hC.fr e4 (by decide)).fr e2' (by decide), ?_, ?_, (hB.f0 e4 (by decide)).fr e2' (by decide), (hF.fr e4 (by decide)).fr e2' (by decide), (hD.fr e4 (by decide)).fr e2' (by decide), (hP.f0 e4 (by decide)).fr e2' (by decide)⟩
          · rw [cI 140 (by decide) (by decide) (by decide) (by decide) (by decide) (by decide) (by decide) (by decide) (by decide)]
            generalize wI (wI (wI (wI (wI (wI (wI (wI (wJ (wI (wI (wI (wI (wI (x) (60 + 8 * r + 3) s (x.1 147 (5 * r + s))) (60 + 8 * r + 1) s (x.1 148 (5 * r + s))) (60 + 8 * r + 2) s (-1)) (93 + s) 2 (zI now)) (93 + s) 0 (-1)) 187 0 (0 : Int32).toInt64) 138 57 0) 158 s (x.1 158 s - 0)) 149 (5 * r + s) (x.1 147 (5 * r + s))) 147 (5 * r + s) (x.1 155 s)) 148 (5 * r + s) (-1)) 150 (5 * r + s) (zI now)) 156 s (zI (r + 1))) 155 s (-1) = y at cI d149 d147 d148 d150 d156 d155 cX cJ
            generalize wI (wI (wI (wI (wI (x) (60 + 8 * r + 3) s (x.1 147 (5 * r + s))) (60 + 8 * r + 1) s (x.1 148 (5 * r + s))) (60 + 8 * r + 2) s (-1)) (93 + s) 2 (zI now)) (93 + s) 0 (-1) = w at cX cJ xI x1 x2 x3 x9 JX
            refine ⟨fun r2 hr2 s2 hs2 => ?_, fun s2 hs2 => ?_⟩
            · obtain ⟨⟨f1, f2, f3⟩, a2, ⟨o1, o2, o3⟩, t1, t2, t3, t4⟩ := r1 r2 hr2 s2 hs2
              have hJ : ∀ k, k < 8 → y.2.1 (60 + 8 * r2 + k) = x.2.1 (60 + 8 * r2 + k) := fun k hk => by rw [cJ (60 + 8 * r2 + k) (by omega)]; exact (JX _)
              rw [cX (60 + 8 * r2 + 1) (by omega), cX (60 + 8 * r2 + 2) (by omega), cX (60 + 8 * r2 + 3) (by omega), hJ 4 (by decide), hJ 5 (by decide), hJ 6 (by decide), hJ 7 (by decide), cI 151 (by decide) (by decide) (by decide) (by decide) (by decide) (by decide) (by decide) (by decide) (by decide), cI 152 (by decide) (by decide) (by decide) (by decide) (by decide) (by decide) (by decide) (by decide) (by decide), cI 153 (by decide) (by decide) (by decide) (by decide) (by decide) (by decide) (by decide) (by decide) (by decide), cI 154 (by decide) (by decide) (by decide) (by decide) (by decide) (by decide) (by decide) (by decide) (by decide), d147, d148, d149]
              by_cases hrr : r2 = r
              · subst hrr
                rw [x1, x2, x3]
                by_cases hss : s2 = s
                · subst hss
                  have hs1 : ∀ (a b : Int32), (if s2 = s2 then a else b) = a := fun a b => if_pos rfl
                  rw [hs1, hs1, hs1, if_pos rfl, if_pos rfl, if_pos rfl]
                  exact ⟨⟨hcb, rfl, rfl⟩, a2, ⟨b1, Or.inl rfl, o1⟩, t1.up (by omega), t2.up (by omega), t3.up (by omega), t4.up (by omega)⟩
                · have hsK : ∀ (a b : Int32), (if 5 * r2 + s2 = 5 * r2 + s then a else b) = b := fun a b => if_neg (by omega)
                  have hsS : ∀ (a b : Int32), (if s2 = s then a else b) = b := fun a b => if_neg hss
                  simp only [hsK, hsS]
                  exact ⟨⟨f1, f2, f3⟩, a2, ⟨o1, o2, o3⟩, t1.up (by omega), t2.up (by omega), t3.up (by omega), t4.up (by omega)⟩
              · rw [xI (60 + 8 * r2 + 1) (by omega) (by omega) (by omega), xI (60 + 8 * r2 + 2) (by omega) (by omega) (by omega), xI (60 + 8 * r2 + 3) (by omega) (by omega) (by omega)]
                have hsK : ∀ (a b : Int32), (if 5 * r2 + s2 = 5 * r + s then a else b) = b := fun a b => if_neg (by omega)
                simp only [hsK]
                exact ⟨⟨f1, f2, f3⟩, a2, ⟨o1, o2, o3⟩, t1.up (by omega), t2.up (by omega), t3.up (by omega), t4.up (by omega)⟩
            · obtain ⟨f1, f2, f3, f4, f5⟩ := r2 s2 hs2
              rw [cX (93 + s2) (by omega), cI 157 (by decide) (by decide) (by decide) (by decide) (by decide) (by decide) (by decide) (by decide) (by decide), d155, d156]
              by_cases hss : s2 = s
              · subst hss
                have hs1 : ∀ (a b : Int32), (if s2 = s2 then a else b) = a := fun a b => if_pos rfl
                rw [x9, x9, x9, x9, hs1, hs1]
                have all : ∀ r2, r2 < 4 → y.1 148 (5 * r2 + s2) = -1 := by
                  intro r2 hr2
                  rw [d148]
                  by_cases hrr : r2 = r
                  · rw [if_pos (by omega)]
                  · rw [if_neg (by omega)]
                    rcases (f5 g0).2.2.2.1 r2 hr2 with w | ⟨_, w, _⟩
                    · exact w
                    · rw [er, zI_inj (by omega) (by omega)] at w
                      omega
                exact ⟨Or.inl rfl, rfl, f3, fun _ => all, fun w => absurd rfl w⟩
              · rw [xI (93 + s2) (by omega) (by omega) (by omega), if_neg hss, if_neg hss]
                refine ⟨f1, f2, f3, fun w r2 hr2 => ?_, fun w => ⟨(f5 w).1, (f5 w).2.1, (f5 w).2.2.1, fun r2 hr2 => ?_, fun w1 w2 => ?_⟩⟩
                · rw [d148, if_neg (by omega)]
                  exact f4 w r2 hr2
                · rw [d148, if_neg (by omega)]
                  exact (f5 w).2.2.2.1 r2 hr2
                · rw [d150, if_neg (by omega)]
                  exact (f5 w).2.2.2.2 w1 w2
          · rw [IFrz]
            refine ⟨z1, ?_, ?_, ?_⟩
            · rw [cX 98 (by decide), xI 98 (by decide) (by omega) (by omega)]
              refine ⟨z2, ?_⟩
              rw [wI_ne (by decide), wI_ne (by decide), wI_ne (by decide), wI_ne (by decide), wI_ne (by decide), wI_ne (by decide), wI_ne (by decide), wI_nj (by decide), o138]
              exact z3
            · rw [cX 100 (by decide), cX 101 (by decide), cX 102 (by decide), cX 99 (by decide), x99, d158, xI 100 (by decide) (by omega) (by omega), xI 101 (by decide) (by omega) (by omega), xI 102 (by decide) (by omega) (by omega), cI 163 (by decide) (by decide) (by decide) (by decide) (by decide) (by decide) (by decide) (by decide) (by decide), cI 164 (by decide) (by decide) (by decide) (by decide) (by decide) (by decide) (by decide) (by decide) (by decide), cI 165 (by decide) (by decide) (by decide) (by decide) (by decide) (by decide) (by decide) (by decide) (by decide)]
              refine ⟨w100, w101, w102, ?_⟩
              funext t
              rw [w99]
              by_cases hts : t = s
              · rw [if_pos hts, hts, Int32.sub_zero]
              · rw [if_neg hts]
            · intro t ht
              rw [d158]
              show aIn (if t = s then x.1 158 s - 0 else x.1 158 t) 10 = true
              by_cases hts : t = s
              · rw [if_pos hts, Int32.sub_zero]; exact hex s (by omega)
              · rw [if_neg hts]; exact hex t ht
      · have h4 : ¬ zI (r + 1) = 4 := by rw [show (4 : Int32) = zI 4 from rfl, zI_inj (by omega) (by omega)]; omega
        have gx : gm109 (zI s) (93 + s) (x) = some (wI (wI (wI (wI (wI (x) (60 + 8 * r + 3) s (x.1 147 (5 * r + s))) (60 + 8 * r + 1) s (x.1 148 (5 * r + s))) (60 + 8 * r + 2) s (-1)) (93 + s) 2 (zI now)) (93 + s) 1 (zI (r + 1))) := by
          unfold gm109 gm49 gm50
          have y1 := b6
          have y0 := b2
          have y8 := n2
          have yq : ∀ j, j < 8 → x.1 (60 + 8 * r + j) = x.1 (60 + 8 * r + j) := fun j _ => rfl
          have y2 : ¬ x.1 (60 + 8 * r + 2) s = -1 := by rw [yq 2 (by decide), q2]; exact hcan
          have u1 : x.1 (60 + 8 * r + 1) s = x.1 147 (5 * r + s) := by rw [yq 1 (by decide)]; exact q1
          have u2 : (wI x (60 + 8 * r + 3) s (x.1 147 (5 * r + s))).1 (60 + 8 * r + 2) s = x.1 148 (5 * r + s) := by rw [wI_ne (by omega), yq 2 (by decide)]; exact q2
          have u3 : (wI (wI (wI x (60 + 8 * r + 3) s (x.1 147 (5 * r + s))) (60 + 8 * r + 1) s (x.1 148 (5 * r + s))) (60 + 8 * r + 2) s (-1)).1 1 8 = zI now := by rw [wI_ne (by omega), wI_ne (by omega), wI_ne (by omega)]; exact y8
          have u4 : (wI (wI (wI (wI x (60 + 8 * r + 3) s (x.1 147 (5 * r + s))) (60 + 8 * r + 1) s (x.1 148 (5 * r + s))) (60 + 8 * r + 2) s (-1)) (93 + s) 2 (zI now)).1 (93 + s) 1 = zI r := by rw [wI_nj (by decide), wI_ne (by omega), wI_ne (by omega), wI_ne (by omega)]; exact y1
          have hr3 : ¬ zI r = 3 := by rw [show (3 : Int32) = zI 3 from rfl, zI_inj (by omega) (by omega)]; exact h3
          simp only [y1, j4, cond_true, xr, xs, j5, if_neg y2, u1, u2, u3, u4, if_neg hr3, zI_succ, Option.bind_some]
        have hA : gm190 (zI s) x = some ((0 : Int32), wJ (wI (wI (wI (wI (wI (x) (60 + 8 * r + 3) s (x.1 147 (5 * r + s))) (60 + 8 * r + 1) s (x.1 148 (5 * r + s))) (60 + 8 * r + 2) s (-1)) (93 + s) 2 (zI now)) (93 + s) 1 (zI (r + 1))) 187 0 (0 : Int32).toInt64) := by
          simp only [gm190, gm67_74, gm67_32, gm67_31, gm67, F1, i5, xs, b2, b8, if_neg g0, if_pos hh, c6, h0r, n2, c31, hfz, gx, n10, n20, n21, Option.bind_some, b2i_t, b2i_f, i10, ↓reduceIte, cond_true, cond_false, kb0, kb1, kb2, s92_1, s92_0, s93_1, s93_0, s113_0, s113_1, s113_2, s113_3, aBit_b, aI01, xi0, xi1]
        have oth : ∀ a, 139 ≤ a → a ≤ 186 → (wJ (wI (wI (wI (wI (wI (x) (60 + 8 * r + 3) s (x.1 147 (5 * r + s))) (60 + 8 * r + 1) s (x.1 148 (5 * r + s))) (60 + 8 * r + 2) s (-1)) (93 + s) 2 (zI now)) (93 + s) 1 (zI (r + 1))) 187 0 (0 : Int32).toInt64).1 a = x.1 a := by
          intro a ha hb
          rw [wJ_I]
          rw [wI_ne (by omega), wI_ne (by omega), wI_ne (by omega), wI_ne (by omega), wI_ne (by omega)]
        have o138 : (wJ (wI (wI (wI (wI (wI (x) (60 + 8 * r + 3) s (x.1 147 (5 * r + s))) (60 + 8 * r + 1) s (x.1 148 (5 * r + s))) (60 + 8 * r + 2) s (-1)) (93 + s) 2 (zI now)) (93 + s) 1 (zI (r + 1))) 187 0 (0 : Int32).toInt64).1 138 = x.1 138 := by
          rw [wJ_I]
          rw [wI_ne (by omega), wI_ne (by omega), wI_ne (by omega), wI_ne (by omega), wI_ne (by omega)]
        have o0 : (wJ (wI (wI (wI (wI (wI (x) (60 + 8 * r + 3) s (x.1 147 (5 * r + s))) (60 + 8 * r + 1) s (x.1 148 (5 * r + s))) (60 + 8 * r + 2) s (-1)) (93 + s) 2 (zI now)) (93 + s) 1 (zI (r + 1))) 187 0 (0 : Int32).toInt64).1 0 = x.1 0 := by
          rw [wJ_I]
          rw [wI_ne (by omega), wI_ne (by omega), wI_ne (by omega), wI_ne (by omega), wI_ne (by omega)]
        have hM : gm140 (zI s) (wJ (wI (wI (wI (wI (wI (x) (60 + 8 * r + 3) s (x.1 147 (5 * r + s))) (60 + 8 * r + 1) s (x.1 148 (5 * r + s))) (60 + 8 * r + 2) s (-1)) (93 + s) 2 (zI now)) (93 + s) 1 (zI (r + 1))) 187 0 (0 : Int32).toInt64) = some ((0 : Int32), wI (wI (wI (wI (wI (wI (wI (wI (wJ (wI (wI (wI (wI (wI (x) (60 + 8 * r + 3) s (x.1 147 (5 * r + s))) (60 + 8 * r + 1) s (x.1 148 (5 * r + s))) (60 + 8 * r + 2) s (-1)) (93 + s) 2 (zI now)) (93 + s) 1 (zI (r + 1))) 187 0 (0 : Int32).toInt64) 138 57 0) 158 s (x.1 158 s - 0)) 149 (5 * r + s) (x.1 147 (5 * r + s))) 147 (5 * r + s) (x.1 155 s)) 148 (5 * r + s) (-1)) 150 (5 * r + s) (zI now)) 156 s (zI (r + 1))) 155 s (x.1 155 s)) := by
          generalize wJ (wI (wI (wI (wI (wI (x) (60 + 8 * r + 3) s (x.1 147 (5 * r + s))) (60 + 8 * r + 1) s (x.1 148 (5 * r + s))) (60 + 8 * r + 2) s (-1)) (93 + s) 2 (zI now)) (93 + s) 1 (zI (r + 1))) 187 0 (0 : Int32).toInt64 = y at oth o138
          have T0 := s117 (x := y) (S := S) (zI s) (by rw [o138]; exact e2) k1
          rw [p1] at T0
          have st : gm140 (zI s) y = gm140_39 (zI s) 0 y := by
            simp only [gm140_34, gm140, T0, i5, xs, oth 155 (by decide) (by decide), oth 157 (by decide) (by decide), if_neg g0, if_pos hh, n10, n20, n21, Option.bind_some, b2i_t, b2i_f, i10, ↓reduceIte, cond_true, cond_false, kb0, kb1, kb2, s92_1, s92_0, s93_1, s93_0, s113_0, s113_1, s113_2, s113_3, aBit_b, aI01, xi0, xi1]
          rw [st]
          unfold gm140_39
          rw [s113_0, Option.bind_some]
          have c0 : ∀ a, 139 ≤ a → a ≤ 186 → (wI y 138 57 0).1 a = x.1 a := fun a h1 h2 => by rw [wI_ne (by omega), oth a h1 h2]
          have c1 : ∀ j, ¬ j = 57 → (wI y 138 57 0).1 138 j = x.1 138 j := fun j hj => by rw [wI_nj hj, o138]
          have m1 := s139 hN hC hR hZ hD (by omega) g0 hh er hr c0 c1
          rw [h0r] at m1
          have m2 : gm135 (zI s) (wI y 138 57 0) = some (b2i (frozM x Z (zI now) (zI s))) := by
            rw [s135 (Z := Z) (by rw [c1 27 (by decide)]; exact z3) z1, c1 0 (by decide), n3]
            unfold frozM
            rw [c0 163 (by decide) (by decide), c0 164 (by decide) (by decide), c0 165 (by decide) (by decide)]
          rw [hfz] at m2
          have C147 := c0 147 (by decide) (by decide)
          have C148 := c0 148 (by decide) (by decide)
          have C155 := c0 155 (by decide) (by decide)
          have C156 := c0 156 (by decide) (by decide)
          have C158 := c0 158 (by decide) (by decide)
          have C0 := c1 0 (by decide)
          generalize wI y 138 57 0 = z at m1 m2 C147 C148 C155 C156 C158 C0
          have le0 : (0 : Int32) ≤ 0 := by decide
          have heq : x.1 148 (5 * r + s) = x.1 155 s := hcb
          simp only [gm140_91, gm140_190, ↓reduceIte, m1, m2, Option.bind_some, if_pos le0, j5, cond_true, xs, C156, er, ix, C158, j20, xk, b2i_t, b2i_f, i10, wI_ne, not_false_eq_true, Nat.reduceEqDiff, C155, C148, C147, C0, n3, if_pos heq, wI_j, zI_succ, if_neg h4]
        have e : SBl [4, 2] x (wI (wI (wI (wI (wI (wI (wI (wI (wJ (wI (wI (wI (wI (wI (x) (60 + 8 * r + 3) s (x.1 147 (5 * r + s))) (60 + 8 * r + 1) s (x.1 148 (5 * r + s))) (60 + 8 * r + 2) s (-1)) (93 + s) 2 (zI now)) (93 + s) 1 (zI (r + 1))) 187 0 (0 : Int32).toInt64) 138 57 0) 158 s (x.1 158 s - 0)) 149 (5 * r + s) (x.1 147 (5 * r + s))) 147 (5 * r + s) (x.1 155 s)) 148 (5 * r + s) (-1)) 150 (5 * r + s) (zI now)) 156 s (zI (r + 1))) 155 s (x.1 155 s)) := by
          refine SBl.I ?_ (by decide) (Or.inl (by decide))
          refine SBl.I ?_ (by decide) (Or.inl (by decide))
          refine SBl.I ?_ (by decide) (Or.inl (by decide))
          refine SBl.I ?_ (by decide) (Or.inl (by decide))
          refine SBl.I ?_ (by decide) (Or.inl (by decide))
          refine SBl.I ?_ (by decide) (Or.inl (by decide))
          refine SBl.I ?_ (by decide) (Or.inl (by decide))
          refine SBl.M ?_ (Or.inr rfl)
          refine SBl.J ?_ (Or.inr rfl)
          refine SBl.I ?_ (by omega) (Or.inl ow2)
          refine SBl.I ?_ (by omega) (Or.inl ow2)
          refine SBl.I ?_ (by omega) (Or.inl (ow 2 (by decide)))
          refine SBl.I ?_ (by omega) (Or.inl (ow 1 (by decide)))
          refine SBl.I ?_ (by omega) (Or.inl (ow 3 (by decide)))
          exact SBl.rf _ _
        refine ⟨0, _, _, _, hA, hM, ?_, fun _ => rfl, o0, e.c 0 (by decide) (by decide) (by decide), ?_⟩
        · rw [wI_ne (by decide), wI_ne (by decide), wI_ne (by decide), wI_ne (by decide), wI_ne (by decide), wI_ne (by decide), wI_ne (by decide), wI_j]
        ·
          have cI : ∀ a, 139 ≤ a → a ≤ 186 → ¬ a = 158 → ¬ a = 149 → ¬ a = 147 → ¬ a = 148 → ¬ a = 150 → ¬ a = 156 → ¬ a = 155 → (wI (wI (wI (wI (wI (wI (wI (wI (wJ (wI (wI (wI (wI (wI (x) (60 + 8 * r + 3) s (x.1 147 (5 * r + s))) (60 + 8 * r + 1) s (x.1 148 (5 * r + s))) (60 + 8 * r + 2) s (-1)) (93 + s) 2 (zI now)) (93 + s) 1 (zI (r + 1))) 187 0 (0 : Int32).toInt64) 138 57 0) 158 s (x.1 158 s - 0)) 149 (5 * r + s) (x.1 147 (5 * r + s))) 147 (5 * r + s) (x.1 155 s)) 148 (5 * r + s) (-1)) 150 (5 * r + s) (zI now)) 156 s (zI (r + 1))) 155 s (x.1 155 s)).1 a = x.1 a := by
            intro a h1 h2 h3 m0 m1 m2 m3 m4 m5
            rw [wI_ne m5, wI_ne m4, wI_ne m3, wI_ne m2, wI_ne m1, wI_ne m0, wI_ne h3, wI_ne (by omega)]
            exact oth a h1 h2
          have d149 : ∀ t, (wI (wI (wI (wI (wI (wI (wI (wI (wJ (wI (wI (wI (wI (wI (x) (60 + 8 * r + 3) s (x.1 147 (5 * r + s))) (60 + 8 * r + 1) s (x.1 148 (5 * r + s))) (60 + 8 * r + 2) s (-1)) (93 + s) 2 (zI now)) (93 + s) 1 (zI (r + 1))) 187 0 (0 : Int32).toInt64) 138 57 0) 158 s (x.1 158 s - 0)) 149 (5 * r + s) (x.1 147 (5 * r + s))) 147 (5 * r + s) (x.1 155 s)) 148 (5 * r + s) (-1)) 150 (5 * r + s) (zI now)) 156 s (zI (r + 1))) 155 s (x.1 155 s)).1 149 t = if t = 5 * r + s then x.1 147 (5 * r + s) else x.1 149 t := by
            intro t
            rw [wI_ne (by decide), wI_ne (by decide), wI_ne (by decide), wI_ne (by decide), wI_ne (by decide), wI_at, wI_ne (by decide), wI_ne (by decide), oth 149 (by decide) (by decide)]
          have d147 : ∀ t, (wI (wI (wI (wI (wI (wI (wI (wI (wJ (wI (wI (wI (wI (wI (x) (60 + 8 * r + 3) s (x.1 147 (5 * r + s))) (60 + 8 * r + 1) s (x.1 148 (5 * r + s))) (60 + 8 * r + 2) s (-1)) (93 + s) 2 (zI now)) (93 + s) 1 (zI (r + 1))) 187 0 (0 : Int32).toInt64) 138 57 0) 158 s (x.1 158 s - 0)) 149 (5 * r + s) (x.1 147 (5 * r + s))) 147 (5 * r + s) (x.1 155 s)) 148 (5 * r + s) (-1)) 150 (5 * r + s) (zI now)) 156 s (zI (r + 1))) 155 s (x.1 155 s)).1 147 t = if t = 5 * r + s then (x.1 155 s) else x.1 147 t := by
            intro t
            rw [wI_ne (by decide), wI_ne (by decide), wI_ne (by decide), wI_ne (by decide), wI_at, wI_ne (by decide), wI_ne (by decide), wI_ne (by decide), oth 147 (by decide) (by decide)]
          have d148 : ∀ t, (wI (wI (wI (wI (wI (wI (wI (wI (wJ (wI (wI (wI (wI (wI (x) (60 + 8 * r + 3) s (x.1 147 (5 * r + s))) (60 + 8 * r + 1) s (x.1 148 (5 * r + s))) (60 + 8 * r + 2) s (-1)) (93 + s) 2 (zI now)) (93 + s) 1 (zI (r + 1))) 187 0 (0 : Int32).toInt64) 138 57 0) 158 s (x.1 158 s - 0)) 149 (5 * r + s) (x.1 147 (5 * r + s))) 147 (5 * r + s) (x.1 155 s)) 148 (5 * r + s) (-1)) 150 (5 * r + s) (zI now)) 156 s (zI (r + 1))) 155 s (x.1 155 s)).1 148 t = if t = 5 * r + s then (-1) else x.1 148 t := by
            intro t
            rw [wI_ne (by decide), wI_ne (by decide), wI_ne (by decide), wI_at, wI_ne (by decide), wI_ne (by decide), wI_ne (by decide), wI_ne (by decide), oth 148 (by decide) (by decide)]
          have d150 : ∀ t, (wI (wI (wI (wI (wI (wI (wI (wI (wJ (wI (wI (wI (wI (wI (x) (60 + 8 * r + 3) s (x.1 147 (5 * r + s))) (60 + 8 * r + 1) s (x.1 148 (5 * r + s))) (60 + 8 * r + 2) s (-1)) (93 + s) 2 (zI now)) (93 + s) 1 (zI (r + 1))) 187 0 (0 : Int32).toInt64) 138 57 0) 158 s (x.1 158 s - 0)) 149 (5 * r + s) (x.1 147 (5 * r + s))) 147 (5 * r + s) (x.1 155 s)) 148 (5 * r + s) (-1)) 150 (5 * r + s) (zI now)) 156 s (zI (r + 1))) 155 s (x.1 155 s)).1 150 t = if t = 5 * r + s then zI now else x.1 150 t := by
            intro t
            rw [wI_ne (by decide), wI_ne (by decide), wI_at, wI_ne (by decide), wI_ne (by decide), wI_ne (by decide), wI_ne (by decide), wI_ne (by decide), oth 150 (by decide) (by decide)]
          have d156 : ∀ t, (wI (wI (wI (wI (wI (wI (wI (wI (wJ (wI (wI (wI (wI (wI (x) (60 + 8 * r + 3) s (x.1 147 (5 * r + s))) (60 + 8 * r + 1) s (x.1 148 (5 * r + s))) (60 + 8 * r + 2) s (-1)) (93 + s) 2 (zI now)) (93 + s) 1 (zI (r + 1))) 187 0 (0 : Int32).toInt64) 138 57 0) 158 s (x.1 158 s - 0)) 149 (5 * r + s) (x.1 147 (5 * r + s))) 147 (5 * r + s) (x.1 155 s)) 148 (5 * r + s) (-1)) 150 (5 * r + s) (zI now)) 156 s (zI (r + 1))) 155 s (x.1 155 s)).1 156 t = if t = s then zI (r + 1) else x.1 156 t := by
            intro t
            rw [wI_ne (by decide), wI_at, wI_ne (by decide), wI_ne (by decide), wI_ne (by decide), wI_ne (by decide), wI_ne (by decide), wI_ne (by decide), oth 156 (by decide) (by decide)]
          have d155 : ∀ t, (wI (wI (wI (wI (wI (wI (wI (wI (wJ (wI (wI (wI (wI (wI (x) (60 + 8 * r + 3) s (x.1 147 (5 * r + s))) (60 + 8 * r + 1) s (x.1 148 (5 * r + s))) (60 + 8 * r + 2) s (-1)) (93 + s) 2 (zI now)) (93 + s) 1 (zI (r + 1))) 187 0 (0 : Int32).toInt64) 138 57 0) 158 s (x.1 158 s - 0)) 149 (5 * r + s) (x.1 147 (5 * r + s))) 147 (5 * r + s) (x.1 155 s)) 148 (5 * r + s) (-1)) 150 (5 * r + s) (zI now)) 156 s (zI (r + 1))) 155 s (x.1 155 s)).1 155 t = if t = s then (x.1 155 s) else x.1 155 t := by
            intro t
            rw [wI_at, wI_ne (by decide), wI_ne (by decide), wI_ne (by decide), wI_ne (by decide), wI_ne (by decide), wI_ne (by decide), wI_ne (by decide), oth 155 (by decide) (by decide)]
          have d158 : (wI (wI (wI (wI (wI (wI (wI (wI (wJ (wI (wI (wI (wI (wI (x) (60 + 8 * r + 3) s (x.1 147 (5 * r + s))) (60 + 8 * r + 1) s (x.1 148 (5 * r + s))) (60 + 8 * r + 2) s (-1)) (93 + s) 2 (zI now)) (93 + s) 1 (zI (r + 1))) 187 0 (0 : Int32).toInt64) 138 57 0) 158 s (x.1 158 s - 0)) 149 (5 * r + s) (x.1 147 (5 * r + s))) 147 (5 * r + s) (x.1 155 s)) 148 (5 * r + s) (-1)) 150 (5 * r + s) (zI now)) 156 s (zI (r + 1))) 155 s (x.1 155 s)).1 158 = fun t => if t = s then x.1 158 s - 0 else x.1 158 t := by
            funext t
            rw [wI_ne (by decide), wI_ne (by decide), wI_ne (by decide), wI_ne (by decide), wI_ne (by decide), wI_ne (by decide), wI_at, wI_ne (by decide), oth 158 (by decide) (by decide)]
          have cX : ∀ a, a < 138 → (wI (wI (wI (wI (wI (wI (wI (wI (wJ (wI (wI (wI (wI (wI (x) (60 + 8 * r + 3) s (x.1 147 (5 * r + s))) (60 + 8 * r + 1) s (x.1 148 (5 * r + s))) (60 + 8 * r + 2) s (-1)) (93 + s) 2 (zI now)) (93 + s) 1 (zI (r + 1))) 187 0 (0 : Int32).toInt64) 138 57 0) 158 s (x.1 158 s - 0)) 149 (5 * r + s) (x.1 147 (5 * r + s))) 147 (5 * r + s) (x.1 155 s)) 148 (5 * r + s) (-1)) 150 (5 * r + s) (zI now)) 156 s (zI (r + 1))) 155 s (x.1 155 s)).1 a = (wI (wI (wI (wI (wI (x) (60 + 8 * r + 3) s (x.1 147 (5 * r + s))) (60 + 8 * r + 1) s (x.1 148 (5 * r + s))) (60 + 8 * r + 2) s (-1)) (93 + s) 2 (zI now)) (93 + s) 1 (zI (r + 1))).1 a := by
            intro a ha
            rw [wI_ne (by omega), wI_ne (by omega), wI_ne (by omega), wI_ne (by omega), wI_ne (by omega), wI_ne (by omega), wI_ne (by omega), wI_ne (by omega)]
            rfl
          have cJ : ∀ a, ¬ a = 187 → (wI (wI (wI (wI (wI (wI (wI (wI (wJ (wI (wI (wI (wI (wI (x) (60 + 8 * r + 3) s (x.1 147 (5 * r + s))) (60 + 8 * r + 1) s (x.1 148 (5 * r + s))) (60 + 8 * r + 2) s (-1)) (93 + s) 2 (zI now)) (93 + s) 1 (zI (r + 1))) 187 0 (0 : Int32).toInt64) 138 57 0) 158 s (x.1 158 s - 0)) 149 (5 * r + s) (x.1 147 (5 * r + s))) 147 (5 * r + s) (x.1 155 s)) 148 (5 * r + s) (-1)) 150 (5 * r + s) (zI now)) 156 s (zI (r + 1))) 155 s (x.1 155 s)).2.1 a = (wI (wI (wI (wI (wI (x) (60 + 8 * r + 3) s (x.1 147 (5 * r + s))) (60 + 8 * r + 1) s (x.1 148 (5 * r + s))) (60 + 8 * r + 2) s (-1)) (93 + s) 2 (zI now)) (93 + s) 1 (zI (r + 1))).2.1 a := by
            intro a ha
            show (wJ (wI (wI (wI (wI (wI (x) (60 + 8 * r + 3) s (x.1 147 (5 * r + s))) (60 + 8 * r + 1) s (x.1 148 (5 * r + s))) (60 + 8 * r + 2) s (-1)) (93 + s) 2 (zI now)) (93 + s) 1 (zI (r + 1))) 187 0 (0 : Int32).toInt64).2.1 a = _
            rw [wJ_ne ha]
          have xI : ∀ a, ¬ a = 99 → (a < 60 + 8 * r + 1 ∨ 60 + 8 * r + 3 < a) → ¬ a = 93 + s → (wI (wI (wI (wI (wI (x) (60 + 8 * r + 3) s (x.1 147 (5 * r + s))) (60 + 8 * r + 1) s (x.1 148 (5 * r + s))) (60 + 8 * r + 2) s (-1)) (93 + s) 2 (zI now)) (93 + s) 1 (zI (r + 1))).1 a = x.1 a := by
            intro a h9 h2 h3
            rw [wI_ne h3, wI_ne h3, wI_ne (by omega), wI_ne (by omega), wI_ne (by omega)]
          have x1 : ∀ t, (wI (wI (wI (wI (wI (x) (60 + 8 * r + 3) s (x.1 147 (5 * r + s))) (60 + 8 * r + 1) s (x.1 148 (5 * r + s))) (60 + 8 * r + 2) s (-1)) (93 + s) 2 (zI now)) (93 + s) 1 (zI (r + 1))).1 (60 + 8 * r + 1) t = if t = s then x.1 148 (5 * r + s) else x.1 (60 + 8 * r + 1) t := by
            intro t
            rw [wI_ne (by omega), wI_ne (by omega), wI_ne (by omega), wI_at, wI_ne (by omega)]
          have x2 : ∀ t, (wI (wI (wI (wI (wI (x) (60 + 8 * r + 3) s (x.1 147 (5 * r + s))) (60 + 8 * r + 1) s (x.1 148 (5 * r + s))) (60 + 8 * r + 2) s (-1)) (93 + s) 2 (zI now)) (93 + s) 1 (zI (r + 1))).1 (60 + 8 * r + 2) t = if t = s then -1 else x.1 (60 + 8 * r + 2) t := by
            intro t
            rw [wI_ne (by omega), wI_ne (by omega), wI_at, wI_ne (by omega), wI_ne (by omega)]
          have x3 : ∀ t, (wI (wI (wI (wI (wI (x) (60 + 8 * r + 3) s (x.1 147 (5 * r + s))) (60 + 8 * r + 1) s (x.1 148 (5 * r + s))) (60 + 8 * r + 2) s (-1)) (93 + s) 2 (zI now)) (93 + s) 1 (zI (r + 1))).1 (60 + 8 * r + 3) t = if t = s then x.1 147 (5 * r + s) else x.1 (60 + 8 * r + 3) t := by
            intro t
            rw [wI_ne (by omega), wI_ne (by omega), wI_ne (by omega), wI_ne (by omega), wI_at]
          have x9 : ∀ t, (wI (wI (wI (wI (wI (x) (60 + 8 * r + 3) s (x.1 147 (5 * r + s))) (60 + 8 * r + 1) s (x.1 148 (5 * r + s))) (60 + 8 * r + 2) s (-1)) (93 + s) 2 (zI now)) (93 + s) 1 (zI (r + 1))).1 (93 + s) t = if t = 1 then zI (r + 1) else if t = 2 then zI now else x.1 (93 + s) t := by
            intro t
            rw [wI_at, wI_at, wI_ne (by omega), wI_ne (by omega), wI_ne (by omega)]
          have x99 : (wI (wI (wI (wI (wI (x) (60 + 8 * r + 3) s (x.1 147 (5 * r + s))) (60 + 8 * r + 1) s (x.1 148 (5 * r + s))) (60 + 8 * r + 2) s (-1)) (93 + s) 2 (zI now)) (93 + s) 1 (zI (r + 1))).1 99 = fun t => x.1 99 t := by
            funext t
            rw [wI_ne (by omega), wI_ne (by omega), wI_ne (by omega), wI_ne (by omega), wI_ne (by omega)]
          have JX : ∀ a, (wI (wI (wI (wI (wI (x) (60 + 8 * r + 3) s (x.1 147 (5 * r + s))) (60 + 8 * r + 1) s (x.1 148 (5 * r + s))) (60 + 8 * r + 2) s (-1)) (93 + s) 2 (zI now)) (93 + s) 1 (zI (r + 1))).2.1 a = x.2.1 a := fun _ => rfl
          obtain ⟨z, e4, e2'⟩ := e.split
          have e2' := e2'.one
          refine ⟨S, B, Z, F, U, P, I, now, (hN.fr e4 (by decide)).fr e2' (by decide), (hC.fr e4 (by decide)).fr e2' (by decide), ?_, ?_, (hB.f0 e4 (by decide)).fr e2' (by decide), (hF.fr e4 (by decide)).fr e2' (by decide), (hD.fr e4 (by decide)).fr e2' (by decide), (hP.f0 e4 (by decide)).fr e2' (by decide)⟩
          · rw [cI 140 (by decide) (by decide) (by decide) (by decide) (by decide) (by decide) (by decide) (by decide) (by decide)]
            generalize wI (wI (wI (wI (wI (wI (wI (wI (wJ (wI (wI (wI (wI (wI (x) (60 + 8 * r + 3) s (x.1 147 (5 * r + s))) (60 + 8 * r + 1) s (x.1 148 (5 * r + s))) (60 + 8 * r + 2) s (-1)) (93 + s) 2 (zI now)) (93 + s) 1 (zI (r + 1))) 187 0 (0 : Int32).toInt64) 138 57 0) 158 s (x.1 158 s - 0)) 149 (5 * r + s) (x.1 147 (5 * r + s))) 147 (5 * r + s) (x.1 155 s)) 148 (5 * r + s) (-1)) 150 (5 * r + s) (zI now)) 156 s (zI (r + 1))) 155 s (x.1 155 s) = y at cI d149 d147 d148 d150 d156 d155 cX cJ
            generalize wI (wI (wI (wI (wI (x) (60 + 8 * r + 3) s (x.1 147 (5 * r + s))) (60 + 8 * r + 1) s (x.1 148 (5 * r + s))) (60 + 8 * r + 2) s (-1)) (93 + s) 2 (zI now)) (93 + s) 1 (zI (r + 1)) = w at cX cJ xI x1 x2 x3 x9 JX
            refine ⟨fun r2 hr2 s2 hs2 => ?_, fun s2 hs2 => ?_⟩
            · obtain ⟨⟨f1, f2, f3⟩, a2, ⟨o1, o2, o3⟩, t1, t2, t3, t4⟩ := r1 r2 hr2 s2 hs2
              have hJ : ∀ k, k < 8 → y.2.1 (60 + 8 * r2 + k) = x.2.1 (60 + 8 * r2 + k) := fun k hk => by rw [cJ (60 + 8 * r2 + k) (by omega)]; exact (JX _)
              rw [cX (60 + 8 * r2 + 1) (by omega), cX (60 + 8 * r2 + 2) (by omega), cX (60 + 8 * r2 + 3) (by omega), hJ 4 (by decide), hJ 5 (by decide), hJ 6 (by decide), hJ 7 (by decide), cI 151 (by decide) (by decide) (by decide) (by decide) (by decide) (by decide) (by decide) (by decide) (by decide), cI 152 (by decide) (by decide) (by decide) (by decide) (by decide) (by decide) (by decide) (by decide) (by decide), cI 153 (by decide) (by decide) (by decide) (by decide) (by decide) (by decide) (by decide) (by decide) (by decide), cI 154 (by decide) (by decide) (by decide) (by decide) (by decide) (by decide) (by decide) (by decide) (by decide), d147, d148, d149]
              by_cases hrr : r2 = r
              · subst hrr
                rw [x1, x2, x3]
                by_cases hss : s2 = s
                · subst hss
                  have hs1 : ∀ (a b : Int32), (if s2 = s2 then a else b) = a := fun a b => if_pos rfl
                  rw [hs1, hs1, hs1, if_pos rfl, if_pos rfl, if_pos rfl]
                  exact ⟨⟨hcb, rfl, rfl⟩, a2, ⟨b1, Or.inl rfl, o1⟩, t1.up (by omega), t2.up (by omega), t3.up (by omega), t4.up (by omega)⟩
                · have hsK : ∀ (a b : Int32), (if 5 * r2 + s2 = 5 * r2 + s then a else b) = b := fun a b => if_neg (by omega)
                  have hsS : ∀ (a b : Int32), (if s2 = s then a else b) = b := fun a b => if_neg hss
                  simp only [hsK, hsS]
                  exact ⟨⟨f1, f2, f3⟩, a2, ⟨o1, o2, o3⟩, t1.up (by omega), t2.up (by omega), t3.up (by omega), t4.up (by omega)⟩
              · rw [xI (60 + 8 * r2 + 1) (by omega) (by omega) (by omega), xI (60 + 8 * r2 + 2) (by omega) (by omega) (by omega), xI (60 + 8 * r2 + 3) (by omega) (by omega) (by omega)]
                have hsK : ∀ (a b : Int32), (if 5 * r2 + s2 = 5 * r + s then a else b) = b := fun a b => if_neg (by omega)
                simp only [hsK]
                exact ⟨⟨f1, f2, f3⟩, a2, ⟨o1, o2, o3⟩, t1.up (by omega), t2.up (by omega), t3.up (by omega), t4.up (by omega)⟩
            · obtain ⟨f1, f2, f3, f4, f5⟩ := r2 s2 hs2
              rw [cX (93 + s2) (by omega), cI 157 (by decide) (by decide) (by decide) (by decide) (by decide) (by decide) (by decide) (by decide) (by decide), d155, d156]
              by_cases hss : s2 = s
              · subst hss
                have hs1 : ∀ (a b : Int32), (if s2 = s2 then a else b) = a := fun a b => if_pos rfl
                rw [x9, x9, x9, x9, hs1, hs1]
                have all : ∀ r2, r2 < 4 → y.1 148 (5 * r2 + s2) = -1 := by
                  intro r2 hr2
                  rw [d148]
                  by_cases hrr : r2 = r
                  · rw [if_pos (by omega)]
                  · rw [if_neg (by omega)]
                    rcases (f5 g0).2.2.2.1 r2 hr2 with w | ⟨_, w, _⟩
                    · exact w
                    · rw [er, zI_inj (by omega) (by omega)] at w
                      omega
                refine ⟨f1, f2, f3, fun w => absurd w g0, fun _ => ⟨rfl, aIn_t (by omega) (by omega), (f5 g0).2.2.1, fun r2 hr2 => Or.inl (all r2 hr2), fun _ _ => ?_⟩⟩
                show zI now = _
                rw [xi_zI (by omega), d150, if_pos (by omega)]
              · rw [xI (93 + s2) (by omega) (by omega) (by omega), if_neg hss, if_neg hss]
                refine ⟨f1, f2, f3, fun w r2 hr2 => ?_, fun w => ⟨(f5 w).1, (f5 w).2.1, (f5 w).2.2.1, fun r2 hr2 => ?_, fun w1 w2 => ?_⟩⟩
                · rw [d148, if_neg (by omega)]
                  exact f4 w r2 hr2
                · rw [d148, if_neg (by omega)]
                  exact (f5 w).2.2.2.1 r2 hr2
                · rw [d150, if_neg (by omega)]
                  exact (f5 w).2.2.2.2 w1 w2
          · rw [IFrz]
            refine ⟨z1, ?_, ?_, ?_⟩
            · rw [cX 98 (by decide), xI 98 (by decide) (by omega) (by omega)]
              refine ⟨z2, ?_⟩
              rw [wI_ne (by decide), wI_ne (by decide), wI_ne (by decide), wI_ne (by decide), wI_ne (by decide), wI_ne (by decide), wI_ne (by decide), wI_nj (by decide), o138]
              exact z3
            · rw [cX 100 (by decide), cX 101 (by decide), cX 102 (by decide), cX 99 (by decide), x99, d158, xI 100 (by decide) (by omega) (by omega), xI 101 (by decide) (by omega) (by omega), xI 102 (by decide) (by omega) (by omega), cI 163 (by decide) (by decide) (by decide) (by decide) (by decide) (by decide) (by decide) (by decide) (by decide), cI 164 (by decide) (by decide) (by decide) (by decide) (by decide) (by decide) (by decide) (by decide) (by decide), cI 165 (by decide) (by decide) (by decide) (by decide) (by decide) (by decide) (by decide) (by decide) (by decide)]
              refine ⟨w100, w101, w102, ?_⟩
              funext t
              rw [w99]
              by_cases hts : t = s
              · rw [if_pos hts, hts, Int32.sub_zero]
              · rw [if_neg hts]
            · intro t ht
              rw [d158]
              show aIn (if t = s then x.1 158 s - 0 else x.1 158 t) 10 = true
              by_cases hts : t = s
              · rw [if_pos hts, Int32.sub_zero]; exact hex s (by omega)
              · rw [if_neg hts]; exact hex t ht
