/-! The flags' calls, on -/
theorem isMask_cg {x y : Hs} (h : ∀ a, 166 ≤ a → a ≤ 170 → y.1 a = x.1 a) {u kp : Int32} {i : Nat} {m : Int32} (hm : isMask x u kp i m) : isMask y u kp i m := by
  intro j hj
  rw [hm j hj, onF_cg h]
theorem s157_47 {F U : Nat} {x : Hs} (hF : MF F U x) (u : Int32) : ∀ d n i m, i + d = F → d < n → isMask x u (kpt x (rowU x U u)) i m → ∃ m', gm157_47 n u m (zI i) x = gm157_80 u m' x ∧ isMask x u (kpt x (rowU x U u)) F m'
  | _, 0, _, _, _, h, _ => by omega
  | 0, n + 1, i, m, e, _, hm => by
    refine ⟨m, ?_, ?_⟩
    · rw [gm157_47, if_pos ((ge_lit hF.2.1 (by have := hF.1; omega) (by have := hF.1; omega)).mpr (by omega))]
    · rw [show F = i by omega]; exact hm
  | d + 1, n + 1, i, m, e, h, hm => by
    have hk := hF.1
    have hmi : isMask x u (kpt x (rowU x U u)) (i + 1) (m ||| (cond (onF x u (kpt x (rowU x U u)) 13 i) (1 <<< (zI i &&& 31)) 0)) := by
      intro j hj
      rw [bt_or, hm j hj]
      cases q : onF x u (kpt x (rowU x U u)) 13 i with
      | true =>
        rw [cond_true, bt_one31 (by omega)]
        by_cases hji : j = i
        · rw [hji, q, decide_eq_true rfl, Bool.or_true, decide_eq_true (by omega : i < i + 1)]; rfl
        · rw [decide_eq_false hji, Bool.or_false]
          by_cases h2 : j < i
          · rw [decide_eq_true h2, decide_eq_true (by omega : j < i + 1)]
          · rw [decide_eq_false h2, decide_eq_false (by omega : ¬ j < i + 1)]
      | false =>
        rw [cond_false, bt_0, Bool.or_false]
        by_cases hji : j = i
        · rw [hji, q, Bool.and_false, Bool.and_false]
        · by_cases h2 : j < i
          · rw [decide_eq_true h2, decide_eq_true (by omega : j < i + 1)]
          · rw [decide_eq_false h2, decide_eq_false (by omega : ¬ j < i + 1)]
    obtain ⟨m', g1, g2⟩ := s157_47 hF u d n (i + 1) _ (by omega) (by omega) hmi
    refine ⟨m', ?_, g2⟩
    rw [← g1, gm157_47, if_neg (fun w => by have := (ge_lit hF.2.1 (by omega) (by omega)).mp w; omega), s154 hF u (by omega), Option.bind_some]
    unfold gm157_72
    rw [zI_succ]
    cases onF x u (kpt x (rowU x U u)) 13 i <;> rfl
theorem op_see {c : Nat} {x : Hs} (h : Inv c x) (a1 : Int32) : OpOK c x (gm201 a1 x) (gm157 a1) o64 := by
  have h0 := h
  obtain ⟨S, B, Z, F, U, P, I, now, hN, hC, hR, hZ, hB, hF, hD, hP⟩ := h
  obtain ⟨⟨k1, k2⟩, ⟨e1, e2, e3, e4⟩, ⟨w108, w109, w110, w111, w112, w113, w114⟩, hkl, hnd, hus, hkz, hkb⟩ := id hF
  have t1 : ∀ y, gm155 a1 y = some (b2i (win a1 0 999)) := by
    intro y
    unfold gm155
    rw [s114, Option.bind_some, aBit_b, cond_true]
  have u1 := fun y => s99 a1 0 999 y
  cases q1 : win a1 0 999 with
  | false =>
    refine OpOK.no h0 (k := 1) (b := 0) (by decide) ?_ ?_
    · simp only [gm201, gm78_40, gm78_35, gm78, t1, u1, q1, n10, n20, n21, Option.bind_some, b2i_t, b2i_f, i10, ↓reduceIte, cond_true, cond_false, kb0, kb1, kb2, s92_1, s92_0, s93_1, s93_0, s113_0, s113_1, s113_2, s113_3, aBit_b, aI01, xi0, xi1]
    · simp only [gm157_72, gm157_120, gm157_80, gm157_35, gm157_34, gm157, t1, u1, q1, n10, n20, n21, Option.bind_some, b2i_t, b2i_f, i10, ↓reduceIte, cond_true, cond_false, kb0, kb1, kb2, s92_1, s92_0, s93_1, s93_0, s113_0, s113_1, s113_2, s113_3, aBit_b, aI01, xi0, xi1]
  | true =>
  have R1 := s25 hF a1
  have R2 := s153 e4 k2 hus a1
  obtain ⟨m, g1, g2⟩ := s26 hF a1
  have hm12 : ∀ k, 12 ≤ k → bt m k = false := by
    intro k hk
    by_cases h32 : k < 32
    · rw [g2 k h32, decide_eq_false (by omega), Bool.false_and]
    · exact bt_big m (by omega)
  obtain ⟨w, p1, p2⟩ := pop_ok hm12
  -- the reference's mask is the class's
  have MM : ∀ z : Hs, (∀ a, 166 ≤ a → a ≤ 172 → z.1 a = x.1 a) → z.1 138 31 = zI F → z.1 138 37 = zI U → gm157_47 FU a1 0 0 z = gm157_80 a1 m z := by
    intro z hzc z31 z37
    obtain ⟨m', d1, d2⟩ := s157_47 (x := z) (hF.mf.of (by rw [z31, e2]) (by rw [z37, e4]) (hzc 169 (by decide) (by decide)) (hzc 171 (by decide) (by decide))) a1 F FU 0 0 (by omega) (by unfold FU; omega) (fun j _ => by rw [bt_0, decide_eq_false (by omega), Bool.false_and])
    have hmm : m' = m := by
      apply bt_ext
      intro k hk
      rw [d2 k hk, g2 k hk, onF_cg (x := x) (fun a h1 h2 => hzc a h1 (by omega)), kpt_cg (x := x) (hzc 172 (by decide) (by decide)), rowU_cg (x := x) (hzc 171 (by decide) (by decide))]
    rw [hmm] at d1
    exact d1
  rcases rowU_in x k2 a1 with hr | hr
  · -- a new row, or none left
    by_cases h30 : U = 30
    · subst h30
      have g6 : ¬ zI 30 < 30 := by decide
      have g7 : zI 30 = 30 := rfl
      refine OpOK.no h0 (k := 2) (b := 0) (by decide) ?_ ?_
      · simp only [gm201, gm78_40, gm78_35, gm78, t1, u1, q1, R1, R2, if_pos hr, e3, e4, if_neg g6, if_pos g7, n10, n20, n21, Option.bind_some, b2i_t, b2i_f, i10, ↓reduceIte, cond_true, cond_false, kb0, kb1, kb2, s92_1, s92_0, s93_1, s93_0, s113_0, s113_1, s113_2, s113_3, aBit_b, aI01, xi0, xi1]
      · simp only [gm157_72, gm157_120, gm157_80, gm157_35, gm157_34, gm157, t1, u1, q1, R1, R2, if_pos hr, e3, e4, if_neg g6, if_pos g7, n10, n20, n21, Option.bind_some, b2i_t, b2i_f, i10, ↓reduceIte, cond_true, cond_false, kb0, kb1, kb2, s92_1, s92_0, s93_1, s93_0, s113_0, s113_1, s113_2, s113_3, aBit_b, aI01, xi0, xi1]
    have g6 : zI U < 30 := by rw [show (30 : Int32) = zI 30 from rfl, zI_lt (by omega) (by omega)]; omega
    have g7 : ¬ zI U = 30 := by rw [show (30 : Int32) = zI 30 from rfl, zI_inj (by omega) (by omega)]; omega
    have i30 : aIn (zI U) 30 = true := aIn_t (by omega) (by omega)
    have xU : xi (zI U) = U := xi_zI (by omega)
    have k0 : x.1 172 U = 0 := hkz U (Nat.le_refl _)
    have k01 : x.1 114 U = 0 := by rw [w114]; exact k0
    have r1 : (wI x 113 U a1).1 107 1 = zI U := e3
    have r2 : (wI (wI x 113 U a1) 107 1 (zI (U + 1))).1 114 U = 0 := k01
    have hA : gm201 a1 x = some ((0 : Int32), wJ (wI (wI (wI x 113 U a1) 107 1 (zI (U + 1))) 114 U (0 ||| m)) 187 0 w.toInt64) := by
      simp only [gm201, gm78_40, gm78_35, gm78, gm27, gm27_39, t1, u1, q1, e3, if_pos g6, g1, R1, if_pos hr, i30, xU, r1, zI_succ, r2, p1, n10, n20, n21, Option.bind_some, b2i_t, b2i_f, i10, ↓reduceIte, cond_true, cond_false, kb0, kb1, kb2, s92_1, s92_0, s93_1, s93_0, s113_0, s113_1, s113_2, s113_3, aBit_b, aI01, xi0, xi1]
    have hM : gm157 a1 (wJ (wI (wI (wI x 113 U a1) 107 1 (zI (U + 1))) 114 U (0 ||| m)) 187 0 w.toInt64) = some (w, wI (wI (wI (wI (wI (wJ (wI (wI (wI x 113 U a1) 107 1 (zI (U + 1))) 114 U (0 ||| m)) 187 0 w.toInt64) 138 57 0) 171 U a1) 172 U 0) 138 37 (zI (U + 1))) 172 U (0 ||| m)) := by
      have c0 : ∀ a, 138 ≤ a → (wJ (wI (wI (wI x 113 U a1) 107 1 (zI (U + 1))) 114 U (0 ||| m)) 187 0 w.toInt64).1 a = x.1 a := fun a ha => by rw [wJ_I, wI_ne (by omega), wI_ne (by omega), wI_ne (by omega)]
      generalize wJ (wI (wI (wI x 113 U a1) 107 1 (zI (U + 1))) 114 U (0 ||| m)) 187 0 w.toInt64 = y at c0
      have y4 : y.1 138 37 = zI U := by rw [c0 138 (by decide)]; exact e4
      have R2 := s153 y4 k2 (by rw [c0 171 (by decide)]; exact hus) a1
      rw [rowU_cg (x := x) (c0 171 (by decide)), hr] at R2
      have z4 : (wI y 138 57 0).1 138 37 = zI U := by rw [wI_nj (by decide)]; exact y4
      have R3 := s153 z4 k2 (by rw [wI_ne (by decide), c0 171 (by decide)]; exact hus) a1
      rw [rowU_cg (x := x) (by rw [wI_ne (by decide), c0 171 (by decide)]), hr] at R3
      have z1 : (wI (wI y 138 57 0) 171 U a1).1 138 37 = zI U := z4
      have z2 : (wI (wI (wI y 138 57 0) 171 U a1) 172 U 0).1 138 37 = zI U := z4
      have z3 : (wI (wI (wI (wI y 138 57 0) 171 U a1) 172 U 0) 138 37 (zI (U + 1))).1 172 U = 0 := by rw [wI_ne (by decide), wI_j]
      have z31 : (wI y 138 57 0).1 138 31 = zI F := by rw [wI_nj (by decide), c0 138 (by decide)]; exact e2
      have ML := MM (wI y 138 57 0) (fun a h1 h2 => by rw [wI_ne (by omega), c0 a (by omega)]) z31 z4
      simp only [gm157_72, gm157_120, gm157_80, gm157_35, gm157_34, gm157, t1, q1, R2, y4, if_neg g7, ML, R3, z4, z1, z2, z3, i30, xU, zI_succ, p2, n10, n20, n21, Option.bind_some, b2i_t, b2i_f, i10, ↓reduceIte, cond_true, cond_false, kb0, kb1, kb2, s92_1, s92_0, s93_1, s93_0, s113_0, s113_1, s113_2, s113_3, aBit_b, aI01, xi0, xi1]
    have e : SB 6 x (wI (wI (wI (wI (wI (wJ (wI (wI (wI x 113 U a1) 107 1 (zI (U + 1))) 114 U (0 ||| m)) 187 0 w.toInt64) 138 57 0) 171 U a1) 172 U 0) 138 37 (zI (U + 1))) 172 U (0 ||| m)) := by
      refine SB.I ?_ (by decide) (Or.inl rfl)
      refine SB.M ?_ (Or.inl rfl)
      refine SB.I ?_ (by decide) (Or.inl rfl)
      refine SB.I ?_ (by decide) (Or.inl rfl)
      refine SB.M ?_ (Or.inr rfl)
      refine SB.J ?_ (Or.inr rfl)
      refine SB.I ?_ (by decide) (Or.inl rfl)
      refine SB.I ?_ (by decide) (Or.inl rfl)
      refine SB.I ?_ (by decide) (Or.inl rfl)
      exact SB.rf _ _
    refine ⟨0, _, _, _, hA, hM, rfl, fun _ => rfl, rfl, rfl, ?_⟩
    refine ⟨S, B, Z, F, U + 1, P, I, now, hN.fr e (by decide), hC.fr e (by decide), hR.fr e (by decide), hZ.fr e (by decide), hB.fr e (by decide), ?_, hD.fr e (by decide), hP.fr e (by decide)⟩
    have kk : ∀ i, ((wI (wI (wI (wI (wI (wJ (wI (wI (wI x 113 U a1) 107 1 (zI (U + 1))) 114 U (0 ||| m)) 187 0 w.toInt64) 138 57 0) 171 U a1) 172 U 0) 138 37 (zI (U + 1))) 172 U (0 ||| m)).1 172 i) = if i = U then 0 ||| m else x.1 172 i := by
      intro i
      show (if i = U then 0 ||| m else if i = U then 0 else x.1 172 i) = _
      by_cases hi : i = U
      · rw [if_pos hi, if_pos hi]
      · rw [if_neg hi, if_neg hi, if_neg hi]
    have nr : ∀ i, i < U → ¬ x.1 171 i = a1 := by
      intro i hi w
      rcases fstI_sp (fun k => decide (x.1 171 k = a1)) U 0 with ⟨_, h2⟩ | ⟨j, h1, h2, h3, h4⟩
      · have := h2 i (by omega) (by omega)
        rw [decide_eq_true w] at this
        cases this
      · have h5 : rowU x U a1 = zI j := h4
        rw [hr] at h5
        exact zI_ne_m1 (by omega) h5.symm
    refine ⟨⟨k1, by omega⟩, ⟨e1, e2, rfl, rfl⟩, ⟨w108, w109, w110, w111, w112, ?_, ?_⟩, hkl, hnd, ?_, ?_, ?_⟩
    · show (fun k => if k = U then a1 else x.1 113 k) = (fun k => if k = U then a1 else x.1 171 k)
      rw [w113]
    · funext i
      rw [kk]
      show (if i = U then 0 ||| m else x.1 114 i) = _
      rw [w114]
    · intro i j hi hj
      show (if i = U then a1 else x.1 171 i) = (if j = U then a1 else x.1 171 j) → i = j
      by_cases hiU : i = U
      · by_cases hjU : j = U
        · intro _; omega
        · rw [if_pos hiU, if_neg hjU]
          intro w
          exact absurd w.symm (nr j (by omega))
      · by_cases hjU : j = U
        · rw [if_neg hiU, if_pos hjU]
          intro w
          exact absurd w (nr i (by omega))
        · rw [if_neg hiU, if_neg hjU]
          exact hus i j (by omega) (by omega)
    · intro i hi
      rw [kk, if_neg (by omega)]
      exact hkz i (by omega)
    · intro i k hk
      rw [kk]
      by_cases hi : i = U
      · rw [if_pos hi, bt_or, bt_0, hm12 k hk]; rfl
      · rw [if_neg hi]; exact hkb i k hk
  · -- a row that is there
    have g1' : ¬ rowU x U a1 = -1 := aIn_ne hr
    have i30 := aIn_up hr k2
    generalize hrr : rowU x U a1 = r at *
    have hA : gm201 a1 x = some ((0 : Int32), wJ (wI x 114 (xi r) (x.1 172 (xi r) ||| m)) 187 0 w.toInt64) := by
      by_cases g6 : zI U < 30
      · simp only [gm201, gm78_40, gm78_35, gm78, gm27, gm27_39, t1, u1, q1, e3, if_pos g6, g1, R1, if_neg g1', i30, w114, p1, n10, n20, n21, Option.bind_some, b2i_t, b2i_f, i10, ↓reduceIte, cond_true, cond_false, kb0, kb1, kb2, s92_1, s92_0, s93_1, s93_0, s113_0, s113_1, s113_2, s113_3, aBit_b, aI01, xi0, xi1]
      · simp only [gm201, gm78_40, gm78_35, gm78, gm27, gm27_39, t1, u1, q1, e3, if_neg g6, g1, R1, if_neg g1', i30, w114, p1, n10, n20, n21, Option.bind_some, b2i_t, b2i_f, i10, ↓reduceIte, cond_true, cond_false, kb0, kb1, kb2, s92_1, s92_0, s93_1, s93_0, s113_0, s113_1, s113_2, s113_3, aBit_b, aI01, xi0, xi1]
    have hM : gm157 a1 (wJ (wI x 114 (xi r) (x.1 172 (xi r) ||| m)) 187 0 w.toInt64) = some (w, wI (wI (wJ (wI x 114 (xi r) (x.1 172 (xi r) ||| m)) 187 0 w.toInt64) 138 57 0) 172 (xi r) (x.1 172 (xi r) ||| m)) := by
      have c0 : ∀ a, 138 ≤ a → (wJ (wI x 114 (xi r) (x.1 172 (xi r) ||| m)) 187 0 w.toInt64).1 a = x.1 a := fun a ha => by rw [wJ_I, wI_ne (by omega)]
      generalize wJ (wI x 114 (xi r) (x.1 172 (xi r) ||| m)) 187 0 w.toInt64 = y at c0
      have y4 : y.1 138 37 = zI U := by rw [c0 138 (by decide)]; exact e4
      have R2 := s153 y4 k2 (by rw [c0 171 (by decide)]; exact hus) a1
      rw [rowU_cg (x := x) (c0 171 (by decide)), hrr] at R2
      have z4 : (wI y 138 57 0).1 138 37 = zI U := by rw [wI_nj (by decide)]; exact y4
      have R3 := s153 z4 k2 (by rw [wI_ne (by decide), c0 171 (by decide)]; exact hus) a1
      rw [rowU_cg (x := x) (by rw [wI_ne (by decide), c0 171 (by decide)]), hrr] at R3
      have z31 : (wI y 138 57 0).1 138 31 = zI F := by rw [wI_nj (by decide), c0 138 (by decide)]; exact e2
      have ML := MM (wI y 138 57 0) (fun a h1 h2 => by rw [wI_ne (by omega), c0 a (by omega)]) z31 z4
      have z172 : (wI y 138 57 0).1 172 = x.1 172 := by rw [wI_ne (by decide), c0 172 (by decide)]
      simp only [gm157_72, gm157_120, gm157_80, gm157_35, gm157_34, gm157, t1, q1, R2, if_neg g1', ML, R3, i30, z172, p2, n10, n20, n21, Option.bind_some, b2i_t, b2i_f, i10, ↓reduceIte, cond_true, cond_false, kb0, kb1, kb2, s92_1, s92_0, s93_1, s93_0, s113_0, s113_1, s113_2, s113_3, aBit_b, aI01, xi0, xi1]
    have e : SB 6 x (wI (wI (wJ (wI x 114 (xi r) (x.1 172 (xi r) ||| m)) 187 0 w.toInt64) 138 57 0) 172 (xi r) (x.1 172 (xi r) ||| m)) := by
      refine SB.I ?_ (by decide) (Or.inl rfl)
      refine SB.M ?_ (Or.inr rfl)
      refine SB.J ?_ (Or.inr rfl)
      refine SB.I ?_ (by decide) (Or.inl rfl)
      exact SB.rf _ _
    refine ⟨0, _, _, _, hA, hM, rfl, fun _ => rfl, rfl, rfl, ?_⟩
    refine ⟨S, B, Z, F, U, P, I, now, hN.fr e (by decide), hC.fr e (by decide), hR.fr e (by decide), hZ.fr e (by decide), hB.fr e (by decide), ?_, hD.fr e (by decide), hP.fr e (by decide)⟩
    refine ⟨⟨k1, k2⟩, ⟨e1, e2, e3, e4⟩, ⟨w108, w109, w110, w111, w112, w113, ?_⟩, hkl, hnd, hus, ?_, ?_⟩
    · show (fun k => if k = xi r then x.1 172 (xi r) ||| m else x.1 114 k) = (fun k => if k = xi r then x.1 172 (xi r) ||| m else x.1 172 k)
      rw [w114]
    · intro i hi
      show (if i = xi r then x.1 172 (xi r) ||| m else x.1 172 i) = 0
      have := aIn_lt hr
      rw [if_neg (by omega)]
      exact hkz i hi
    · intro i k hk
      show bt (if i = xi r then x.1 172 (xi r) ||| m else x.1 172 i) k = false
      by_cases hi : i = xi r
      · rw [if_pos hi, bt_or, hkb _ k hk, hm12 k hk]; rfl
      · rw [if_neg hi]; exact hkb i k hk
