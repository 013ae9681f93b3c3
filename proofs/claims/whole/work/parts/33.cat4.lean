/-! The catalogue's calls, on -/
theorem op_accepts {c : Nat} {x : Hs} (h : Inv c x) (a1 a2 a3 a4 : Int32) : OpU c x (gm185 a1 a2 a3 a4 x) (gm125 a1 a2 a3 a4) := by
  have h0 := h
  obtain ⟨S, B, Z, F, U, P, I, now, hN, hC, hR, hZ, hB, hF, hD, hP⟩ := h
  obtain ⟨⟨k1, k2⟩, ⟨e1, e2, e3, e4⟩, ⟨w3, w4, w5, w56, w57⟩, hLH, hbt, hit, hcd, hcl⟩ := id hC
  have t1 := s118 (B := B) a1 e4 k2
  have t2 := s117 (S := S) a2 e2 k1
  have t3 := fun y => s114 a3 0 9 y
  have t4 := fun y => s114 a4 a3 9 y
  have u3 := fun y => s99 a3 0 9 y
  have u4 := fun y => s99 a4 a3 9 y
  cases h1 : aIn a1 B with
  | false =>
    cases h3 : win a3 0 9 <;> cases h4 : win a4 a3 9 <;>
    (
      refine OpU.no h0 (k := 1) ?_ ?_
      · simp only [gm185, gm62_72, gm62_71, gm62_36, gm62_35, gm62, s95_f hC h1, t1, h1, t3, t4, h3, h4, n10, n20, n21, Option.bind_some, b2i_t, b2i_f, i10, ↓reduceIte, cond_true, cond_false, kb0, kb1, kb2, s92_1, s92_0, s93_1, s93_0, s113_0, s113_1, s113_2, s113_3, aBit_b, aI01, xi0, xi1]
      · simp only [gm125_101, gm125_96, gm125_49, gm125_48, gm125_21, gm125_20, gm125, s95_f hC h1, t1, h1, t3, t4, h3, h4, n10, n20, n21, Option.bind_some, b2i_t, b2i_f, i10, ↓reduceIte, cond_true, cond_false, kb0, kb1, kb2, s92_1, s92_0, s93_1, s93_0, s113_0, s113_1, s113_2, s113_3, aBit_b, aI01, xi0, xi1])
  | true =>
  cases h2 : aIn a2 S with
  | false =>
    cases h3 : win a3 0 9 <;> cases h4 : win a4 a3 9 <;>
    (
      refine OpU.no h0 (k := 1) ?_ ?_
      · simp only [gm185, gm62_72, gm62_71, gm62_36, gm62_35, gm62, s95_t hC h1, s94_f hC h2, t1, h1, t2, h2, t3, t4, h3, h4, n10, n20, n21, Option.bind_some, b2i_t, b2i_f, i10, ↓reduceIte, cond_true, cond_false, kb0, kb1, kb2, s92_1, s92_0, s93_1, s93_0, s113_0, s113_1, s113_2, s113_3, aBit_b, aI01, xi0, xi1]
      · simp only [gm125_101, gm125_96, gm125_49, gm125_48, gm125_21, gm125_20, gm125, s95_t hC h1, s94_f hC h2, t1, h1, t2, h2, t3, t4, h3, h4, n10, n20, n21, Option.bind_some, b2i_t, b2i_f, i10, ↓reduceIte, cond_true, cond_false, kb0, kb1, kb2, s92_1, s92_0, s93_1, s93_0, s113_0, s113_1, s113_2, s113_3, aBit_b, aI01, xi0, xi1])
  | true =>
  have F1 := s95_t hC h1
  have F2 := s94_t hC h2
  rw [h1] at t1
  rw [h2] at t2
  cases h3 : win a3 0 9 with
  | false =>
    refine OpU.no h0 (k := 2) ?_ ?_
    · simp only [gm185, gm62_72, gm62_71, gm62_36, gm62_35, gm62, F1, F2, t1, t2, t3, u3, h3, n10, n20, n21, Option.bind_some, b2i_t, b2i_f, i10, ↓reduceIte, cond_true, cond_false, kb0, kb1, kb2, s92_1, s92_0, s93_1, s93_0, s113_0, s113_1, s113_2, s113_3, aBit_b, aI01, xi0, xi1]
    · simp only [gm125_101, gm125_96, gm125_49, gm125_48, gm125_21, gm125_20, gm125, F1, F2, t1, t2, t3, u3, h3, n10, n20, n21, Option.bind_some, b2i_t, b2i_f, i10, ↓reduceIte, cond_true, cond_false, kb0, kb1, kb2, s92_1, s92_0, s93_1, s93_0, s113_0, s113_1, s113_2, s113_3, aBit_b, aI01, xi0, xi1]
  | true =>
  cases h4 : win a4 a3 9 with
  | false =>
    refine OpU.no h0 (k := 2) ?_ ?_
    · simp only [gm185, gm62_72, gm62_71, gm62_36, gm62_35, gm62, F1, F2, t1, t2, t3, u3, h3, t4, u4, h4, n10, n20, n21, Option.bind_some, b2i_t, b2i_f, i10, ↓reduceIte, cond_true, cond_false, kb0, kb1, kb2, s92_1, s92_0, s93_1, s93_0, s113_0, s113_1, s113_2, s113_3, aBit_b, aI01, xi0, xi1]
    · simp only [gm125_101, gm125_96, gm125_49, gm125_48, gm125_21, gm125_20, gm125, F1, F2, t1, t2, t3, u3, h3, t4, u4, h4, n10, n20, n21, Option.bind_some, b2i_t, b2i_f, i10, ↓reduceIte, cond_true, cond_false, kb0, kb1, kb2, s92_1, s92_0, s93_1, s93_0, s113_0, s113_1, s113_2, s113_3, aBit_b, aI01, xi0, xi1]
  | true =>
  have i24 := aIn_up h1 k2
  have i5 := aIn_up (hit _ (aIn_lt h1)) k1
  have u5 := s7 a2 x (a := x.1 4 (xi a1)) (by rw [w4]; exact i5)
  rw [w3, w4] at u5
  have v5 := s115 (x.1 139 (xi (x.1 140 (xi a1)))) a2 x
  have u6 := s104 hC hR h1
  have v6 := s124 a1 x
  cases q1 : hs (x.1 139 (xi (x.1 140 (xi a1)))) a2 with
  | false =>
    rw [q1] at u5 v5
    refine OpU.no h0 (k := 3) ?_ ?_
    · simp only [gm185, gm62_72, gm62_71, gm62_36, gm62_35, gm62, F1, F2, t1, t2, t3, u3, h3, t4, u4, h4, i24, i5, w4, u5, v5, n10, n20, n21, Option.bind_some, b2i_t, b2i_f, i10, ↓reduceIte, cond_true, cond_false, kb0, kb1, kb2, s92_1, s92_0, s93_1, s93_0, s113_0, s113_1, s113_2, s113_3, aBit_b, aI01, xi0, xi1]
    · simp only [gm125_101, gm125_96, gm125_49, gm125_48, gm125_21, gm125_20, gm125, F1, F2, t1, t2, t3, u3, h3, t4, u4, h4, i24, i5, w4, u5, v5, n10, n20, n21, Option.bind_some, b2i_t, b2i_f, i10, ↓reduceIte, cond_true, cond_false, kb0, kb1, kb2, s92_1, s92_0, s93_1, s93_0, s113_0, s113_1, s113_2, s113_3, aBit_b, aI01, xi0, xi1]
  | true =>
  rw [q1] at u5 v5
  cases q2 : outM x a1 with
  | true =>
    rw [q2] at u6 v6
    refine OpU.no h0 (k := 3) ?_ ?_
    · simp only [gm185, gm62_72, gm62_71, gm62_36, gm62_35, gm62, F1, F2, t1, t2, t3, u3, h3, t4, u4, h4, i24, i5, w4, u5, v5, u6, v6, n10, n20, n21, Option.bind_some, b2i_t, b2i_f, i10, ↓reduceIte, cond_true, cond_false, kb0, kb1, kb2, s92_1, s92_0, s93_1, s93_0, s113_0, s113_1, s113_2, s113_3, aBit_b, aI01, xi0, xi1]
    · simp only [gm125_101, gm125_96, gm125_49, gm125_48, gm125_21, gm125_20, gm125, F1, F2, t1, t2, t3, u3, h3, t4, u4, h4, i24, i5, w4, u5, v5, u6, v6, n10, n20, n21, Option.bind_some, b2i_t, b2i_f, i10, ↓reduceIte, cond_true, cond_false, kb0, kb1, kb2, s92_1, s92_0, s93_1, s93_0, s113_0, s113_1, s113_2, s113_3, aBit_b, aI01, xi0, xi1]
  | false =>
  rw [q2] at u6 v6
  have j5 := aIn_up h2 k1
  obtain ⟨b, hb, eb⟩ := aIn_ex h1
  obtain ⟨t, ht, et⟩ := aIn_ex h2
  have xb : xi a1 = b := by rw [eb, xi_zI (by omega)]
  have xt : xi a2 = t := by rw [et, xi_zI (by omega)]
  have hA : gm185 a1 a2 a3 a4 x = some ((0 : Int32), wI (wI x (7 + b) t a3) (32 + b) t a4) := by
    rw [xb] at u5
    simp only [gm185, gm62_72, gm62_71, gm62_36, gm62_35, gm62, F1, F2, u3, u4, h3, h4, i24, j5, w4, u5, u6, xb, xt, n10, n20, n21, Option.bind_some, b2i_t, b2i_f, i10, ↓reduceIte, cond_true, cond_false, kb0, kb1, kb2, s92_1, s92_0, s93_1, s93_0, s113_0, s113_1, s113_2, s113_3, aBit_b, aI01, xi0, xi1]
  have hM : gm125 a1 a2 a3 a4 (wI (wI x (7 + b) t a3) (32 + b) t a4) = some (wI (wI (wI (wI (wI x (7 + b) t a3) (32 + b) t a4) 138 57 0) 142 (5 * b + t) a3) 143 (5 * b + t) a4) := by
    have c0 : ∀ a, 138 ≤ a → (wI (wI x (7 + b) t a3) (32 + b) t a4).1 a = x.1 a := fun a ha => by rw [wI_ne (by omega), wI_ne (by omega)]
    generalize wI (wI x (7 + b) t a3) (32 + b) t a4 = y at c0
    have t1 := s118 (B := B) a1 (x := y) (by rw [c0 138 (by decide)]; exact e4) k2
    have t2 := s117 (S := S) a2 (x := y) (by rw [c0 138 (by decide)]; exact e2) k1
    rw [h1] at t1
    rw [h2] at t2
    have v5 := s115 (x.1 139 (xi (x.1 140 (xi a1)))) a2 y
    have v6 := s124 a1 y
    rw [show outM y a1 = outM x a1 by unfold outM; rw [c0 147 (by decide), c0 148 (by decide)]] at v6
    have ix : 5 * a1 + a2 = zI (5 * b + t) := by rw [eb, et, show (5 : Int32) = zI 5 from rfl, zI_mul, zI_add]
    have i120 : aIn (zI (5 * b + t)) 120 = true := aIn_t (by omega) (by omega)
    have xix : xi (zI (5 * b + t)) = 5 * b + t := xi_zI (by omega)
    simp only [gm125_101, gm125_96, gm125_49, gm125_48, gm125_21, gm125_20, gm125, t1, t2, t3, t4, h3, h4, i24, i5, c0 139 (by decide), c0 140 (by decide), v5, q1, v6, q2, ix, i120, xix, n10, n20, n21, Option.bind_some, b2i_t, b2i_f, i10, ↓reduceIte, cond_true, cond_false, kb0, kb1, kb2, s92_1, s92_0, s93_1, s93_0, s113_0, s113_1, s113_2, s113_3, aBit_b, aI01, xi0, xi1]
  have o7 : own (7 + b) = 1 := by unfold own; rw [if_neg (by omega), if_neg (by omega), if_pos (by omega)]
  have o32 : own (32 + b) = 1 := by unfold own; rw [if_neg (by omega), if_neg (by omega), if_pos (by omega)]
  have e : SB 1 x (wI (wI (wI (wI (wI x (7 + b) t a3) (32 + b) t a4) 138 57 0) 142 (5 * b + t) a3) 143 (5 * b + t) a4) := (((((SB.rf 1 x).I (by omega) (Or.inl o7)).I (by omega) (Or.inl o32)).M (Or.inr rfl)).I (by decide) (Or.inl rfl)).I (by decide) (Or.inl rfl)
  refine ⟨0, _, _, hA, hM, ?_, ?_, ?_, ?_⟩
  · rw [wI_ne (by decide), wI_ne (by decide), wI_j]
  · rw [wI_ne (by omega), wI_ne (by omega)]
  · exact e.c 0 (by decide) (by decide) (by decide)
  · have cO : ∀ a, ¬ a = 7 + b → ¬ a = 32 + b → ¬ a = 138 → ¬ a = 142 → ¬ a = 143 → (wI (wI (wI (wI (wI x (7 + b) t a3) (32 + b) t a4) 138 57 0) 142 (5 * b + t) a3) 143 (5 * b + t) a4).1 a = x.1 a := by
      intro a n1 n2 n3 n4 n5
      rw [wI_ne n5, wI_ne n4, wI_ne n3, wI_ne n2, wI_ne n1]
    have c142 : ∀ k, (wI (wI (wI (wI (wI x (7 + b) t a3) (32 + b) t a4) 138 57 0) 142 (5 * b + t) a3) 143 (5 * b + t) a4).1 142 k = if k = 5 * b + t then a3 else x.1 142 k := by
      intro k
      rw [wI_ne (by decide), wI_at, wI_ne (by decide), wI_ne (by omega), wI_ne (by omega)]
    have c143 : ∀ k, (wI (wI (wI (wI (wI x (7 + b) t a3) (32 + b) t a4) 138 57 0) 142 (5 * b + t) a3) 143 (5 * b + t) a4).1 143 k = if k = 5 * b + t then a4 else x.1 143 k := by
      intro k
      rw [wI_at, wI_ne (by decide), wI_ne (by decide), wI_ne (by omega), wI_ne (by omega)]
    have c7 : ∀ k, (wI (wI (wI (wI (wI x (7 + b) t a3) (32 + b) t a4) 138 57 0) 142 (5 * b + t) a3) 143 (5 * b + t) a4).1 (7 + b) k = if k = t then a3 else x.1 (7 + b) k := by
      intro k
      rw [wI_ne (by omega), wI_ne (by omega), wI_ne (by omega), wI_ne (by omega), wI_at]
    have c32 : ∀ k, (wI (wI (wI (wI (wI x (7 + b) t a3) (32 + b) t a4) 138 57 0) 142 (5 * b + t) a3) 143 (5 * b + t) a4).1 (32 + b) k = if k = t then a4 else x.1 (32 + b) k := by
      intro k
      rw [wI_ne (by omega), wI_ne (by omega), wI_ne (by omega), wI_at, wI_ne (by omega)]
    have c138 : ∀ k, ¬ k = 57 → (wI (wI (wI (wI (wI x (7 + b) t a3) (32 + b) t a4) 138 57 0) 142 (5 * b + t) a3) 143 (5 * b + t) a4).1 138 k = x.1 138 k := by
      intro k hk
      rw [wI_ne (by decide), wI_ne (by decide), wI_nj hk, wI_ne (by omega), wI_ne (by omega)]
    generalize wI (wI (wI (wI (wI x (7 + b) t a3) (32 + b) t a4) 138 57 0) 142 (5 * b + t) a3) 143 (5 * b + t) a4 = y at e cO c142 c143 c7 c32 c138
    have n0 : ∀ a, a < 7 ∨ 55 < a → ¬ a = 7 + b ∧ ¬ a = 32 + b := fun a ha => by omega
    have cp : ∀ a, (a < 7 ∨ 55 < a) → ¬ a = 138 → ¬ a = 142 → ¬ a = 143 → y.1 a = x.1 a := fun a ha n1 n2 n3 => cO a (n0 a ha).1 (n0 a ha).2 n1 n2 n3
    refine ⟨S, B, Z, F, U, P, I, now, hN.fr e (by decide), ?_, ?_, hZ.fr e (by decide), hB.fr e (by decide), hF.fr e (by decide), hD.fr e (by decide), hP.fr e (by decide)⟩
    · refine ⟨⟨k1, k2⟩, ?_, ?_, ?_, ?_, ?_, ?_, ?_⟩
      · rw [cp 2 (by decide) (by decide) (by decide) (by decide), c138 1 (by decide), c138 3 (by decide)]
        exact ⟨e1, e2, e3, e4⟩
      · rw [cp 3 (by decide) (by decide) (by decide) (by decide), cp 4 (by decide) (by decide) (by decide) (by decide), cp 5 (by decide) (by decide) (by decide) (by decide), cp 56 (by decide) (by decide) (by decide) (by decide), cp 57 (by decide) (by decide) (by decide) (by decide), cp 139 (by decide) (by decide) (by decide) (by decide), cp 140 (by decide) (by decide) (by decide) (by decide), cp 141 (by decide) (by decide) (by decide) (by decide), cp 144 (by decide) (by decide) (by decide) (by decide), cp 145 (by decide) (by decide) (by decide) (by decide)]
        exact ⟨w3, w4, w5, w56, w57⟩
      · intro b2 hb2 s hs
        rw [c142, c143]
        by_cases hbb : b2 = b
        · rw [hbb, c7, c32]
          by_cases hst : s = t
          · rw [if_pos hst, if_pos hst, if_pos (by omega), if_pos (by omega)]; exact ⟨rfl, rfl⟩
          · rw [if_neg hst, if_neg hst, if_neg (by omega), if_neg (by omega)]
            exact hLH b (by omega) s hs
        · rw [cO (7 + b2) (by omega) (by omega) (by omega) (by omega) (by omega), cO (32 + b2) (by omega) (by omega) (by omega) (by omega) (by omega), if_neg (by omega), if_neg (by omega)]
          exact hLH b2 hb2 s hs
      · rw [cp 139 (by decide) (by decide) (by decide) (by decide)]; exact hbt
      · rw [cp 140 (by decide) (by decide) (by decide) (by decide)]; exact hit
      · rw [cp 145 (by decide) (by decide) (by decide) (by decide)]; exact hcd
      · rw [cp 58 (by decide) (by decide) (by decide) (by decide), cp 146 (by decide) (by decide) (by decide) (by decide)]; exact hcl
    · rw [cp 140 (by decide) (by decide) (by decide) (by decide)]
      exact hR.fr e (by decide)
theorem op_uses {c : Nat} {x : Hs} (h : Inv c x) (a1 a2 : Int32) : OpU c x (gm186 a1 a2 x) (gm126 a1 a2) := by
  have h0 := h
  obtain ⟨S, B, Z, F, U, P, I, now, hN, hC, hR, hZ, hB, hF, hD, hP⟩ := h
  obtain ⟨⟨k1, k2⟩, ⟨e1, e2, e3, e4⟩, ⟨w3, w4, w5, w56, w57⟩, hLH, hbt, hit, hcd, hcl⟩ := id hC
  have t1 := s118 (B := B) a1 e4 k2
  have t2 : ∀ y, gm114 a2 0 4 y = some (b2i (aIn a2 5)) := fun y => by rw [s114, show (4 : Int32) = zI 4 from rfl, win_lit a2 (by omega)]
  cases h1 : aIn a1 B with
  | false =>
    refine OpU.no h0 (k := 1) ?_ ?_
    · simp only [gm186, gm63_35, gm63_34, gm63, s95_f hC h1, t1, h1, n10, n20, n21, Option.bind_some, b2i_t, b2i_f, i10, ↓reduceIte, cond_true, cond_false, kb0, kb1, kb2, s92_1, s92_0, s93_1, s93_0, s113_0, s113_1, s113_2, s113_3, aBit_b, aI01, xi0, xi1]
    · simp only [gm126_58, gm126_53, gm126_22, gm126_21, gm126, s95_f hC h1, t1, h1, n10, n20, n21, Option.bind_some, b2i_t, b2i_f, i10, ↓reduceIte, cond_true, cond_false, kb0, kb1, kb2, s92_1, s92_0, s93_1, s93_0, s113_0, s113_1, s113_2, s113_3, aBit_b, aI01, xi0, xi1]
  | true =>
  have F1 := s95_t hC h1
  rw [h1] at t1
  cases h2 : aIn a2 5 with
  | false =>
    have F2 : gm91 a2 5 x = some (.inr 0, x) := s91_f (n := 5) x h2 (by omega)
    refine OpU.no h0 (k := 1) ?_ ?_
    · simp only [gm186, gm63_35, gm63_34, gm63, F1, F2, t1, t2, h2, n10, n20, n21, Option.bind_some, b2i_t, b2i_f, i10, ↓reduceIte, cond_true, cond_false, kb0, kb1, kb2, s92_1, s92_0, s93_1, s93_0, s113_0, s113_1, s113_2, s113_3, aBit_b, aI01, xi0, xi1]
    · simp only [gm126_58, gm126_53, gm126_22, gm126_21, gm126, F1, F2, t1, t2, h2, n10, n20, n21, Option.bind_some, b2i_t, b2i_f, i10, ↓reduceIte, cond_true, cond_false, kb0, kb1, kb2, s92_1, s92_0, s93_1, s93_0, s113_0, s113_1, s113_2, s113_3, aBit_b, aI01, xi0, xi1]
  | true =>
  have F2 : gm91 a2 5 x = some (.inl (), x) := s91_t (n := 5) x h2 (by omega)
  have i24 := aIn_up h1 k2
  have u5 := s11 a2 x i24
  rw [w56] at u5
  have v5 := s115 (x.1 144 (xi a1)) a2 x
  have u6 := s104 hC hR h1
  have v6 := s124 a1 x
  cases q1 : hs (x.1 144 (xi a1)) a2 with
  | true =>
    rw [q1] at u5 v5
    refine OpU.no h0 (k := 2) ?_ ?_
    · simp only [gm186, gm63_35, gm63_34, gm63, F1, F2, t1, t2, h2, i24, u5, v5, n10, n20, n21, Option.bind_some, b2i_t, b2i_f, i10, ↓reduceIte, cond_true, cond_false, kb0, kb1, kb2, s92_1, s92_0, s93_1, s93_0, s113_0, s113_1, s113_2, s113_3, aBit_b, aI01, xi0, xi1]
    · simp only [gm126_58, gm126_53, gm126_22, gm126_21, gm126, F1, F2, t1, t2, h2, i24, u5, v5, n10, n20, n21, Option.bind_some, b2i_t, b2i_f, i10, ↓reduceIte, cond_true, cond_false, kb0, kb1, kb2, s92_1, s92_0, s93_1, s93_0, s113_0, s113_1, s113_2, s113_3, aBit_b, aI01, xi0, xi1]
  | false =>
  rw [q1] at u5 v5
  cases q2 : outM x a1 with
  | true =>
    rw [q2] at u6 v6
    refine OpU.no h0 (k := 2) ?_ ?_
    · simp only [gm186, gm63_35, gm63_34, gm63, F1, F2, t1, t2, h2, i24, u5, v5, u6, v6, n10, n20, n21, Option.bind_some, b2i_t, b2i_f, i10, ↓reduceIte, cond_true, cond_false, kb0, kb1, kb2, s92_1, s92_0, s93_1, s93_0, s113_0, s113_1, s113_2, s113_3, aBit_b, aI01, xi0, xi1]
    · simp only [gm126_58, gm126_53, gm126_22, gm126_21, gm126, F1, F2, t1, t2, h2, i24, u5, v5, u6, v6, n10, n20, n21, Option.bind_some, b2i_t, b2i_f, i10, ↓reduceIte, cond_true, cond_false, kb0, kb1, kb2, s92_1, s92_0, s93_1, s93_0, s113_0, s113_1, s113_2, s113_3, aBit_b, aI01, xi0, xi1]
  | false =>
  rw [q2] at u6 v6
  have hA : gm186 a1 a2 x = some ((0 : Int32), wI x 56 (xi a1) (x.1 144 (xi a1) ||| (1 <<< (a2 &&& 31)))) := by
    simp only [gm186, gm63_35, gm63_34, gm63, F1, F2, i24, w56, u5, u6, n10, n20, n21, Option.bind_some, b2i_t, b2i_f, i10, ↓reduceIte, cond_true, cond_false, kb0, kb1, kb2, s92_1, s92_0, s93_1, s93_0, s113_0, s113_1, s113_2, s113_3, aBit_b, aI01, xi0, xi1]
  have hM : gm126 a1 a2 (wI x 56 (xi a1) (x.1 144 (xi a1) ||| (1 <<< (a2 &&& 31)))) = some (wI (wI (wI x 56 (xi a1) (x.1 144 (xi a1) ||| (1 <<< (a2 &&& 31)))) 138 57 0) 144 (xi a1) (x.1 144 (xi a1) ||| (1 <<< (a2 &&& 31)))) := by
    have c0 : ∀ a, 138 ≤ a → (wI x 56 (xi a1) (x.1 144 (xi a1) ||| (1 <<< (a2 &&& 31)))).1 a = x.1 a := fun a ha => by rw [wI_ne (by omega)]
    generalize wI x 56 (xi a1) (x.1 144 (xi a1) ||| (1 <<< (a2 &&& 31))) = y at c0
    have t1 := s118 (B := B) a1 (x := y) (by rw [c0 138 (by decide)]; exact e4) k2
    rw [h1] at t1
    have v5 := s115 (x.1 144 (xi a1)) a2 y
    have v6 := s124 a1 y
    rw [show outM y a1 = outM x a1 by unfold outM; rw [c0 147 (by decide), c0 148 (by decide)]] at v6
    have z : (wI y 138 57 0).1 144 = x.1 144 := by rw [wI_ne (by decide), c0 144 (by decide)]
    simp only [gm126_58, gm126_53, gm126_22, gm126_21, gm126, t1, t2, h2, i24, c0 144 (by decide), v5, q1, v6, q2, z, n10, n20, n21, Option.bind_some, b2i_t, b2i_f, i10, ↓reduceIte, cond_true, cond_false, kb0, kb1, kb2, s92_1, s92_0, s93_1, s93_0, s113_0, s113_1, s113_2, s113_3, aBit_b, aI01, xi0, xi1]
  have e : SB 1 x (wI (wI (wI x 56 (xi a1) (x.1 144 (xi a1) ||| (1 <<< (a2 &&& 31)))) 138 57 0) 144 (xi a1) (x.1 144 (xi a1) ||| (1 <<< (a2 &&& 31)))) := (((SB.rf 1 x).I (by decide) (Or.inl rfl)).M (Or.inr rfl)).I (by decide) (Or.inl rfl)
  refine ⟨0, _, _, hA, hM, ?_, rfl, rfl, ?_⟩
  · rw [wI_ne (by decide), wI_j]
  ·
    refine ⟨S, B, Z, F, U, P, I, now, hN.fr e (by decide), ?_, hR.fr e (by decide), hZ.fr e (by decide), hB.fr e (by decide), hF.fr e (by decide), hD.fr e (by decide), hP.fr e (by decide)⟩
    refine ⟨⟨k1, k2⟩, ⟨e1, e2, e3, e4⟩, ⟨w3, w4, w5, ?_, w57⟩, ?_, hbt, hit, hcd, hcl⟩
    · rw [wI_ne (by decide), wI_ne (by decide), wI_fn, wI_fn, wI_ne (by decide), wI_ne (by decide), w56]
    · exact LH_of hLH (fun a h1 h2 => by rw [wI_ne (by omega), wI_ne (by omega), wI_ne (by omega)]) rfl rfl
theorem op_condemn {c : Nat} {x : Hs} (h : Inv c x) (a1 : Int32) : OpOK c x (gm187 a1 x) (gm127 a1) o01 := by
  have h0 := h
  obtain ⟨S, B, Z, F, U, P, I, now, hN, hC, hR, hZ, hB, hF, hD, hP⟩ := h
  obtain ⟨⟨k1, k2⟩, ⟨e1, e2, e3, e4⟩, ⟨w3, w4, w5, w56, w57⟩, hLH, hbt, hit, hcd, hcl⟩ := id hC
  have t1 := s118 (B := B) a1 e4 k2
  have j1 : ¬ (1 : Int32) = 0 := by decide
  cases h1 : aIn a1 B with
  | false =>
    refine OpOK.no h0 (k := 1) (b := 0) (by decide) ?_ ?_
    · simp only [gm187_15, gm187, gm64_30, gm64, s95_f hC h1, t1, h1, n10, n20, n21, Option.bind_some, b2i_t, b2i_f, i10, ↓reduceIte, cond_true, cond_false, kb0, kb1, kb2, s92_1, s92_0, s93_1, s93_0, s113_0, s113_1, s113_2, s113_3, aBit_b, aI01, xi0, xi1]
    · simp only [gm127_41, gm127_14, gm127, s95_f hC h1, t1, h1, n10, n20, n21, Option.bind_some, b2i_t, b2i_f, i10, ↓reduceIte, cond_true, cond_false, kb0, kb1, kb2, s92_1, s92_0, s93_1, s93_0, s113_0, s113_1, s113_2, s113_3, aBit_b, aI01, xi0, xi1]
  | true =>
  have F1 := s95_t hC h1
  have i24 := aIn_up h1 k2
  rw [h1] at t1
  rcases hcd (xi a1) with q | q
  ·
    have hA : gm187 a1 x = some ((0 : Int32), wJ (wI x 57 (xi a1) 1) 187 0 1) := by
      simp only [gm187_15, gm187, gm64_30, gm64, F1, i24, w57, q, wI_j, if_neg j1, n10, n20, n21, Option.bind_some, b2i_t, b2i_f, i10, ↓reduceIte, cond_true, cond_false, kb0, kb1, kb2, s92_1, s92_0, s93_1, s93_0, s113_0, s113_1, s113_2, s113_3, aBit_b, aI01, xi0, xi1]
      rfl
    have hM : gm127 a1 (wJ (wI x 57 (xi a1) 1) 187 0 1) = some (1, wI (wI (wJ (wI x 57 (xi a1) 1) 187 0 1) 138 57 0) 145 (xi a1) 1) := by
      have c0 : ∀ a, 138 ≤ a → (wJ (wI x 57 (xi a1) 1) 187 0 1).1 a = x.1 a := fun a ha => by rw [wJ_I, wI_ne (by omega)]
      generalize wJ (wI x 57 (xi a1) 1) 187 0 1 = y at c0
      have t1 := s118 (B := B) a1 (x := y) (by rw [c0 138 (by decide)]; exact e4) k2
      rw [h1] at t1
      have z : (wI y 138 57 0).1 145 = x.1 145 := by rw [wI_ne (by decide), c0 145 (by decide)]
      simp only [gm127_41, gm127_14, gm127, t1, i24, z, q, wI_j, if_neg j1, n10, n20, n21, Option.bind_some, b2i_t, b2i_f, i10, ↓reduceIte, cond_true, cond_false, kb0, kb1, kb2, s92_1, s92_0, s93_1, s93_0, s113_0, s113_1, s113_2, s113_3, aBit_b, aI01, xi0, xi1]
      rfl
    have e : SB 1 x (wI (wI (wJ (wI x 57 (xi a1) 1) 187 0 1) 138 57 0) 145 (xi a1) 1) := ((((SB.rf 1 x).I (by decide) (Or.inl rfl)).J (Or.inr rfl)).M (Or.inr rfl)).I (by decide) (Or.inl rfl)
    refine ⟨0, _, _, _, hA, hM, ?_, fun _ => ?_, rfl, rfl, ?_⟩
    · rw [wI_ne (by decide), wI_j]
    · rfl
    ·
      refine ⟨S, B, Z, F, U, P, I, now, hN.fr e (by decide), ?_, hR.fr e (by decide), hZ.fr e (by decide), hB.fr e (by decide), hF.fr e (by decide), hD.fr e (by decide), hP.fr e (by decide)⟩
      refine ⟨⟨k1, k2⟩, ⟨e1, e2, e3, e4⟩, ⟨w3, w4, w5, w56, ?_⟩, ?_, hbt, hit, ?_, hcl⟩
      · rw [wI_ne (by decide), wI_ne (by decide), wJ_I, wI_fn, wI_fn, wI_ne (by decide), wJ_I, wI_ne (by decide), w57]
      · exact LH_of hLH (fun a h1 h2 => by rw [wI_ne (by omega), wI_ne (by omega), wJ_I, wI_ne (by omega)]) rfl rfl
      · intro b
        rw [wI_at]
        by_cases hb : b = xi a1
        · rw [if_pos hb]; decide
        · rw [if_neg hb]; exact hcd b
  ·
    have hA : gm187 a1 x = some ((0 : Int32), wJ (wI x 57 (xi a1) 0) 187 0 0) := by
      simp only [gm187_15, gm187, gm64_30, gm64, F1, i24, w57, q, wI_j, if_neg j1, n10, n20, n21, Option.bind_some, b2i_t, b2i_f, i10, ↓reduceIte, cond_true, cond_false, kb0, kb1, kb2, s92_1, s92_0, s93_1, s93_0, s113_0, s113_1, s113_2, s113_3, aBit_b, aI01, xi0, xi1]
      rfl
    have hM : gm127 a1 (wJ (wI x 57 (xi a1) 0) 187 0 0) = some (0, wI (wI (wJ (wI x 57 (xi a1) 0) 187 0 0) 138 57 0) 145 (xi a1) 0) := by
      have c0 : ∀ a, 138 ≤ a → (wJ (wI x 57 (xi a1) 0) 187 0 0).1 a = x.1 a := fun a ha => by rw [wJ_I, wI_ne (by omega)]
      generalize wJ (wI x 57 (xi a1) 0) 187 0 0 = y at c0
      have t1 := s118 (B := B) a1 (x := y) (by rw [c0 138 (by decide)]; exact e4) k2
      rw [h1] at t1
      have z : (wI y 138 57 0).1 145 = x.1 145 := by rw [wI_ne (by decide), c0 145 (by decide)]
      simp only [gm127_41, gm127_14, gm127, t1, i24, z, q, wI_j, if_neg j1, n10, n20, n21, Option.bind_some, b2i_t, b2i_f, i10, ↓reduceIte, cond_true, cond_false, kb0, kb1, kb2, s92_1, s92_0, s93_1, s93_0, s113_0, s113_1, s113_2, s113_3, aBit_b, aI01, xi0, xi1]
      rfl
    have e : SB 1 x (wI (wI (wJ (wI x 57 (xi a1) 0) 187 0 0) 138 57 0) 145 (xi a1) 0) := ((((SB.rf 1 x).I (by decide) (Or.inl rfl)).J (Or.inr rfl)).M (Or.inr rfl)).I (by decide) (Or.inl rfl)
    refine ⟨0, _, _, _, hA, hM, ?_, fun _ => ?_, rfl, rfl, ?_⟩
    · rw [wI_ne (by decide), wI_j]
    · rfl
    ·
      refine ⟨S, B, Z, F, U, P, I, now, hN.fr e (by decide), ?_, hR.fr e (by decide), hZ.fr e (by decide), hB.fr e (by decide), hF.fr e (by decide), hD.fr e (by decide), hP.fr e (by decide)⟩
      refine ⟨⟨k1, k2⟩, ⟨e1, e2, e3, e4⟩, ⟨w3, w4, w5, w56, ?_⟩, ?_, hbt, hit, ?_, hcl⟩
      · rw [wI_ne (by decide), wI_ne (by decide), wJ_I, wI_fn, wI_fn, wI_ne (by decide), wJ_I, wI_ne (by decide), w57]
      · exact LH_of hLH (fun a h1 h2 => by rw [wI_ne (by omega), wI_ne (by omega), wJ_I, wI_ne (by omega)]) rfl rfl
      · intro b
        rw [wI_at]
        by_cases hb : b = xi a1
        · rw [if_pos hb]; decide
        · rw [if_neg hb]; exact hcd b
