/-! The catalogue's calls, on -/
def fillI (q : Nat) (v : Int32) : Nat → Nat → Hs → Hs
  | 0, _, x => x
  | d + 1, i, x => fillI q v d (i + 1) (wI x q i v)
theorem fillI_ne {q a : Nat} {v : Int32} (h : ¬ a = q) : ∀ d i x, (fillI q v d i x).1 a = x.1 a
  | 0, _, _ => rfl
  | d + 1, i, x => by rw [fillI, fillI_ne h d (i + 1), wI_ne h]
theorem fillI_at (q k : Nat) (v : Int32) : ∀ d i x, (fillI q v d i x).1 q k = if i ≤ k ∧ k < i + d then v else x.1 q k
  | 0, i, x => by rw [if_neg (by omega)]; rfl
  | d + 1, i, x => by
    rw [fillI, fillI_at q k v d (i + 1), wI_at]
    by_cases h1 : k = i
    · rw [if_neg (by omega), if_pos h1, if_pos (by omega)]
    · rw [if_neg h1]
      by_cases h2 : i + 1 ≤ k ∧ k < i + 1 + d
      · rw [if_pos h2, if_pos (by omega)]
      · rw [if_neg h2, if_neg (by omega)]
theorem fillI_2 (q : Nat) (v : Int32) : ∀ d i x, (fillI q v d i x).2 = x.2
  | 0, _, _ => rfl
  | d + 1, i, x => by rw [fillI, fillI_2 q v d (i + 1)]; rfl
theorem SB.F {g : Nat} {x : Hs} {q : Nat} {v : Int32} (hq : ¬ q = 138) (ho : own q = g ∨ own q = 11) : ∀ d i y, SB g x y → SB g x (fillI q v d i y)
  | 0, _, _, h => h
  | d + 1, i, y, h => SB.F hq ho d (i + 1) _ (h.I hq ho)
theorem s181_5 (q : Nat) (v : Int32) : ∀ d n i x, i + d = 5 → d < n → gm181_5 n q v (zI i) (zI 5) x = some (fillI q v d i x)
  | _, 0, _, _, _, h => by omega
  | 0, n + 1, i, x, e, _ => by
    rw [gm181_5, if_pos ((ge_lit (v := zI 5) (N := 5) rfl (by omega) (by omega)).mpr (by omega))]
    rfl
  | d + 1, n + 1, i, x, e, h => by
    rw [gm181_5, if_neg (fun w => by have := (ge_lit (v := zI 5) (N := 5) rfl (by omega) (by omega)).mp w; omega), aIn_t (by omega) (by omega), cond_true, xi_zI (by omega), zI_succ, s181_5 q v d n (i + 1) _ (by omega) (by omega)]
    rfl
theorem s181 (q : Nat) (v : Int32) (x : Hs) : gm181 q v x = some (fillI q v 5 0 x) := s181_5 q v 5 FU 0 x (by omega) (by unfold FU; omega)
theorem s123_71 {B : Nat} (hb : B < 24) : ∀ d n i x, x.1 138 3 = zI B → i + d = 5 → d < n → gm123_71 n (zI i) x = gm123_97 (fillI 143 9 d (5 * B + i) x)
  | _, 0, _, _, _, _, h => by omega
  | 0, n + 1, i, x, hB, e, _ => by
    rw [gm123_71, if_pos ((ge_lit (v := 5) (N := 5) rfl (by omega) (by omega)).mpr (by omega))]
    rfl
  | d + 1, n + 1, i, x, hB, e, h => by
    rw [gm123_71, if_neg (fun w => by have := (ge_lit (v := 5) (N := 5) rfl (by omega) (by omega)).mp w; omega), hB, show (5 : Int32) = zI 5 from rfl, zI_mul, zI_add, aIn_t (by omega) (by omega), cond_true, xi_zI (by omega), zI_succ, s123_71 hb d n (i + 1) _ (by rw [wI_ne (by decide)]; exact hB) (by omega) (by omega)]
    rfl
theorem IRng.its {c B : Nat} {its its2 : Nat → Int32} {x : Hs} (h : IRng c B its x) (e : ∀ b, b < B → its2 b = its b) : IRng c (B + 1) its2 x := by
  have v : ∀ {s w}, vB B its s w → vB (B + 1) its2 s w := by
    rintro s w (h | ⟨h1, h2⟩)
    · exact Or.inl h
    · exact Or.inr ⟨aIn_up h1 (by omega), by rw [e _ (aIn_lt h1)]; exact h2⟩
  refine ⟨fun r hr s hs => ?_, fun s hs => ?_⟩
  · obtain ⟨a1, a2, ⟨b1, b2, b3⟩, a4⟩ := h.1 r hr s hs
    exact ⟨a1, a2, ⟨v b1, v b2, v b3⟩, a4⟩
  · obtain ⟨a1, a2⟩ := h.2 s hs
    exact ⟨v a1, a2⟩
theorem op_build {c : Nat} {x : Hs} (h : Inv c x) (a1 a2 : Int32) : OpOK c x (gm184 a1 a2 x) (gm123 a1 a2) o64 := by
  have h0 := h
  obtain ⟨S, B, Z, F, U, P, I, now, hN, hC, hR, hZ, hB, hF, hD, hP⟩ := h
  obtain ⟨⟨k1, k2⟩, ⟨e1, e2, e3, e4⟩, ⟨w3, w4, w5, w56, w57⟩, hLH, hbt, hit, hcd, hcl⟩ := id hC
  have t1 := s117 (S := S) a1 e2 k1
  have t2 := fun y => s114 a2 0 9 y
  have u2 := s99 a2 0 9 x
  cases h1 : aIn a1 S with
  | false =>
    refine OpOK.no h0 (k := 1) (b := 0) (by decide) ?_ ?_
    · simp only [gm184, gm61_32, gm61, s94_f hC h1, t1, h1, n10, n20, n21, Option.bind_some, b2i_t, b2i_f, i10, ↓reduceIte, cond_true, cond_false, kb0, kb1, kb2, s92_1, s92_0, s93_1, s93_0, s113_0, s113_1, s113_2, s113_3, aBit_b, aI01, xi0, xi1]
    · simp only [gm123_97, gm123_41, gm123, s94_f hC h1, t1, h1, n10, n20, n21, Option.bind_some, b2i_t, b2i_f, i10, ↓reduceIte, cond_true, cond_false, kb0, kb1, kb2, s92_1, s92_0, s93_1, s93_0, s113_0, s113_1, s113_2, s113_3, aBit_b, aI01, xi0, xi1]
  | true =>
  rw [h1] at t1
  cases h2 : win a2 0 9 with
  | false =>
    refine OpOK.no h0 (k := 2) (b := 0) (by decide) ?_ ?_
    · simp only [gm184, gm61_32, gm61, s94_t hC h1, t1, t2, u2, h2, n10, n20, n21, Option.bind_some, b2i_t, b2i_f, i10, ↓reduceIte, cond_true, cond_false, kb0, kb1, kb2, s92_1, s92_0, s93_1, s93_0, s113_0, s113_1, s113_2, s113_3, aBit_b, aI01, xi0, xi1]
    · simp only [gm123_97, gm123_41, gm123, s94_t hC h1, t1, t2, u2, h2, n10, n20, n21, Option.bind_some, b2i_t, b2i_f, i10, ↓reduceIte, cond_true, cond_false, kb0, kb1, kb2, s92_1, s92_0, s93_1, s93_0, s113_0, s113_1, s113_2, s113_3, aBit_b, aI01, xi0, xi1]
  | true =>
  rw [h2] at u2
  have F1 := s94_t hC h1
  by_cases h3 : B = 24
  · subst h3
    have g1 : zI 24 ≥ 24 := by decide
    have g2 : zI 24 = 24 := rfl
    refine OpOK.no h0 (k := 3) (b := 0) (by decide) ?_ ?_
    · simp only [gm184, gm61_32, gm61, F1, t1, t2, u2, h2, e3, e4, if_pos g1, if_pos g2, n10, n20, n21, Option.bind_some, b2i_t, b2i_f, i10, ↓reduceIte, cond_true, cond_false, kb0, kb1, kb2, s92_1, s92_0, s93_1, s93_0, s113_0, s113_1, s113_2, s113_3, aBit_b, aI01, xi0, xi1]
    · simp only [gm123_97, gm123_41, gm123, F1, t1, t2, u2, h2, e3, e4, if_pos g1, if_pos g2, n10, n20, n21, Option.bind_some, b2i_t, b2i_f, i10, ↓reduceIte, cond_true, cond_false, kb0, kb1, kb2, s92_1, s92_0, s93_1, s93_0, s113_0, s113_1, s113_2, s113_3, aBit_b, aI01, xi0, xi1]
  have g1 : ¬ (zI B ≥ 24) := by rw [show (24 : Int32) = zI 24 from rfl, zI_ge (by omega) (by omega)]; omega
  have g2 : ¬ (zI B = 24) := by rw [show (24 : Int32) = zI 24 from rfl, zI_inj (by omega) (by omega)]; omega
  have g3 : zI (B + 1) - 1 = zI B := zI_sub (a := B + 1) (b := 1) (by omega)
  have i24 : aIn (zI B) 24 = true := aIn_t (by omega) (by omega)
  have xB : xi (zI B) = B := xi_zI (by omega)
  have r21 : (fillI (32 + B) 9 5 0 (wI (wI x 4 B a1) 5 B a2)).1 2 1 = zI B := by rw [fillI_ne (by omega)]; exact e3
  have hA : gm184 a1 a2 x = some ((0 : Int32), wJ (wI (fillI (32 + B) 9 5 0 (wI (wI x 4 B a1) 5 B a2)) 2 1 (zI (B + 1))) 187 0 (zI B).toInt64) := by
    simp only [gm184, gm61_32, gm61, gm10, F1, u2, e3, if_neg g1, i24, xB, s181, r21, zI_succ, n10, n20, n21, Option.bind_some, b2i_t, b2i_f, i10, ↓reduceIte, cond_true, cond_false, kb0, kb1, kb2, s92_1, s92_0, s93_1, s93_0, s113_0, s113_1, s113_2, s113_3, aBit_b, aI01, xi0, xi1]
  have hM : gm123 a1 a2 (wJ (wI (fillI (32 + B) 9 5 0 (wI (wI x 4 B a1) 5 B a2)) 2 1 (zI (B + 1))) 187 0 (zI B).toInt64) = some (zI B, wI (fillI 143 9 5 (5 * B) (wI (wI (wI (wJ (wI (fillI (32 + B) 9 5 0 (wI (wI x 4 B a1) 5 B a2)) 2 1 (zI (B + 1))) 187 0 (zI B).toInt64) 138 57 0) 140 B a1) 141 B a2)) 138 3 (zI (B + 1))) := by
    have y0 : (wJ (wI (fillI (32 + B) 9 5 0 (wI (wI x 4 B a1) 5 B a2)) 2 1 (zI (B + 1))) 187 0 (zI B).toInt64).1 138 = x.1 138 := by rw [wJ_I, wI_ne (by decide), fillI_ne (by omega)]; rfl
    generalize wJ (wI (fillI (32 + B) 9 5 0 (wI (wI x 4 B a1) 5 B a2)) 2 1 (zI (B + 1))) 187 0 (zI B).toInt64 = y at y0
    have y1 : y.1 138 1 = zI S := by rw [y0]; exact e2
    have y3 : y.1 138 3 = zI B := by rw [y0]; exact e4
    have t1 := s117 (S := S) a1 y1 k1
    rw [h1] at t1
    have z1 : (wI y 138 57 0).1 138 3 = zI B := by rw [wI_nj (by decide)]; exact y3
    have z2 : (wI (wI y 138 57 0) 140 B a1).1 138 3 = zI B := z1
    have z3 : (wI (wI (wI y 138 57 0) 140 B a1) 141 B a2).1 138 3 = zI B := z1
    have z4 : (fillI 143 9 5 (5 * B) (wI (wI (wI y 138 57 0) 140 B a1) 141 B a2)).1 138 3 = zI B := by rw [fillI_ne (by decide)]; exact z1
    have st := s123_71 (B := B) (by omega) 5 FU 0 _ z3 (by omega) (by unfold FU; omega)
    rw [show zI 0 = (0 : Int32) from rfl, Nat.add_zero] at st
    simp only [gm123_97, gm123_41, gm123, t1, t2, h2, y3, if_neg g2, z1, z2, i24, xB, st, z4, zI_succ, wI_j, g3, n10, n20, n21, Option.bind_some, b2i_t, b2i_f, i10, ↓reduceIte, cond_true, cond_false, kb0, kb1, kb2, s92_1, s92_0, s93_1, s93_0, s113_0, s113_1, s113_2, s113_3, aBit_b, aI01, xi0, xi1]
  have e : SB 1 x (wI (fillI 143 9 5 (5 * B) (wI (wI (wI (wJ (wI (fillI (32 + B) 9 5 0 (wI (wI x 4 B a1) 5 B a2)) 2 1 (zI (B + 1))) 187 0 (zI B).toInt64) 138 57 0) 140 B a1) 141 B a2)) 138 3 (zI (B + 1))) := by
    have o32 : own (32 + B) = 1 := by unfold own; rw [if_neg (by omega), if_neg (by omega), if_pos (by omega)]
    have f1 : SB 1 x (fillI (32 + B) 9 5 0 (wI (wI x 4 B a1) 5 B a2)) := SB.F (by omega) (Or.inl o32) _ _ _ (((SB.rf 1 x).I (by decide) (Or.inl rfl)).I (by decide) (Or.inl rfl))
    have f2 := (((((f1.I (q := 2) (j := 1) (v := zI (B + 1)) (by decide) (Or.inl rfl)).J (q := 187) (j := 0) (v := (zI B).toInt64) (Or.inr rfl)).M (j := 57) (v := 0) (Or.inr rfl)).I (q := 140) (j := B) (v := a1) (by decide) (Or.inl rfl)).I (q := 141) (j := B) (v := a2) (by decide) (Or.inl rfl))
    exact (SB.F (q := 143) (v := 9) (by decide) (Or.inl rfl) _ _ _ f2).M (Or.inl rfl)
  refine ⟨0, _, _, _, hA, hM, ?_, fun _ => ?_, ?_, ?_, ?_⟩
  · rw [wI_nj (by decide), fillI_ne (by decide)]; rfl
  · show (fillI 143 9 5 (5 * B) _).2.1 187 0 = _
    rw [fillI_2]
    rfl
  · rw [wJ_I, wI_ne (by decide), fillI_ne (by omega)]; rfl
  · exact e.c 0 (by decide) (by decide) (by decide)
  · generalize hy : wI (fillI 143 9 5 (5 * B) (wI (wI (wI (wJ (wI (fillI (32 + B) 9 5 0 (wI (wI x 4 B a1) 5 B a2)) 2 1 (zI (B + 1))) 187 0 (zI B).toInt64) 138 57 0) 140 B a1) 141 B a2)) 138 3 (zI (B + 1)) = y at e
    have c4 : y.1 4 = fun k => if k = B then a1 else x.1 140 k := by
      rw [← hy, wI_ne (by decide), fillI_ne (by decide), wI_ne (by decide), wI_ne (by decide), wI_ne (by decide), wJ_I, wI_ne (by decide), fillI_ne (by omega), wI_ne (by decide), wI_fn, w4]
    have c140 : y.1 140 = fun k => if k = B then a1 else x.1 140 k := by
      rw [← hy, wI_ne (by decide), fillI_ne (by decide), wI_ne (by decide), wI_fn, wI_ne (by decide), wJ_I, wI_ne (by decide), fillI_ne (by omega), wI_ne (by decide), wI_ne (by decide)]
    have c5 : y.1 5 = fun k => if k = B then a2 else x.1 141 k := by
      rw [← hy, wI_ne (by decide), fillI_ne (by decide), wI_ne (by decide), wI_ne (by decide), wI_ne (by decide), wJ_I, wI_ne (by decide), fillI_ne (by omega), wI_fn, wI_ne (by decide), w5]
    have c141 : y.1 141 = fun k => if k = B then a2 else x.1 141 k := by
      rw [← hy, wI_ne (by decide), fillI_ne (by decide), wI_fn, wI_ne (by decide), wI_ne (by decide), wJ_I, wI_ne (by decide), fillI_ne (by omega), wI_ne (by decide), wI_ne (by decide)]
    have c21 : y.1 2 1 = zI (B + 1) := by
      rw [← hy, wI_ne (by decide), fillI_ne (by decide), wI_ne (by decide), wI_ne (by decide), wI_ne (by decide), wJ_I, wI_j]
    have c20 : y.1 2 0 = zI S := by
      rw [← hy, wI_ne (by decide), fillI_ne (by decide), wI_ne (by decide), wI_ne (by decide), wI_ne (by decide), wJ_I, wI_nj (by decide), fillI_ne (by omega)]
      exact e1
    have c138 : y.1 138 3 = zI (B + 1) := by rw [← hy, wI_j]
    have c1381 : y.1 138 1 = zI S := by
      rw [← hy, wI_nj (by decide), fillI_ne (by decide), wI_ne (by decide), wI_ne (by decide), wI_nj (by decide), wJ_I, wI_ne (by decide), fillI_ne (by omega)]
      exact e2
    have cO : ∀ a, ¬ a = 2 → ¬ a = 4 → ¬ a = 5 → ¬ a = 32 + B → ¬ a = 138 → ¬ a = 140 → ¬ a = 141 → ¬ a = 143 → y.1 a = x.1 a := by
      intro a n1 n2 n3 n4 n5 n6 n7 n8
      rw [← hy, wI_ne n5, fillI_ne n8, wI_ne n7, wI_ne n6, wI_ne n5, wJ_I, wI_ne n1, fillI_ne n4, wI_ne n3, wI_ne n2]
    have c143 : ∀ k, y.1 143 k = if 5 * B ≤ k ∧ k < 5 * B + 5 then 9 else x.1 143 k := by
      intro k
      rw [← hy, wI_ne (by decide), fillI_at, wI_ne (by decide), wI_ne (by decide), wI_ne (by decide), wJ_I, wI_ne (by decide), fillI_ne (by omega), wI_ne (by decide), wI_ne (by decide)]
    have c32 : ∀ k, k < 5 → y.1 (32 + B) k = 9 := by
      intro k hk
      rw [← hy, wI_ne (by omega), fillI_ne (by omega), wI_ne (by omega), wI_ne (by omega), wI_ne (by omega), wJ_I, wI_ne (by omega), fillI_at, if_pos (by omega)]
    clear hy
    refine ⟨S, B + 1, Z, F, U, P, I, now, hN.fr e (by decide), ?_, (hR.fr e (by decide)).its (fun b hb => by rw [c140]; exact if_neg (by omega)), hZ.fr e (by decide), hB.fr e (by decide), hF.fr e (by decide), hD.fr e (by decide), hP.fr e (by decide)⟩
    refine ⟨⟨k1, by omega⟩, ⟨c20, c1381, c21, c138⟩, ⟨?_, c4.trans c140.symm, c5.trans c141.symm, ?_, ?_⟩, ?_, ?_, ?_, ?_, ?_⟩
    · rw [cO 3 (by decide) (by decide) (by decide) (by omega) (by decide) (by decide) (by decide) (by decide), cO 139 (by decide) (by decide) (by decide) (by omega) (by decide) (by decide) (by decide) (by decide)]; exact w3
    · rw [cO 56 (by decide) (by decide) (by decide) (by omega) (by decide) (by decide) (by decide) (by decide), cO 144 (by decide) (by decide) (by decide) (by omega) (by decide) (by decide) (by decide) (by decide)]; exact w56
    · rw [cO 57 (by decide) (by decide) (by decide) (by omega) (by decide) (by decide) (by decide) (by decide), cO 145 (by decide) (by decide) (by decide) (by omega) (by decide) (by decide) (by decide) (by decide)]; exact w57
    · intro b hb s hs
      rw [cO (7 + b) (by omega) (by omega) (by omega) (by omega) (by omega) (by omega) (by omega) (by omega), cO 142 (by decide) (by decide) (by decide) (by omega) (by decide) (by decide) (by decide) (by decide), c143]
      refine ⟨(hLH b hb s hs).1, ?_⟩
      by_cases hbB : b = B
      · rw [hbB, c32 s hs, if_pos (by omega)]
      · rw [cO (32 + b) (by omega) (by omega) (by omega) (by omega) (by omega) (by omega) (by omega) (by omega), if_neg (by omega)]
        exact (hLH b hb s hs).2
    · rw [cO 139 (by decide) (by decide) (by decide) (by omega) (by decide) (by decide) (by decide) (by decide)]; exact hbt
    · intro b hb
      rw [c140]
      by_cases hbB : b = B
      · simp only [hbB, if_true]; exact h1
      · simp only [hbB, if_false]; exact hit b (by omega)
    · rw [cO 145 (by decide) (by decide) (by decide) (by omega) (by decide) (by decide) (by decide) (by decide)]; exact hcd
    · rw [cO 58 (by decide) (by decide) (by decide) (by omega) (by decide) (by decide) (by decide) (by decide), cO 146 (by decide) (by decide) (by decide) (by omega) (by decide) (by decide) (by decide) (by decide)]; exact hcl
