theorem own7 {a : Nat} (h1 : 118 ≤ a) (h2 : a ≤ 129) : own a = 7 := by
  unfold own
  rw [if_neg (by omega), if_neg (by omega), if_neg (by omega), if_neg (by omega), if_neg (by omega), if_neg (by omega), if_neg (by omega), if_pos (by omega)]
theorem s85_b {x : Hs} {N now : Nat} (hN : N ≤ 9999) (h1 : now ≤ N) (k : Hs → Option ((Int32 ⊕ Nat) × Hs)) : ∃ y, (if zI N / 60 = zI now / 60 then k x else (gm1 x).bind k) = k y ∧ y.1 = x.1 ∧ (∀ a, ¬ a = 105 → ¬ a = 106 → y.2.1 a = x.2.1 a) ∧ (N / 60 = now / 60 → y.2 = x.2) ∧ (¬ N / 60 = now / 60 → ∀ s, s < 5 → y.2.1 105 s = 0 ∧ y.2.1 106 s = 0) := by
  have d1 : zI N / 60 = zI (N / 60) := zI_div (by omega) (b := 60) (by omega) (by omega)
  have d2 : zI now / 60 = zI (now / 60) := zI_div (by omega) (b := 60) (by omega) (by omega)
  rw [d1, d2]
  by_cases w : N / 60 = now / 60
  · refine ⟨x, if_pos (by rw [w]), rfl, fun _ _ _ => rfl, fun _ => rfl, fun h => absurd w h⟩
  · have w2 : ¬ zI (N / 60) = zI (now / 60) := by rw [zI_inj (by omega) (by omega)]; exact w
    refine ⟨wJ (wJ (wJ (wJ (wJ (wJ (wJ (wJ (wJ (wJ x 105 0 0) 105 1 0) 105 2 0) 105 3 0) 105 4 0) 106 0 0) 106 1 0) 106 2 0) 106 3 0) 106 4 0, ?_, ?_, ?_, fun h => absurd h w, ?_⟩
    · rw [if_neg w2]
      unfold gm1
      rw [s180, Option.bind_some, s180]
      rfl
    · rfl
    · intro a h1 h2
      rw [wJ_ne h2, wJ_ne h2, wJ_ne h2, wJ_ne h2, wJ_ne h2, wJ_ne h1, wJ_ne h1, wJ_ne h1, wJ_ne h1, wJ_ne h1]
    · intro _ s hs
      have : s = 0 ∨ s = 1 ∨ s = 2 ∨ s = 3 ∨ s = 4 := by omega
      rcases this with rfl | rfl | rfl | rfl | rfl <;> exact ⟨rfl, rfl⟩
theorem op_pass {c : Nat} {x : Hs} (h : Inv c x) (a1 : Int32) : OpOK c x (gm208 a1 x) (gm167 a1) o64 := by
  have h0 := h
  obtain ⟨S, B, Z, F, U, P, I, now, hN, hC, hR, hZ, hB, hF, hD, hP⟩ := h
  obtain ⟨n1, n2, n3⟩ := id hN
  have t2 := fun y => s114 a1 1 600 y
  have u2 := fun y => s99 a1 1 600 y
  cases h2 : win a1 1 600 with
  | false =>
    have b : ∀ y : Hs, gm167 a1 y = some (0, wI y 138 57 1) ∨ True := fun _ => Or.inr trivial
    refine OpOK.no h0 (k := 1) (b := 0) (by decide) ?_ ?_
    · simp only [gm208, gm85, u2, h2, n10, n20, n21, Option.bind_some, b2i_t, b2i_f, i10, ↓reduceIte, cond_true, cond_false, kb0, kb1, kb2, s92_1, s92_0, s93_1, s93_0]
    · simp only [gm167, gm167_35, t2, h2, n10, n20, n21, Option.bind_some, b2i_t, b2i_f, i10, ↓reduceIte, s113_1]
  | true =>
  have hw := (win_iff _ _ _).mp h2
  rw [show (1 : Int32).toInt = 1 from rfl, show (600 : Int32).toInt = 600 from rfl] at hw
  obtain ⟨A, hA1, rfl⟩ : ∃ A, A ≤ 600 ∧ a1 = zI A := ⟨a1.toInt.toNat, by omega, by rw [i_eq, zI_int (by omega)]; omega⟩
  rw [zI_int (by omega)] at hw
  have na : zI now + zI A = zI (now + A) := zI_add now A
  have i9 : ∀ n : Nat, n < 2147483648 → (zI n > 9999 ↔ 9999 < n) := fun n hn => by rw [i_gt, zI_int hn, show (9999 : Int32).toInt = 9999 from rfl]; omega
  have j9 : ∀ n : Nat, n < 2147483648 → (zI n ≤ 9999 ↔ n ≤ 9999) := fun n hn => by rw [i_le, zI_int hn, show (9999 : Int32).toInt = 9999 from rfl]; omega
  by_cases h9 : 9999 < now + A
  · refine OpOK.no h0 (k := 2) (b := 0) (by decide) ?_ ?_
    · simp only [gm208, gm85, gm85_28, u2, h2, n2, na, if_pos ((i9 (now + A) (by omega)).mpr h9), n10, n20, n21, Option.bind_some, b2i_t, b2i_f, i10, ↓reduceIte, cond_true, cond_false, kb0, kb1, kb2, s92_1, s92_0, s93_1, s93_0]
    · simp only [gm167, gm167_35, t2, h2, n3, na, if_neg (fun w => absurd ((j9 (now + A) (by omega)).mp w) (by omega)), n10, n20, n21, Option.bind_some, b2i_t, b2i_f, i10, ↓reduceIte, s113_2]
  have c9 : ¬ zI (now + A) > 9999 := fun w => h9 ((i9 (now + A) (by omega)).mp w)
  have m9 : zI (now + A) ≤ 9999 := (j9 (now + A) (by omega)).mpr (by omega)
  obtain ⟨y, hy0, hy1, hy2, hy3, hy4⟩ := s85_b (x := wI x 1 8 (zI (now + A))) (N := now + A) (now := now) (by omega) (by omega) gm85_67
  have e9 : SB 9 x (wI x 1 8 (zI (now + A))) := (SB.rf 9 x).I (by decide) (Or.inl rfl)
  have e5 : SB 5 (wI x 1 8 (zI (now + A))) y := ⟨fun a q1 q2 _ => ⟨by rw [hy1], hy2 a (fun w => q2 (by rw [w]; rfl)) (fun w => q2 (by rw [w]; rfl))⟩, fun j _ _ => by rw [hy1]⟩
  have hDy : IDut P I now y := (hD.fr e9 (by decide)).fr e5 (by decide)
  obtain ⟨⟨p1, p2, p3⟩, ⟨d1, d2, d3, d4⟩, -⟩ := id hDy
  obtain ⟨z, hz1, zq, zk, zo, z2⟩ := s21_2 hDy (N := now + A) (by omega) (by omega) (by omega) I 0 FU y (by omega) (by unfold FU; omega) ⟨fun k hk => absurd hk (Nat.not_lt_zero k), fun _ _ _ => rfl, fun _ _ => rfl, rfl⟩
  rw [← zI_0] at hz1
  have z8 : z.1 1 8 = zI (now + A) := by rw [zo 1 (by omega), hy1, wI_j]
  have hA : gm208 (zI A) x = some ((0 : Int32), wJ z 187 0 (zI (now + A)).toInt64) := by
    have s1 : gm85_67 y = some (.inl (zI (now + A)), z) := by
      unfold gm85_67 gm21
      rw [hy1, wI_j, hz1, Option.bind_some, z8]
    have s2 : gm85 (zI A) x = gm85_67 y := by
      rw [← hy0]
      simp only [gm85, gm85_28, u2, h2, n2, na, if_neg c9, n10, n20, n21, Option.bind_some, b2i_t, b2i_f, i10, ↓reduceIte, cond_true, cond_false, kb0, kb1, kb2, s92_1, s92_0, s93_1, s93_0, wI_j]
    simp only [gm208, s2, s1, Option.bind_some, aI01, cond_true, xi0]
  generalize hW0 : wJ z 187 0 (zI (now + A)).toInt64 = Y at hA
  have Y1 : Y.1 = z.1 := by rw [← hW0]; rfl
  have Y2 : ∀ a, ¬ a = 187 → Y.2.1 a = z.2.1 a := fun a ha => by rw [← hW0, wJ_ne ha]
  have Y3 : Y.2.1 187 0 = (zI (now + A)).toInt64 := by rw [← hW0, wJ_at, if_pos rfl]
  generalize hW : wI Y 138 57 0 = W
  have W138 : ∀ j, ¬ j = 57 → W.1 138 j = y.1 138 j := fun j hj => by rw [← hW, wI_nj hj, Y1, zo 138 (by omega)]
  have W57 : W.1 138 57 = 0 := by rw [← hW, wI_j]
  have Wo : ∀ a, 130 ≤ a → ¬ a = 138 → W.1 a = y.1 a := fun a q1 q2 => by rw [← hW, wI_ne q2, Y1, zo a (by omega)]
  have Wz : ∀ a, ¬ a = 138 → W.1 a = z.1 a := fun a q2 => by rw [← hW, wI_ne q2, Y1]
  have W2 : W.2 = Y.2 := by rw [← hW]; rfl
  obtain ⟨-, -, w116, hst, hf, hcl, hdf, hun⟩ := id hDy
  have W0 : W.1 138 0 = zI now := by rw [W138 0 (by decide), hy1, wI_ne (by decide)]; exact n3
  have hin : ∀ i, i < I → aIn (W.1 179 i) P = true ∧ ∃ o, o ≤ now ∧ W.1 177 i = zI o := by
    intro i hi
    obtain ⟨_, a1, _, _, o, a2, a3, _⟩ := hf i hi
    rw [Wo 179 (by omega) (by decide), Wo 177 (by omega) (by decide)]
    exact ⟨a1, o, a2, a3⟩
  obtain ⟨v, hv1, v0, vj, va, v2, vk⟩ := s167_45 (P := P) (I := I) (now := now) (A := A) (x := W) ⟨⟨p1, p2, p3⟩, by rw [W138 40 (by decide)]; exact d2, by rw [W138 42 (by decide)]; exact d4⟩ hin (by omega) A 0 FU W (by omega) (by unfold FU; omega) ⟨W0, fun _ _ => rfl, fun _ _ _ _ => rfl, rfl, fun k => by
    have : Ck I W now (now + 0) k = 0 := by
      unfold Ck Cn
      rw [Nat.add_zero, Nat.sub_self, ite_self, ite_self]
    rw [this]
    exact ⟨rfl, rfl⟩⟩
  rw [← zI_0] at hv1
  have hM : gm167 (zI A) Y = some (zI (now + A), v) := by
    have Y0 : Y.1 138 0 = zI now := by rw [← W0, ← hW, wI_nj (by decide)]
    simp only [gm167, gm167_35, t2, h2, Y0, na, if_pos m9, n10, n20, n21, Option.bind_some, b2i_t, b2i_f, i10, ↓reduceIte, s113_0, hW]
    exact hv1
  have oy : ∀ a, ¬ a = 1 → y.1 a = x.1 a := fun a ha => by rw [hy1, wI_ne ha]
  have e : SBl [9, 5, 7] x v := by
    refine ⟨fun a q1 q2 q3 => ?_, fun j q2 q3 => ?_⟩
    · have c1 : ¬ a = 1 := fun w => q2 (by rw [w]; decide)
      have c2 : ¬ a = 178 := fun w => q2 (by rw [w]; decide)
      have c3 : ¬ a = 179 := fun w => q2 (by rw [w]; decide)
      have c4 : ¬ a = 105 := fun w => q2 (by rw [w]; decide)
      have c5 : ¬ a = 106 := fun w => q2 (by rw [w]; decide)
      have c6 : ¬ a = 187 := fun w => q3 (by rw [w]; decide)
      have c7 : a < 118 ∨ 130 ≤ a := by
        by_cases k1 : 118 ≤ a ∧ a ≤ 129
        · exact absurd (by rw [own7 k1.1 k1.2]; decide) q2
        · omega
      refine ⟨?_, ?_⟩
      · rw [va a q1 c2 c3, Wz a q1, zo a c7, oy a c1]
      · rw [v2, W2, Y2 a c6, z2, hy2 a c4 c5]
        rfl
    · have c1 : ¬ j = 0 := fun w => q2 (by rw [w]; decide)
      have c2 : ¬ j = 57 := fun w => q3 (by rw [w]; decide)
      rw [vj j c1, W138 j c2, oy 138 (by decide)]
  refine ⟨0, _, _, v, hA, hM, ?_, fun _ => ?_, ?_, ?_, ?_⟩
  · rw [vj 57 (by decide), W57]
  · rw [v2, W2, Y3]
    rfl
  · rw [Y1, zo 0 (by omega), oy 0 (by decide)]
  · rw [va 0 (by decide) (by decide) (by decide), Wz 0 (by decide), zo 0 (by omega), oy 0 (by decide)]
  obtain ⟨t1, g9, e'⟩ := e.split
  obtain ⟨t2, g5, e'⟩ := e'.split
  have g7 := e'.one
  refine ⟨S, B, Z, F, U, P, I, now + A, ⟨by omega, ?_, v0⟩, ((hC.fr g9 (by decide)).fr g5 (by decide)).fr g7 (by decide), ?_, ((hZ.fr g9 (by decide)).fr g5 (by decide)).fr g7 (by decide), ?_, ((hF.fr g9 (by decide)).fr g5 (by decide)).fr g7 (by decide), ?_, ((hP.f0 g9 (by decide)).f0 g5 (by decide)).fr g7 (by decide)⟩
  · rw [va 1 (by decide) (by decide) (by decide), Wz 1 (by decide), z8]
  · have q := ((hR.f0 g9 (by decide)).f0 g5 (by decide)).fr g7 (by decide)
    rw [show v.1 140 = x.1 140 by rw [va 140 (by decide) (by decide) (by decide), Wo 140 (by decide) (by decide), oy 140 (by decide)]]
    exact q
  · -- budgets
    obtain ⟨b0, b1⟩ := hB
    have vo : ∀ a, 130 ≤ a → ¬ a = 138 → ¬ a = 178 → ¬ a = 179 → v.1 a = x.1 a := fun a q1 q2 q3 q4 => by rw [va a q2 q3 q4, Wo a q1 q2, oy a (by omega)]
    have v104 : v.1 104 = x.1 104 := by rw [va 104 (by decide) (by decide) (by decide), Wz 104 (by decide), zo 104 (by omega), oy 104 (by decide)]
    have vJ : ∀ a, ¬ a = 187 → v.2.1 a = y.2.1 a := fun a ha => by rw [v2, W2, Y2 a ha, z2]
    unfold IBud
    rw [v104, vo 159 (by decide) (by decide) (by decide) (by decide), vo 160 (by decide) (by decide) (by decide) (by decide), vo 161 (by decide) (by decide) (by decide) (by decide), vo 162 (by decide) (by decide) (by decide) (by decide), vJ 105 (by decide), vJ 106 (by decide)]
    refine ⟨b0, fun s hs => ?_⟩
    obtain ⟨a1, a2, a3, a4, a5, a6⟩ := b1 s hs
    refine ⟨a1, a2.up (by omega), a3.up (by omega), a4.up (by omega), ?_⟩
    by_cases w : (now + A) / 60 = now / 60
    · rw [hy3 w, w]
      exact ⟨a5, a6⟩
    · have := hy4 w s hs
      rw [this.1, this.2]
      refine ⟨fun q => ?_, fun _ => ⟨rfl, rfl⟩⟩
      exfalso
      have := a2.2
      rw [q, zI_int (by omega)] at this
      omega
  · -- duty
    have vo : ∀ a, 130 ≤ a → ¬ a = 138 → ¬ a = 178 → ¬ a = 179 → v.1 a = y.1 a := fun a q1 q2 q3 q4 => by rw [va a q2 q3 q4, Wo a q1 q2]
    have vc : ∀ a, a < 130 → v.1 a = z.1 a := fun a ha => by rw [va a (by omega) (by omega) (by omega), Wz a (by omega)]
    have CkE : ∀ k, k < I → Ck I W now (now + A) k = Cn y now (now + A) k := fun k hk => by
      unfold Ck Cn
      rw [if_pos hk, Wo 180 (by decide) (by decide), Wo 177 (by decide) (by decide)]
    have W179 : W.1 179 = y.1 179 := Wo 179 (by decide) (by decide)
    have W178 : W.1 178 = y.1 178 := Wo 178 (by decide) (by decide)
    unfold IDut
    rw [vc 115 (by decide), vc 116 (by decide), zo 115 (by omega), zo 116 (by omega), vj 40 (by decide), vj 42 (by decide), W138 40 (by decide), W138 42 (by decide), vo 173 (by decide) (by decide) (by decide) (by decide), vo 174 (by decide) (by decide) (by decide) (by decide), vo 175 (by decide) (by decide) (by decide) (by decide), vo 176 (by decide) (by decide) (by decide) (by decide), vo 177 (by decide) (by decide) (by decide) (by decide), vo 180 (by decide) (by decide) (by decide) (by decide), vo 181 (by decide) (by decide) (by decide) (by decide)]
    refine ⟨⟨p1, p2, p3⟩, ⟨d1, d2, d3, d4⟩, w116, hst, fun i hi => ?_, hcl, fun i hi hi2 => ?_, hun⟩
    · obtain ⟨⟨f0, f1, f2, f3, f4, f5, f6⟩, hp, hb, hk, o, ho1, ho2, ho3⟩ := hf i hi
      obtain ⟨⟨r3, r4, r7⟩, rk⟩ := zq i hi
      obtain ⟨k1, k2⟩ := vk i
      rw [CkE i hi, W179, W178] at k1 k2
      rw [f3, f4] at r3 r4
      rw [vc (118 + i) (by omega), rk 0 (by decide) (by decide) (by decide), rk 1 (by decide) (by decide) (by decide), rk 2 (by decide) (by decide) (by decide), rk 5 (by decide) (by decide) (by decide), rk 6 (by decide) (by decide) (by decide), r3, r4, k1, k2]
      refine ⟨⟨f0, f1, f2, rfl, rfl, f5, f6⟩, pg_in (s := (y.1 179 i, y.1 178 i)) p2 hp (Cn y now (now + A) i), pg_bt (s := (y.1 179 i, y.1 178 i)) p2 hp hb (Cn y now (now + A) i), hk, o, by omega, ho2, fun w => ?_⟩
      rw [r7 w, ho2, xi_zI (by omega)]
    · rw [vc (118 + i) (by omega), zk i hi hi2]
      exact hdf i hi hi2
