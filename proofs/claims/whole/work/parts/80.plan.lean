/-! Planning -/
theorem op_plan {c : Nat} {x : Hs} (h : Inv c x) (hc : c < 512) (a1 a2 : Int32) : OpOK c x (gm212 a1 a2 x) (gm177 a1 a2) o64 := by
  have h0 := h
  obtain ⟨S, B, Z, F, U, P, I, now, hN, hC, hR, hZ, hB, hF, hD, hP⟩ := h
  obtain ⟨⟨k1, k2⟩, ⟨e1, e2, e3, e4⟩, ⟨w3, w4, w5, w56, w57⟩, hLH, hbt, hit, hcd, hcl⟩ := id hC
  have hi5 : ∀ b, b < B → aIn (x.1 140 b) 5 = true := fun b hb => aIn_up (hit b hb) k1
  have T0 := fun y : Hs => s119 (x := y) a1
  have T1 := s118 (x := x) (B := B) a2 e4 k2
  cases h1 : aIn a1 4 with
  | false =>
    refine OpOK.no h0 (k := 1) (b := 0) (by decide) ?_ ?_
    · simp only [gm212, gm89, s96_f h1, n10, n20, n21, Option.bind_some, i10, ↓reduceIte, cond_true, cond_false, kb0, kb1, kb2]
    · simp only [gm177, gm177_19, gm177_20, gm177_31, T0, h1, n10, n20, n21, Option.bind_some, b2i_t, b2i_f, i10, ↓reduceIte, s113_1]
  | true =>
  have F1 := s96_t (x := x) h1
  cases h2 : aIn a2 B with
  | false =>
    rw [h2] at T1
    refine OpOK.no h0 (k := 1) (b := 0) (by decide) ?_ ?_
    · simp only [gm212, gm89, F1, s95_f hC h2, n10, n20, n21, Option.bind_some, i10, ↓reduceIte, cond_true, cond_false, kb0, kb1, kb2]
    · simp only [gm177, gm177_19, gm177_20, gm177_31, T0, h1, T1, n10, n20, n21, Option.bind_some, b2i_t, b2i_f, i10, ↓reduceIte, s113_1]
  | true =>
  have F2 := s95_t hC h2
  obtain ⟨r, hr, rfl⟩ := aIn_ex h1
  obtain ⟨g, hg, rfl⟩ := aIn_ex h2
  have hB0 : 0 < B := by omega
  obtain ⟨⟨q, hq1, hq2, hq3⟩, h137, -⟩ := id hP
  have xr : xi (zI r) = r := xi_zI (by omega)
  generalize hσe : (fun s => if s < 5 then x.1 147 (5 * r + s) else (-1 : Int32)) = σ0
  have σs : ∀ s, s < 5 → σ0 s = x.1 147 (5 * r + s) := fun s hs => by rw [← hσe]; exact if_pos hs
  have hσ : vSt B (x.1 140) σ0 := by
    refine ⟨fun s hs => ?_, fun s hs => by rw [← hσe]; exact if_neg (by omega)⟩
    rw [σs s hs]
    exact (hR.1 r hr s hs).2.2.1.1
  have orr : own (60 + 8 * r + 1) = 2 := by
    unfold own
    rw [if_neg (by omega), if_neg (by omega), if_neg (by omega), if_pos (by omega)]
  obtain ⟨rr, z, hz1, ⟨Q0, hz2⟩, hz3⟩ := s38 hC hB0 hσ (q := q) (by omega) hq2 hq3 h137 hg (q1 := 60 + 8 * r + 1) (by omega) orr (fun s hs => by rw [σs s hs]; exact (hR.1 r hr s hs).1.1)
  obtain ⟨ez, ⟨z8, _, z137⟩, _, _, _, _, _, _, zm⟩ := hz2
  have hA : gm212 (zI r) (zI g) x = some ((0 : Int32), wJ z 187 0 rr.toInt64) := by
    simp only [gm212, gm89, F1, F2, h1, xr, hz1, n10, n20, n21, Option.bind_some, i10, ↓reduceIte, cond_true, cond_false, kb0, kb1, kb2, aI01, xi0]
  generalize hY : wJ z 187 0 rr.toInt64 = Y at hA
  have Y1 : Y.1 = z.1 := by rw [← hY]; rfl
  have Y3 : Y.2.1 187 0 = rr.toInt64 := by rw [← hY, wJ_at, if_pos rfl]
  generalize hX : wI Y 138 57 0 = X
  have eX : SB 8 x X := by
    rw [← hX, ← hY]
    refine SB.M ?_ (Or.inr rfl)
    refine SB.J ?_ (Or.inr rfl)
    exact ez
  have X57 : X.1 138 57 = 0 := by rw [← hX, wI_j]
  have X2 : X.2 = Y.2 := by rw [← hX]; rfl
  have Xz : ∀ a, ¬ a = 138 → X.1 a = z.1 a := fun a ha => by rw [← hX, wI_ne ha, Y1]
  have hCX := hC.fr eX (by decide)
  have hMX := hCX.mc
  have x140 : X.1 140 = x.1 140 := eX.c 140 (by decide) (by decide) (by decide)
  have x147 : X.1 147 = x.1 147 := eX.c 147 (by decide) (by decide) (by decide)
  have xrd : rdB X = rdB x := by
    funext b
    unfold rdB
    rw [rdy_sb eX, eX.c 145 (by decide) (by decide) (by decide)]
  have xsd : sdB X S = sdB x S := by
    funext τ
    unfold sdB
    refine soundM_cg (fun a m1 m2 => ?_) τ _ S
    have : a = 139 ∨ a = 140 ∨ a = 141 ∨ a = 142 ∨ a = 143 := by omega
    rcases this with rfl | rfl | rfl | rfl | rfl <;> exact eX.c _ (by decide) (by decide) (by decide)
  obtain ⟨u, u1, u2⟩ := s176 (σ0 := σ0) hMX (by rw [x140]; exact hσ) hr (fun s hs => by rw [x147, σs s (by omega)]) (zI g)
  have M0 : gm177 (zI r) (zI g) Y = (gm176 (zI r) (zI g) X).bind fun w10 => gm177_54 FU w10.1 0 w10.1 w10.2 := by
    have T1 := s118 (x := Y) (B := B) (zI g) (by rw [Y1]; exact (ez.2 3 (by decide) (by decide)).trans e4) k2
    rw [h2] at T1
    simp only [gm177, gm177_20, gm177_31, T0, h1, T1, n10, n20, n21, Option.bind_some, b2i_t, b2i_f, i10, ↓reduceIte, s113_0, hX]
  have fin : ∀ v : Hs, (∀ a, ¬ a = 138 → a < 182 ∨ 187 ≤ a → v.1 a = X.1 a) → (∀ j, ¬ j = 51 → v.1 138 j = X.1 138 j) → v.2 = X.2 → gm177 (zI r) (zI g) Y = some (rr, v) → IPln (c + 1) v → OpOK c x (gm212 (zI r) (zI g) x) (gm177 (zI r) (zI g)) o64 := by
    intro v v1 v2 v3 v4 v5
    have e : SB 8 x v := eX.to ⟨fun a m1 m2 m3 => ⟨v1 a m1 (by
      by_cases w : 182 ≤ a ∧ a ≤ 186
      · have : a = 182 ∨ a = 183 ∨ a = 184 ∨ a = 185 ∨ a = 186 := by omega
        exfalso
        rcases this with rfl | rfl | rfl | rfl | rfl <;> exact m2 rfl
      · omega), by rw [v3]⟩, fun j m1 m2 => v2 j (fun w => m1 (by rw [w]; rfl))⟩
    refine ⟨0, Y, rr, v, hA, v4, ?_, fun _ => ?_, ?_, ?_, ?_⟩
    · rw [v2 57 (by decide), X57]
    · rw [v3, X2, Y3]
      rfl
    · rw [Y1]
      exact ez.c 0 (by decide) (by decide) (by decide)
    · exact e.c 0 (by decide) (by decide) (by decide)
    · have q := hR.fr e (by decide)
      refine ⟨S, B, Z, F, U, P, I, now, hN.fr e (by decide), hC.fr e (by decide), ?_, hZ.fr e (by decide), hB.fr e (by decide), hF.fr e (by decide), hD.fr e (by decide), v5⟩
      rw [e.c 140 (by decide) (by decide) (by decide)]
      exact q
  have ipl : ∀ v : Hs, (∀ a, ¬ a = 138 → a < 182 ∨ 187 ≤ a → v.1 a = X.1 a) → (∃ q, q ≤ c + 1 ∧ v.1 130 8 = zI q ∧ ∀ j, j < 6480 → (v.1 132 j).toInt ≤ q) ∧ (∀ j, j < 5 → v.1 137 j = -1) := by
    intro v v1
    have w : ∀ a, ¬ a = 138 → a < 182 → v.1 a = z.1 a := fun a m1 m2 => by rw [v1 a m1 (by omega), Xz a m1]
    rw [w 130 (by decide) (by decide), w 132 (by decide) (by decide), w 137 (by decide) (by decide)]
    exact ⟨⟨q + 1, by omega, z8, zm⟩, z137⟩
  rcases hz3 with ⟨j0, n1, n2, n3, n4⟩ | ⟨t, C, ch, n1, n2, n3, n4, n5, n6⟩
  · have all : ∀ w, noG (X.1 140) g (Qat (X.1 140) (rdB X) (sdB X S) B σ0 w) := by
      rw [x140, xrd, xsd]
      intro w
      rcases Nat.le_total w (j0 * B) with q | q
      · intro k hk
        have le := Qat_le (its := x.1 140) (rd := rdB x) (sd := sdB x S) (B := B) (σ := σ0) q
        rw [← (le.2 k hk).1]
        exact n1 k (Nat.lt_of_lt_of_le hk le.1)
      · rw [Qat_stop hB0 n2 q]
        exact n1
    obtain ⟨w, Q, w1, w2⟩ := s176_N (σ0 := σ0) hMX hB0 (by rw [x140]; exact hσ) hg all 6480 0 FU u (by omega) (by unfold FU; omega) (by rw [Nat.zero_mul]; exact u2)
    rw [Nat.zero_mul] at w1
    have M1 : gm177 (zI r) (zI g) Y = some (rr, wI w 138 51 (-1)) := by
      rw [M0, u1, w1, Option.bind_some, n3]
      have e0 : gm177_54 FU (-1) 0 (-1) w = gm177_86 (-1) 0 w := by
        rw [show FU = 19999 + 1 from rfl, gm177_54.eq_2, if_pos rfl]
      show gm177_54 FU (-1) 0 (-1) w = _
      rw [e0]
      unfold gm177_86 gm177_99
      rw [if_pos rfl, show FU = 19999 + 1 from rfl, gm177_106.eq_2, if_pos (by decide)]
      unfold gm177_140
      rw [wI_j]
    have v1 : ∀ a, ¬ a = 138 → a < 182 ∨ 187 ≤ a → (wI w 138 51 (-1)).1 a = X.1 a := fun a m1 m2 => by rw [wI_ne m1, w2.1 a (by omega)]
    obtain ⟨i1, i2⟩ := ipl _ v1
    refine fin _ v1 (fun j hj => by rw [wI_nj hj, w2.1 138 (by omega)]) (by rw [← w2.2.1]; rfl) M1 ⟨i1, i2, 0, by omega, ?_, Or.inr ⟨wI_j .., rfl⟩, fun _ => 0, fun w => absurd w (by decide), fun j hj => absurd hj (Nat.not_lt_zero j)⟩
    rw [v1 130 (by decide) (by omega), Xz 130 (by decide), n4]
    rfl
  · have hIt := Qat_QI (rd := rdB x) (sd := sdB x S) k2 hB0 hi5 hσ t
    have hn6 := QI_n k2 hi5 hIt
    have hn1 := hIt.1.1
    obtain ⟨w, uu, w1, w2, w3⟩ := s176_F (σ0 := σ0) hMX hB0 (by rw [x140]; exact hσ) hg (t := t) (by rw [x140, xrd, xsd]; exact n1) ((Qat (x.1 140) (rdB x) (sdB x S) B σ0 t).n - 1) 0 FU u (by rw [x140, xrd, xsd]; omega) (by unfold FU; omega) (by rw [Nat.zero_mul]; exact u2)
    rw [Nat.zero_mul] at w1
    rw [x140, xrd, xsd] at w1 w2 w3 u1
    have hIu := Qat_QI (rd := rdB x) (sd := sdB x S) k2 hB0 hi5 hσ uu
    generalize hQt : Qat (x.1 140) (rdB x) (sdB x S) B σ0 t = Qt at *
    generalize hQu : Qat (x.1 140) (rdB x) (sdB x S) B σ0 uu = Qv at *
    obtain ⟨c1, c2, c3, c4⟩ := n2
    have chle : ∀ j, j ≤ C → ch j ≤ Qt.n - 1 := by
      intro j
      induction j with
      | zero => intro _; omega
      | succ j ih =>
        intro hj
        obtain ⟨d1, d2, d3⟩ := c4 j (by omega)
        have := (hIt.2.2.2 (ch j) d1 d2).1
        have := ih (by omega)
        omega
    have c4' : ∀ j, j < C → 0 < ch j ∧ ch j < Qv.n ∧ Qv.fr (ch j) = ch (j + 1) := by
      intro j hj
      obtain ⟨d1, d2, d3⟩ := c4 j hj
      obtain ⟨⟨_, g1⟩, _, g2, _⟩ := w3 (ch j) (chle j (by omega))
      exact ⟨d1, g1, by rw [g2, d3]⟩
    have hvv : ∀ k, k < Qv.n → vSt B (X.1 140) (Qv.st k) := by rw [x140]; exact hIu.2.1
    have cl : codS S B (x.1 140) (Qt.st (Qt.n - 1)) < 6480 := cod_lt k1 k2 hi5 (hIt.2.1 _ (by omega))
    have a4e : codS S B (x.1 140) (Qt.st (Qt.n - 1)) = codS S B (X.1 140) (Qv.st (ch 0)) := by rw [x140, c2, (w3 (Qt.n - 1) (Nat.le_refl _)).2.1]
    have M2 := s177_54 hMX hvv (C := C) (ch := ch) hIu.1.1 (by omega) c3 c4' w2 (zI (codS S B (x.1 140) (Qt.st (Qt.n - 1)))) C 0 FU (by omega) (by unfold FU; omega)
    obtain ⟨v, v1, v2, v3, v4, v5⟩ := s177_106 hMX hvv (C := C) (ch := ch) (by omega) hIu.1.1 c3 c4' w2 C 0 FU (wI w 138 51 (zI C)) (by omega) (by unfold FU; omega) ⟨by rw [wI_ne (by decide)], by rw [wI_ne (by decide)]⟩
    rw [← a4e, Nat.sub_zero] at v1
    rw [← a4e, ← zI_0] at M2
    have v51 : v.1 138 51 = zI C := by rw [v4 138 (by decide), wI_j]
    have M1 : gm177 (zI r) (zI g) Y = some (rr, v) := by
      rw [M0, u1, w1, Option.bind_some]
      show gm177_54 FU (zI (codS S B (x.1 140) (Qt.st (Qt.n - 1)))) 0 (zI (codS S B (x.1 140) (Qt.st (Qt.n - 1)))) w = _
      rw [M2]
      unfold gm177_86 gm177_99
      rw [if_neg (zI_ne_m1 (by omega)), v1, v51, n3]
    have vX : ∀ a, ¬ a = 138 → a < 182 ∨ 187 ≤ a → v.1 a = X.1 a := fun a m1 m2 => by rw [v4 a (by omega), wI_ne m1, w2.1 a (by omega)]
    have vz : ∀ a, ¬ a = 138 → a < 182 → v.1 a = z.1 a := fun a m1 m2 => by rw [vX a m1 (by omega), Xz a m1]
    obtain ⟨i1, i2⟩ := ipl _ vX
    refine fin v vX (fun j hj => by rw [v4 138 (by decide), wI_nj hj, w2.1 138 (by omega)]) (by rw [v5, ← w2.2.1]; rfl) M1 ⟨i1, i2, C, by omega, ?_, Or.inl v51, ch, fun _ => ?_, fun j hj => ?_⟩
    · rw [vz 130 (by decide) (by decide)]; exact n4
    · rw [vz 130 (by decide) (by decide)]; exact n5
    · obtain ⟨d1, d2, d3⟩ := c4 j hj
      obtain ⟨g1, g2⟩ := n6 j hj
      rw [vz 134 (by decide) (by decide), vz 135 (by decide) (by decide), g1, g2, v2 j (Nat.zero_le _) hj, (w3 (ch j) (chle j (by omega))).2.2.2]
      exact ⟨d1, by omega, rfl, rfl⟩
