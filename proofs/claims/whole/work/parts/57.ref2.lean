/-! Why a step is refused: both sides answer so -/
theorem s54 {c B : Nat} {its : Nat → Int32} {x : Hs} (hR : IRng c B its x) {r s : Nat} (hr : r < 4) (hs5 : s < 5) : gm54 (60 + 8 * r) (zI s) x = some (b2i (shoM x (5 * r + s))) := by
  obtain ⟨⟨q1, q2, q3⟩, ⟨l4, l5, l6, l7⟩, -⟩ := hR.1 r hr s hs5
  have j5 : aIn (zI s) 5 = true := aIn_t (by omega) (by omega)
  have t20 : (20 : Int64) = (20 : Int32).toInt64 := rfl
  have h1 : lg_cmp (x.1 151 (5 * r + s)).toInt64 20 < 0 ↔ x.1 151 (5 * r + s) < 20 := by rw [cmp_lt, t20, Int32.toInt64_lt]
  have h2 : lg_cmp (x.1 153 (5 * r + s)).toInt64 20 ≥ 0 ↔ x.1 153 (5 * r + s) ≥ 20 := by
    rw [cmp_ge, t20, Int32.toInt64_le]
  unfold gm54 gm54_36 shoM
  simp only [j5, cond_true, xi_zI (show s < 2147483648 by omega), q1, l4, l6]
  by_cases p1 : x.1 151 (5 * r + s) < 20
  · rw [if_pos (h1.mpr p1), decide_eq_true p1]; rfl
  · rw [if_neg (fun w => p1 (h1.mp w)), decide_eq_false p1]
    by_cases p2 : x.1 147 (5 * r + s) = -1
    · rw [if_pos p2, decide_eq_true p2]; rfl
    · rw [if_neg p2, decide_eq_false p2]
      by_cases p3 : x.1 153 (5 * r + s) ≥ 20
      · rw [if_pos (h2.mpr p3), decide_eq_true p3]; rfl
      · rw [if_neg (fun w => p3 (h2.mp w)), decide_eq_false p3]; rfl
theorem s55 {c B : Nat} {its : Nat → Int32} {x : Hs} (hR : IRng c B its x) {r s : Nat} (hr : r < 4) (hs5 : s < 5) : gm55 (60 + 8 * r) (zI s) x = some (b2i (worM x (5 * r + s))) := by
  obtain ⟨⟨q1, q2, q3⟩, ⟨l4, l5, l6, l7⟩, -⟩ := hR.1 r hr s hs5
  have j5 : aIn (zI s) 5 = true := aIn_t (by omega) (by omega)
  unfold gm55 worM
  simp only [j5, cond_true, xi_zI (show s < 2147483648 by omega), q1, l4, l5, l6, l7]
  by_cases p1 : x.1 147 (5 * r + s) = -1
  · rw [if_pos p1, if_pos p1]
    by_cases p2 : lg_cmp (100 * (x.1 152 (5 * r + s)).toInt64) (5 * (x.1 151 (5 * r + s)).toInt64) ≤ 0
    · rw [if_pos p2, decide_eq_true p2]; rfl
    · rw [if_neg p2, decide_eq_false p2]; rfl
  · rw [if_neg p1, if_neg p1]
    by_cases p2 : lg_cmp (100 * ((x.1 152 (5 * r + s)).toInt64 * (x.1 153 (5 * r + s)).toInt64 - (x.1 154 (5 * r + s)).toInt64 * (x.1 151 (5 * r + s)).toInt64)) (5 * (x.1 151 (5 * r + s)).toInt64 * (x.1 153 (5 * r + s)).toInt64) ≤ 0
    · rw [if_pos p2, decide_eq_true p2]; rfl
    · rw [if_neg p2, decide_eq_false p2]; rfl
theorem s106 {c S B Z I P now r s : Nat} {x : Hs} (hN : INow now x) (hC : ICat S B x) (hR : IRng c B (x.1 140) x) (hZ : IFrz Z x) (hB : IBud c now x) (hD : IDut P I now x) (hs5 : s < 5) (g0 : ¬ x.1 155 s = -1) (hh : x.1 157 s = 0) (er : x.1 156 s = zI r) (hr : r < 4) :
    gm106 (zI s) (93 + s) x = some (refM x S Z I r s (zI now) (zI (now / 60)) (x.1 155 s), x) := by
  obtain ⟨n1, n2, n3⟩ := id hN
  obtain ⟨⟨k1, k2⟩, _, ⟨w3, w4, w5, w56, w57⟩, -⟩ := id hC
  obtain ⟨z1, ⟨z2, z3⟩, ⟨w100, w101, w102, w99⟩, hex⟩ := id hZ
  obtain ⟨b1, b2, b3, b4, b5⟩ := hR.2 s hs5
  obtain ⟨b6, b7, b8, b9, b10⟩ := b5 g0
  have bB : aIn (x.1 155 s) B = true := (b1.resolve_left g0).1
  obtain ⟨⟨q1, q2, q3⟩, _, ⟨v1, v2, v3⟩, _⟩ := hR.1 r hr s hs5
  have j5 : aIn (zI s) 5 = true := aIn_t (by omega) (by omega)
  have j4 : aIn (zI r) 4 = true := aIn_t (by omega) (by omega)
  have xs : xi (zI s) = s := xi_zI (by omega)
  have xr : xi (zI r) = r := xi_zI (by omega)
  have a1 := s31 hZ (zI s) (zI now)
  have a2 := s20 hD hs5
  have a3 := s3 hB hs5
  have a4 := s12 hC bB
  have a5 := s48 hC hR hr hs5 v1 b1
  have a6 := s48 hC hR hr hs5 (w1 := x.1 155 s) (w2 := -1) b1 (Or.inl rfl)
  have a7 := s54 hR hr hs5
  have a8 := s55 hR hr hs5
  rw [er] at b6
  have gate : (cond (aIn (zI r) 4) (cond (aIn (zI s) 5) (if x.1 (60 + 8 * r + 2) s = -1 then ((gm107 (zI s) (93 + s) (60 + 8 * r) x).bind fun w17 => some (w17.1, w17.2)) else ((gm108 (zI s) (93 + s) (60 + 8 * r) x).bind fun w15 => some (w15.1, w15.2))) none) none) = some (gateM x S r s (zI now) (x.1 155 s), x) := by
    unfold gateM
    rw [j4, cond_true, j5, cond_true, q2]
    by_cases p : x.1 148 (5 * r + s) = -1
    · rw [if_pos p, if_pos p]
      unfold gm107 gm107_41 gm107_46
      simp only [j5, cond_true, xs, q1, b2, a5, Option.bind_some, b6, n2]
      cases sndR x S r s (x.1 147 (5 * r + s)) (x.1 155 s) with
      | false => rfl
      | true =>
        rw [if_neg ib_t, if_pos rfl]
        by_cases hr0 : r = 0
        · subst hr0
          rw [if_pos (show zI 0 = 0 from rfl), if_pos rfl]
          rfl
        · have h1 : ¬ zI r = 0 := by rw [show (0 : Int32) = zI 0 from rfl, zI_inj (by omega) (by omega)]; omega
          have h2 := b10 hh (by rw [er]; exact h1)
          rw [er, xr] at h2
          rw [if_neg h1, if_neg hr0, h2]
          by_cases h3 : zI now - x.1 150 (5 * (r - 1) + s) < 30
          · rw [if_pos h3, if_pos h3]; rfl
          · rw [if_neg h3, if_neg h3]; rfl
    · rw [if_neg p, if_neg p]
      unfold gm108
      simp only [b2, a6, a7, a8, Option.bind_some]
      cases sndR x S r s (x.1 155 s) (-1) <;> cases shoM x (5 * r + s) <;> cases worM x (5 * r + s) <;> rfl
  have rest : gm106_29 (zI s) (93 + s) x = some ((if gravM x I s = true then 2 else if usedM x (zI (now / 60)) s = true then 3 else if (rdyM x (x.1 155 s) && decide (x.1 145 (xi (x.1 155 s)) = 0)) = false then 4 else gateM x S r s (zI now) (x.1 155 s)), x) := by
    unfold gm106_29
    simp only [j5, cond_true, xs, w3, a2, a3, b2, a4, b6, xr, Option.bind_some]
    simp only [j5, j4, cond_true] at gate
    cases gravM x I s with
    | true => rfl
    | false =>
      cases usedM x (zI (now / 60)) s with
      | true => rfl
      | false =>
        cases (rdyM x (x.1 155 s) && decide (x.1 145 (xi (x.1 155 s)) = 0)) with
        | false => rfl
        | true =>
          simp only [b2i_t, b2i_f, ↓reduceIte, i10, j4, cond_true, gate]
          rfl
  unfold gm106 refM
  rw [n2, a1, Option.bind_some, rest, j5, cond_true, xs, w99]
  cases frozM x Z (zI now) (zI s) with
  | false => rfl
  | true =>
    rw [if_neg ib_t, Bool.true_and]
    by_cases p : x.1 158 s = 0
    · rw [if_pos p, decide_eq_true p]; rfl
    · rw [if_neg p, decide_eq_false p]; rfl
theorem s139 {c S B Z I P now r s : Nat} {x y : Hs} (hN : INow now x) (hC : ICat S B x) (hR : IRng c B (x.1 140) x) (hZ : IFrz Z x) (hD : IDut P I now x) (hs5 : s < 5) (g0 : ¬ x.1 155 s = -1) (hh : x.1 157 s = 0) (er : x.1 156 s = zI r) (hr : r < 4)
    (c0 : ∀ a, 139 ≤ a → a ≤ 186 → y.1 a = x.1 a) (c1 : ∀ j, ¬ j = 57 → y.1 138 j = x.1 138 j) :
    gm139 (zI s) y = some (refM x S Z I r s (zI now) (zI (now / 60)) (x.1 155 s), y) := by
  obtain ⟨n1, n2, n3⟩ := id hN
  obtain ⟨⟨k1, k2⟩, _, ⟨w3, w4, w5, w56, w57⟩, -⟩ := id hC
  obtain ⟨z1, ⟨z2, z3⟩, ⟨w100, w101, w102, w99⟩, hex⟩ := id hZ
  obtain ⟨⟨p1, p2, p3⟩, ⟨e1, e2, e3, e4⟩, -⟩ := id hD
  obtain ⟨b1, b2, b3, b4, b5⟩ := hR.2 s hs5
  obtain ⟨b6, b7, b8, b9, b10⟩ := b5 g0
  have bB : aIn (x.1 155 s) B = true := (b1.resolve_left g0).1
  obtain ⟨⟨q1, q2, q3⟩, _, ⟨v1, v2, v3⟩, _⟩ := hR.1 r hr s hs5
  have hMC : MC S B y := hC.mc.of (c1 1 (by decide)) (c1 3 (by decide)) (c0 140 (by decide) (by decide)) (c0 145 (by decide) (by decide))
  have j5 : aIn (zI s) 5 = true := aIn_t (by omega) (by omega)
  have j20 : aIn (zI (5 * r + s)) 20 = true := aIn_t (by omega) (by omega)
  have j24 := aIn_up bB k2
  have xs : xi (zI s) = s := xi_zI (by omega)
  have xk : xi (zI (5 * r + s)) = 5 * r + s := xi_zI (by omega)
  have ix : 5 * zI r + zI s = zI (5 * r + s) := by rw [show (5 : Int32) = zI 5 from rfl, zI_mul, zI_add]
  have y0 : y.1 138 0 = zI now := by rw [c1 0 (by decide)]; exact n3
  have dv : y.1 138 0 / 60 = zI (now / 60) := by rw [y0]; exact zI_div (by omega) (by omega) (b := 60) (by omega)
  have a1 : gm135 (zI s) y = some (b2i (frozM x Z (zI now) (zI s))) := by
    rw [s135 (Z := Z) (by rw [c1 27 (by decide)]; exact z3) z1, y0]
    unfold frozM
    rw [c0 163 (by decide) (by decide), c0 164 (by decide) (by decide), c0 165 (by decide) (by decide)]
  have a2 : gm136 (zI s) y = some (b2i (gravM x I s)) := by
    rw [s136 (I := I) (by rw [c1 42 (by decide)]; exact e4) p3 hs5]
    unfold gravM
    rw [c0 181 (by decide) (by decide), c0 175 (by decide) (by decide), c0 174 (by decide) (by decide), c0 139 (by decide) (by decide)]
  have a3 : gm138 (zI s) y = some (b2i (usedM x (zI (now / 60)) s)) := by
    rw [s138 dv hs5]
    unfold usedM
    rw [c0 159 (by decide) (by decide), c0 160 (by decide) (by decide), c0 161 (by decide) (by decide), c0 162 (by decide) (by decide)]
  have a4 : gm130 (x.1 155 s) y = some (b2i (rdyM x (x.1 155 s))) := by
    rw [s130 j24]
    unfold rdyM
    rw [c0 144 (by decide) (by decide), c0 146 (by decide) (by decide)]
  have a5 := s133 hMC (fun a h1 h2 => c0 a h1 (by omega)) hR hr hs5 v1 b1
  have a6 := s133 hMC (fun a h1 h2 => c0 a h1 (by omega)) hR hr hs5 (w1 := x.1 155 s) (w2 := -1) b1 (Or.inl rfl)
  have C145 := c0 145 (by decide) (by decide)
  have C147 := c0 147 (by decide) (by decide)
  have C148 := c0 148 (by decide) (by decide)
  have C150 := c0 150 (by decide) (by decide)
  have C151 := c0 151 (by decide) (by decide)
  have C152 := c0 152 (by decide) (by decide)
  have C153 := c0 153 (by decide) (by decide)
  have C154 := c0 154 (by decide) (by decide)
  have C155 := c0 155 (by decide) (by decide)
  have C156 := c0 156 (by decide) (by decide)
  have C158 := c0 158 (by decide) (by decide)
  -- the gate's last part
  have t1 : ∀ v : Int64, v * (1 : Int32).toInt64 = v := fun v => by rw [show (1 : Int32).toInt64 = 1 from rfl, Int64.mul_one]
  have gw : gm139_135 (zI r) (zI (5 * r + s)) 1 y = some ((if shoM x (5 * r + s) = true then 7 else if worM x (5 * r + s) = true then 8 else 0), y) := by
    unfold gm139_135 gm139_186 gm139_220 gm139_279 gm139_311 shoM worM
    simp only [j20, cond_true, xk, C147, C151, C152, C153, C154, i10, ↓reduceIte, t1]
    by_cases h1 : x.1 147 (5 * r + s) = -1
    · simp only [if_pos h1, decide_eq_true h1, i10, ↓reduceIte]
      by_cases h2 : x.1 151 (5 * r + s) < 20
      · rw [if_pos h2, decide_eq_true h2]; rfl
      · rw [if_neg h2, decide_eq_false h2]
        by_cases h3 : lg_cmp (100 * (x.1 152 (5 * r + s)).toInt64) (5 * (x.1 151 (5 * r + s)).toInt64) ≤ 0
        · rw [if_pos h3, decide_eq_true h3]; rfl
        · rw [if_neg h3, decide_eq_false h3]; rfl
    · simp only [if_neg h1, decide_eq_false h1, i10, ↓reduceIte]
      by_cases h2 : x.1 151 (5 * r + s) < 20
      · rw [if_pos h2, decide_eq_true h2]; rfl
      · rw [if_neg h2, decide_eq_false h2]
        by_cases h4 : x.1 153 (5 * r + s) ≥ 20
        · rw [if_pos h4, decide_eq_true h4]
          by_cases h3 : lg_cmp (100 * ((x.1 152 (5 * r + s)).toInt64 * (x.1 153 (5 * r + s)).toInt64 - (x.1 154 (5 * r + s)).toInt64 * (x.1 151 (5 * r + s)).toInt64)) (5 * (x.1 151 (5 * r + s)).toInt64 * (x.1 153 (5 * r + s)).toInt64) ≤ 0
          · rw [if_pos h3, decide_eq_true h3]; rfl
          · rw [if_neg h3, decide_eq_false h3]; rfl
        · rw [if_neg h4, decide_eq_false h4]; rfl
  have gc : gm139_135 (zI r) (zI (5 * r + s)) 0 y = some ((if r = 0 then 0 else if zI now - x.1 150 (5 * (r - 1) + s) < 30 then 6 else 0), y) := by
    unfold gm139_135
    rw [if_pos rfl]
    by_cases hr0 : r = 0
    · subst hr0
      rw [if_pos (by decide), if_pos rfl]
    · have h1 : ¬ zI r ≤ 0 := by rw [show (0 : Int32) = zI 0 from rfl, zI_le (by omega) (by omega)]; omega
      have h2 : zI (5 * r + s) - 5 = zI (5 * (r - 1) + s) := by
        rw [show (5 : Int32) = zI 5 from rfl, zI_sub (by omega)]
        congr 1
        omega
      rw [if_neg h1, if_neg hr0, h2, aIn_t (by omega) (by omega), cond_true, xi_zI (by omega), y0, C150]
      by_cases h3 : zI now - x.1 150 (5 * (r - 1) + s) < 30
      · rw [if_pos h3, if_neg (by rw [i_ge]; rw [i_lt] at h3; omega)]
      · rw [if_neg h3, if_pos (by rw [i_ge]; rw [i_lt] at h3; omega)]
  have rest : ∀ e : Bool, (e = true ↔ ¬ x.1 148 (5 * r + s) = -1) → gm139_58 (zI s) (x.1 155 s) (zI r) (zI (5 * r + s)) (b2i e) y = some ((if gravM x I s = true then 2 else if usedM x (zI (now / 60)) s = true then 3 else if (rdyM x (x.1 155 s) && decide (x.1 145 (xi (x.1 155 s)) = 0)) = false then 4 else gateM x S r s (zI now) (x.1 155 s)), y) := by
    intro e he
    unfold gm139_58
    simp only [j24, j20, cond_true, xk, a2, a3, a4, a5, a6, C145, C147, Option.bind_some]
    cases gravM x I s with
    | true => rfl
    | false =>
      cases usedM x (zI (now / 60)) s with
      | true => rfl
      | false =>
        by_cases hb : x.1 145 (xi (x.1 155 s)) = 0
        · cases rdyM x (x.1 155 s) with
          | false =>
            simp only [b2i_t, b2i_f, ↓reduceIte, i10, if_pos hb, Bool.false_and]
            rfl
          | true =>
            simp only [b2i_t, b2i_f, ↓reduceIte, i10, if_pos hb, Bool.true_and, decide_eq_true hb]
            unfold gateM
            cases e with
            | true =>
              rw [if_neg ib_t, if_neg (he.mp rfl), b2i_t, gw]
              cases sndR x S r s (x.1 155 s) (-1) <;> rfl
            | false =>
              have hc : x.1 148 (5 * r + s) = -1 := by
                by_cases w : x.1 148 (5 * r + s) = -1
                · exact w
                · have := he.mpr w
                  cases this
              rw [if_pos ib_f, if_pos hc, b2i_f, gc]
              cases sndR x S r s (x.1 147 (5 * r + s)) (x.1 155 s) <;> rfl
        · simp only [b2i_t, b2i_f, ↓reduceIte, i10, if_neg hb, decide_eq_false hb, Bool.and_false]
          rfl
  have tail : ∀ e : Bool, (e = true ↔ ¬ x.1 148 (5 * r + s) = -1) → gm139_37 (zI s) (x.1 155 s) (zI r) (zI (5 * r + s)) (b2i e) y = some (refM x S Z I r s (zI now) (zI (now / 60)) (x.1 155 s), y) := by
    intro e he
    unfold gm139_37 refM
    rw [a1, Option.bind_some, rest e he, j5, cond_true, xs, C158]
    cases frozM x Z (zI now) (zI s) with
    | false => rfl
    | true =>
      rw [if_neg ib_t, Bool.true_and]
      by_cases p : x.1 158 s = 0
      · rw [if_pos p, decide_eq_true p]; rfl
      · rw [if_neg p, decide_eq_false p]; rfl
  unfold gm139
  simp only [j5, cond_true, xs, C155, C156, C148, er, ix, j20, xk]
  rcases b9 r hr with hc | ⟨_, _, hc⟩
  · rw [hc, if_neg (fun w => g0 w.symm)]
    exact tail false ⟨fun w => (by cases w), fun w => absurd hc w⟩
  · rw [hc, if_pos rfl]
    exact tail true ⟨fun _ => (by rw [hc]; exact g0), fun _ => rfl⟩
