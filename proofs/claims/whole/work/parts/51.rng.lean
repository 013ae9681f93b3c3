/-! Asking about rings -/
theorem ring_run {c B : Nat} {its : Nat → Int32} {x : Hs} (hR : IRng c B its x) {r : Nat} (hr : r < 4) {s : Nat} (hs : s < 5) : x.1 (60 + 8 * r + 1) s = x.1 147 (5 * r + s) ∧ x.1 (60 + 8 * r + 2) s = x.1 148 (5 * r + s) := ⟨(hR.1 r hr s hs).1.1, (hR.1 r hr s hs).1.2.1⟩
theorem s13r {c S B : Nat} {x : Hs} (hC : ICat S B x) (hR : IRng c B (x.1 140) x) {r : Nat} (hr : r < 4) : gm13 (60 + 8 * r + 1) (60 + 8 * r + 2) x = some (b2i (soundM x (fun s => x.1 147 (5 * r + s)) (fun s => x.1 148 (5 * r + s)) S)) := by
  have hk := hC.1
  have a1 : ∀ s, s < S → vB B (x.1 140) s (x.1 (60 + 8 * r + 1) s) := fun s hs => by rw [(ring_run hR hr (by omega)).1]; exact (hR.1 r hr s (by omega)).2.2.1.1
  have a2 : ∀ s, s < S → vB B (x.1 140) s (x.1 (60 + 8 * r + 2) s) := fun s hs => by rw [(ring_run hR hr (by omega)).2]; exact (hR.1 r hr s (by omega)).2.2.1.2.1
  rw [s13 hC a1 a2, soundM_fn (fun s hs => (ring_run hR hr (by omega)).1) (fun s hs => (ring_run hR hr (by omega)).2)]
theorem s132r {c S B : Nat} {x y : Hs} (hR : IRng c B (x.1 140) x) (hM : MC S B y) (hc : ∀ a, 139 ≤ a → a ≤ 148 → y.1 a = x.1 a) {r : Nat} (hr : r < 4) : gm132 (zI r) y = some (b2i (soundM x (fun s => x.1 147 (5 * r + s)) (fun s => x.1 148 (5 * r + s)) S)) := by
  have hk := hM.1
  rw [s132 hM hr (fun s hs => by rw [hc 147 (by decide) (by decide)]; exact ((hR.1 r hr s (by omega)).2.2.1.1).imp id (fun h => h.1)) (fun s hs => by rw [hc 148 (by decide) (by decide)]; exact ((hR.1 r hr s (by omega)).2.2.1.2.1).imp id (fun h => h.1)), soundM_cg (fun a h1 h2 => hc a h1 (by omega)), hc 147 (by decide) (by decide), hc 148 (by decide) (by decide)]
theorem op_isSound {c : Nat} {x : Hs} (h : Inv c x) (a1 : Int32) : OpOK c x (gm210 a1 x) (gm169 a1) o01 := by
  have h0 := h
  obtain ⟨S, B, Z, F, U, P, I, now, hN, hC, hR, hZ, hB, hF, hD, hP⟩ := h
  obtain ⟨⟨k1, k2⟩, ⟨e1, e2, e3, e4⟩, ⟨w3, w4, w5, w56, w57⟩, hLH, hbt, hit, hcd, hcl⟩ := id hC
  obtain ⟨r1, r2⟩ := id hR
  have T0 := fun y : Hs => s119 (x := y) a1
  cases h1 : aIn a1 4 with
  | false =>
    refine OpOK.no h0 (k := 1) (b := 0) (by decide) ?_ ?_
    · simp only [gm210_15, gm210, gm87, s96_f h1, T0, h1, n10, n20, n21, Option.bind_some, b2i_t, b2i_f, i10, ↓reduceIte, cond_true, cond_false, kb0, kb1, kb2, s92_1, s92_0, s93_1, s93_0, s113_0, s113_1, s113_2, s113_3, aBit_b, aI01, xi0, xi1]
    · simp only [gm169_13, gm169, s96_f h1, T0, h1, n10, n20, n21, Option.bind_some, b2i_t, b2i_f, i10, ↓reduceIte, cond_true, cond_false, kb0, kb1, kb2, s92_1, s92_0, s93_1, s93_0, s113_0, s113_1, s113_2, s113_3, aBit_b, aI01, xi0, xi1]
  | true =>
  have F1 := s96_t (x := x) h1
  obtain ⟨r, hr, er⟩ := aIn_ex h1
  have xr : xi a1 = r := by rw [er, xi_zI (by omega)]
  have c1 := s13r hC hR hr
  have m1 := fun v : Int64 => s132r (y := wI (wJ x 187 0 v) 138 57 0) hR (hC.mc.of (by rw [wI_nj (by decide), wJ_I]) (by rw [wI_nj (by decide), wJ_I]) (by rw [wI_ne (by decide), wJ_I]) (by rw [wI_ne (by decide), wJ_I])) (fun a h1 h2 => by rw [wI_ne (by omega), wJ_I]) hr
  rw [← er] at m1
  generalize soundM x (fun s => x.1 147 (5 * r + s)) (fun s => x.1 148 (5 * r + s)) S = q at c1 m1
  refine OpOK.ask h0 (b := b2i q) (if q = true then 1 else 0) ?_ ?_ ?_
  · simp only [gm210_15, gm210, gm87, F1, h1, xr, c1, n10, n20, n21, Option.bind_some, b2i_t, b2i_f, i10, ↓reduceIte, cond_true, cond_false, kb0, kb1, kb2, s92_1, s92_0, s93_1, s93_0, s113_0, s113_1, s113_2, s113_3, aBit_b, aI01, xi0, xi1]
    cases q <;> rfl
  · simp only [gm169_13, gm169, T0, h1, m1, n10, n20, n21, Option.bind_some, b2i_t, b2i_f, i10, ↓reduceIte, cond_true, cond_false, kb0, kb1, kb2, s92_1, s92_0, s93_1, s93_0, s113_0, s113_1, s113_2, s113_3, aBit_b, aI01, xi0, xi1]
    cases q <;> rfl
  · cases q <;> rfl
theorem op_in {c : Nat} {x : Hs} (h : Inv c x) (a1 a2 a3 : Int32) : OpOK c x (gm209 a1 a2 a3 x) (gm168 a1 a2 a3) o64 := by
  have h0 := h
  obtain ⟨S, B, Z, F, U, P, I, now, hN, hC, hR, hZ, hB, hF, hD, hP⟩ := h
  obtain ⟨⟨k1, k2⟩, ⟨e1, e2, e3, e4⟩, ⟨w3, w4, w5, w56, w57⟩, hLH, hbt, hit, hcd, hcl⟩ := id hC
  obtain ⟨r1, r2⟩ := id hR
  have T0 := fun y : Hs => s119 (x := y) a1
  have T1 := s117 (x := x) (S := S) a2 e2 k1
  have t3 := fun y => s114 a3 0 2 y
  have u3 := fun y => s99 a3 0 2 y
  cases h1 : aIn a1 4 with
  | false =>
    refine OpOK.no h0 (k := 1) (b := 0) (by decide) ?_ ?_
    · simp only [gm209, gm86, s96_f h1, T0, h1, n10, n20, n21, Option.bind_some, b2i_t, b2i_f, i10, ↓reduceIte, cond_true, cond_false, kb0, kb1, kb2, s92_1, s92_0, s93_1, s93_0, s113_0, s113_1, s113_2, s113_3, aBit_b, aI01, xi0, xi1]
    · simp only [gm168_62, gm168_36, gm168_20, gm168_19, gm168, s96_f h1, T0, h1, n10, n20, n21, Option.bind_some, b2i_t, b2i_f, i10, ↓reduceIte, cond_true, cond_false, kb0, kb1, kb2, s92_1, s92_0, s93_1, s93_0, s113_0, s113_1, s113_2, s113_3, aBit_b, aI01, xi0, xi1]
  | true =>
  have F0 := s96_t (x := x) h1
  cases h2 : aIn a2 S with
  | false =>
    refine OpOK.no h0 (k := 1) (b := 0) (by decide) ?_ ?_
    · simp only [gm209, gm86, F0, s94_f hC h2, T0, h1, T1, h2, n10, n20, n21, Option.bind_some, b2i_t, b2i_f, i10, ↓reduceIte, cond_true, cond_false, kb0, kb1, kb2, s92_1, s92_0, s93_1, s93_0, s113_0, s113_1, s113_2, s113_3, aBit_b, aI01, xi0, xi1]
    · simp only [gm168_62, gm168_36, gm168_20, gm168_19, gm168, F0, s94_f hC h2, T0, h1, T1, h2, n10, n20, n21, Option.bind_some, b2i_t, b2i_f, i10, ↓reduceIte, cond_true, cond_false, kb0, kb1, kb2, s92_1, s92_0, s93_1, s93_0, s113_0, s113_1, s113_2, s113_3, aBit_b, aI01, xi0, xi1]
  | true =>
  rw [h2] at T1
  have F1 := s94_t hC h2
  cases h3 : win a3 0 2 with
  | false =>
    refine OpOK.no h0 (k := 2) (b := 0) (by decide) ?_ ?_
    · simp only [gm209, gm86, F0, F1, T0, h1, T1, t3, u3, h3, n10, n20, n21, Option.bind_some, b2i_t, b2i_f, i10, ↓reduceIte, cond_true, cond_false, kb0, kb1, kb2, s92_1, s92_0, s93_1, s93_0, s113_0, s113_1, s113_2, s113_3, aBit_b, aI01, xi0, xi1]
    · simp only [gm168_62, gm168_36, gm168_20, gm168_19, gm168, F0, F1, T0, h1, T1, t3, u3, h3, n10, n20, n21, Option.bind_some, b2i_t, b2i_f, i10, ↓reduceIte, cond_true, cond_false, kb0, kb1, kb2, s92_1, s92_0, s93_1, s93_0, s113_0, s113_1, s113_2, s113_3, aBit_b, aI01, xi0, xi1]
  | true =>
  have i5 := aIn_up h2 k1
  obtain ⟨r, hr, er⟩ := aIn_ex h1
  obtain ⟨s, hs, es⟩ := aIn_ex i5
  have xr : xi a1 = r := by rw [er, xi_zI (by omega)]
  have xs : xi a2 = s := by rw [es, xi_zI (by omega)]
  have ix : 5 * a1 + a2 = zI (5 * r + s) := by rw [er, es, show (5 : Int32) = zI 5 from rfl, zI_mul, zI_add]
  have i20 : aIn (zI (5 * r + s)) 20 = true := aIn_t (by omega) (by omega)
  have xk : xi (zI (5 * r + s)) = 5 * r + s := xi_zI (by omega)
  obtain ⟨⟨q147, q148, q149⟩, _⟩ := r1 r hr s hs
  by_cases g0 : a3 = 0
  · refine OpOK.ask h0 (b := x.1 147 (5 * r + s)) (x.1 147 (5 * r + s) : Int32).toInt64 ?_ ?_ rfl
    · simp only [gm209, gm86, F0, F1, u3, h1, h2, h3, xr, i5, xs, q147, q148, q149, if_pos g0, n10, n20, n21, Option.bind_some, b2i_t, b2i_f, i10, ↓reduceIte, cond_true, cond_false, kb0, kb1, kb2, s92_1, s92_0, s93_1, s93_0, s113_0, s113_1, s113_2, s113_3, aBit_b, aI01, xi0, xi1]
    · have T1 := s117 (x := wJ x 187 0 (x.1 147 (5 * r + s) : Int32).toInt64) (S := S) a2 e2 k1
      rw [h2] at T1
      have z : ∀ a, 139 ≤ a → (wI (wJ x 187 0 (x.1 147 (5 * r + s) : Int32).toInt64) 138 57 0).1 a = x.1 a := fun a ha => by rw [wI_ne (by omega), wJ_I]
      simp only [gm168_62, gm168_36, gm168_20, gm168_19, gm168, T0, h1, T1, t3, h3, i20, xk, ix, z 147 (by decide), z 148 (by decide), z 149 (by decide), if_pos g0, n10, n20, n21, Option.bind_some, b2i_t, b2i_f, i10, ↓reduceIte, cond_true, cond_false, kb0, kb1, kb2, s92_1, s92_0, s93_1, s93_0, s113_0, s113_1, s113_2, s113_3, aBit_b, aI01, xi0, xi1]
  by_cases g1 : a3 = 1
  · refine OpOK.ask h0 (b := x.1 148 (5 * r + s)) (x.1 148 (5 * r + s) : Int32).toInt64 ?_ ?_ rfl
    · simp only [gm209, gm86, F0, F1, u3, h1, h2, h3, xr, i5, xs, q147, q148, q149, if_neg g0, if_pos g1, n10, n20, n21, Option.bind_some, b2i_t, b2i_f, i10, ↓reduceIte, cond_true, cond_false, kb0, kb1, kb2, s92_1, s92_0, s93_1, s93_0, s113_0, s113_1, s113_2, s113_3, aBit_b, aI01, xi0, xi1]
    · have T1 := s117 (x := wJ x 187 0 (x.1 148 (5 * r + s) : Int32).toInt64) (S := S) a2 e2 k1
      rw [h2] at T1
      have z : ∀ a, 139 ≤ a → (wI (wJ x 187 0 (x.1 148 (5 * r + s) : Int32).toInt64) 138 57 0).1 a = x.1 a := fun a ha => by rw [wI_ne (by omega), wJ_I]
      simp only [gm168_62, gm168_36, gm168_20, gm168_19, gm168, T0, h1, T1, t3, h3, i20, xk, ix, z 147 (by decide), z 148 (by decide), z 149 (by decide), if_neg g0, if_pos g1, n10, n20, n21, Option.bind_some, b2i_t, b2i_f, i10, ↓reduceIte, cond_true, cond_false, kb0, kb1, kb2, s92_1, s92_0, s93_1, s93_0, s113_0, s113_1, s113_2, s113_3, aBit_b, aI01, xi0, xi1]
  · refine OpOK.ask h0 (b := x.1 149 (5 * r + s)) (x.1 149 (5 * r + s) : Int32).toInt64 ?_ ?_ rfl
    · simp only [gm209, gm86, F0, F1, u3, h1, h2, h3, xr, i5, xs, q147, q148, q149, if_neg g0, if_neg g1, n10, n20, n21, Option.bind_some, b2i_t, b2i_f, i10, ↓reduceIte, cond_true, cond_false, kb0, kb1, kb2, s92_1, s92_0, s93_1, s93_0, s113_0, s113_1, s113_2, s113_3, aBit_b, aI01, xi0, xi1]
    · have T1 := s117 (x := wJ x 187 0 (x.1 149 (5 * r + s) : Int32).toInt64) (S := S) a2 e2 k1
      rw [h2] at T1
      have z : ∀ a, 139 ≤ a → (wI (wJ x 187 0 (x.1 149 (5 * r + s) : Int32).toInt64) 138 57 0).1 a = x.1 a := fun a ha => by rw [wI_ne (by omega), wJ_I]
      simp only [gm168_62, gm168_36, gm168_20, gm168_19, gm168, T0, h1, T1, t3, h3, i20, xk, ix, z 147 (by decide), z 148 (by decide), z 149 (by decide), if_neg g0, if_neg g1, n10, n20, n21, Option.bind_some, b2i_t, b2i_f, i10, ↓reduceIte, cond_true, cond_false, kb0, kb1, kb2, s92_1, s92_0, s93_1, s93_0, s113_0, s113_1, s113_2, s113_3, aBit_b, aI01, xi0, xi1]
theorem op_rolling {c : Nat} {x : Hs} (h : Inv c x) (a1 : Int32) : OpOK c x (gm211 a1 x) (gm170 a1) o64 := by
  have h0 := h
  obtain ⟨S, B, Z, F, U, P, I, now, hN, hC, hR, hZ, hB, hF, hD, hP⟩ := h
  obtain ⟨⟨k1, k2⟩, ⟨e1, e2, e3, e4⟩, ⟨w3, w4, w5, w56, w57⟩, hLH, hbt, hit, hcd, hcl⟩ := id hC
  obtain ⟨r1, r2⟩ := id hR
  have T1 := s117 (x := x) (S := S) a1 e2 k1
  cases h2 : aIn a1 S with
  | false =>
    refine OpOK.no h0 (k := 1) (b := 0) (by decide) ?_ ?_
    · simp only [gm211, gm88_44, gm88, s94_f hC h2, T1, h2, n10, n20, n21, Option.bind_some, b2i_t, b2i_f, i10, ↓reduceIte, cond_true, cond_false, kb0, kb1, kb2, s92_1, s92_0, s93_1, s93_0, s113_0, s113_1, s113_2, s113_3, aBit_b, aI01, xi0, xi1]
    · simp only [gm170_64, gm170_14, gm170, s94_f hC h2, T1, h2, n10, n20, n21, Option.bind_some, b2i_t, b2i_f, i10, ↓reduceIte, cond_true, cond_false, kb0, kb1, kb2, s92_1, s92_0, s93_1, s93_0, s113_0, s113_1, s113_2, s113_3, aBit_b, aI01, xi0, xi1]
  | true =>
  have F0 := s94_t hC h2
  have i5 := aIn_up h2 k1
  obtain ⟨s, hs, es⟩ := aIn_ex i5
  have xs : xi a1 = s := by rw [es, xi_zI (by omega)]
  obtain ⟨b1, b2, b3, b4, b5⟩ := r2 s hs
  by_cases g0 : x.1 155 s = -1
  · refine OpOK.ask h0 (b := (-1)) ((-1) : Int32).toInt64 ?_ ?_ rfl
    · simp only [gm211, gm88_44, gm88, F0, i5, xs, b2, if_pos g0, n10, n20, n21, Option.bind_some, b2i_t, b2i_f, i10, ↓reduceIte, cond_true, cond_false, kb0, kb1, kb2, s92_1, s92_0, s93_1, s93_0, s113_0, s113_1, s113_2, s113_3, aBit_b, aI01, xi0, xi1]
    · have T1 := s117 (x := wJ x 187 0 ((-1) : Int32).toInt64) (S := S) a1 e2 k1
      rw [h2] at T1
      have z : ∀ a, 139 ≤ a → (wI (wJ x 187 0 ((-1) : Int32).toInt64) 138 57 0).1 a = x.1 a := fun a ha => by rw [wI_ne (by omega), wJ_I]
      simp only [gm170_64, gm170_14, gm170, T1, i5, xs, z 155 (by decide), z 156 (by decide), z 157 (by decide), if_pos g0, n10, n20, n21, Option.bind_some, b2i_t, b2i_f, i10, ↓reduceIte, cond_true, cond_false, kb0, kb1, kb2, s92_1, s92_0, s93_1, s93_0, s113_0, s113_1, s113_2, s113_3, aBit_b, aI01, xi0, xi1]
  obtain ⟨b6, b7, b8, b9, b10⟩ := b5 g0
  by_cases g1 : x.1 157 s = 0
  · refine OpOK.ask h0 (b := 10 * x.1 155 s + x.1 156 s) (10 * x.1 155 s + x.1 156 s : Int32).toInt64 ?_ ?_ rfl
    · simp only [gm211, gm88_44, gm88, F0, i5, xs, b2, if_neg g0, b8, if_pos g1, b6, n10, n20, n21, Option.bind_some, b2i_t, b2i_f, i10, ↓reduceIte, cond_true, cond_false, kb0, kb1, kb2, s92_1, s92_0, s93_1, s93_0, s113_0, s113_1, s113_2, s113_3, aBit_b, aI01, xi0, xi1]
    · have T1 := s117 (x := wJ x 187 0 (10 * x.1 155 s + x.1 156 s : Int32).toInt64) (S := S) a1 e2 k1
      rw [h2] at T1
      have z : ∀ a, 139 ≤ a → (wI (wJ x 187 0 (10 * x.1 155 s + x.1 156 s : Int32).toInt64) 138 57 0).1 a = x.1 a := fun a ha => by rw [wI_ne (by omega), wJ_I]
      simp only [gm170_64, gm170_14, gm170, T1, i5, xs, z 155 (by decide), z 156 (by decide), z 157 (by decide), if_neg g0, if_pos g1, n10, n20, n21, Option.bind_some, b2i_t, b2i_f, i10, ↓reduceIte, cond_true, cond_false, kb0, kb1, kb2, s92_1, s92_0, s93_1, s93_0, s113_0, s113_1, s113_2, s113_3, aBit_b, aI01, xi0, xi1]
  · refine OpOK.ask h0 (b := 10 * x.1 155 s + 4) (10 * x.1 155 s + 4 : Int32).toInt64 ?_ ?_ rfl
    · simp only [gm211, gm88_44, gm88, F0, i5, xs, b2, if_neg g0, b8, if_neg g1, b6, n10, n20, n21, Option.bind_some, b2i_t, b2i_f, i10, ↓reduceIte, cond_true, cond_false, kb0, kb1, kb2, s92_1, s92_0, s93_1, s93_0, s113_0, s113_1, s113_2, s113_3, aBit_b, aI01, xi0, xi1]
    · have T1 := s117 (x := wJ x 187 0 (10 * x.1 155 s + 4 : Int32).toInt64) (S := S) a1 e2 k1
      rw [h2] at T1
      have z : ∀ a, 139 ≤ a → (wI (wJ x 187 0 (10 * x.1 155 s + 4 : Int32).toInt64) 138 57 0).1 a = x.1 a := fun a ha => by rw [wI_ne (by omega), wJ_I]
      simp only [gm170_64, gm170_14, gm170, T1, i5, xs, z 155 (by decide), z 156 (by decide), z 157 (by decide), if_neg g0, if_neg g1, n10, n20, n21, Option.bind_some, b2i_t, b2i_f, i10, ↓reduceIte, cond_true, cond_false, kb0, kb1, kb2, s92_1, s92_0, s93_1, s93_0, s113_0, s113_1, s113_2, s113_3, aBit_b, aI01, xi0, xi1]
