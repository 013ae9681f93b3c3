/-! Going back -/
theorem R141_30_1 (a1 : Int32) (x : Hs) : gm141_30 a1 1 x = some (0, wI x 138 57 1) := by
  unfold gm141_30
  rw [s113_1]
  rfl
theorem R141_30_2 (a1 : Int32) (x : Hs) : gm141_30 a1 2 x = some (0, wI x 138 57 2) := by
  unfold gm141_30
  rw [s113_2]
  rfl
theorem R141_30_3 (a1 : Int32) (x : Hs) : gm141_30 a1 3 x = some (0, wI x 138 57 3) := by
  unfold gm141_30
  rw [s113_3]
  rfl
theorem MB.sb {x h y : Hs} {s L R : Nat} (m : MB x h y s L R) : SB 2 h y := by
  obtain ⟨d1, d2, d3, d4⟩ := m
  refine ⟨fun a h1 h2 h3 => ⟨d3 a (fun e => h2 (by rw [e]; rfl)) (fun e => h2 (by rw [e]; rfl)), by rw [d4]⟩, fun j _ _ => by rw [d3 138 (by decide) (by decide)]⟩
theorem s141_48 {s : Nat} (hs5 : s < 5) (b : Int32) : ∀ d n i h, i + d = 4 → d < n → ∃ y, gm141_48 n (zI s) b (zI i) h = gm141_97 (zI s) b y ∧ (∀ k, y.1 148 k = if k % 5 = s ∧ i ≤ k / 5 ∧ k / 5 < 4 ∧ h.1 148 k = b then -1 else h.1 148 k) ∧ (∀ a, ¬ a = 148 → y.1 a = h.1 a) ∧ y.2 = h.2
  | _, 0, _, _, _, hn => by omega
  | 0, n + 1, i, h, e, _ => by
    refine ⟨h, ?_, fun k => ?_, fun a _ => rfl, rfl⟩
    · rw [gm141_48, if_pos ((ge_lit (v := 4) (N := 4) rfl (by omega) (by omega)).mpr (by omega))]
    · rw [if_neg (by omega)]
  | d + 1, n + 1, i, h, e, hn => by
    have j20 : aIn (zI (5 * i + s)) 20 = true := aIn_t (by omega) (by omega)
    have xk : xi (zI (5 * i + s)) = 5 * i + s := xi_zI (by omega)
    have ix : 5 * zI i + zI s = zI (5 * i + s) := by rw [show (5 : Int32) = zI 5 from rfl, zI_mul, zI_add]
    have stp : gm141_48 (n + 1) (zI s) b (zI i) h = gm141_48 n (zI s) b (zI (i + 1)) (wI h 148 (5 * i + s) (if h.1 148 (5 * i + s) = b then -1 else h.1 148 (5 * i + s))) := by
      rw [gm141_48, if_neg (fun w => by have := (ge_lit (v := 4) (N := 4) rfl (by omega) (by omega)).mp w; omega)]
      unfold gm141_90
      simp only [ix, j20, cond_true, xk, zI_succ]
      by_cases hb : h.1 148 (5 * i + s) = b
      · rw [if_pos hb, if_pos hb]
      · rw [if_neg hb, if_neg hb]
    have c148 : ∀ k, (wI h 148 (5 * i + s) (if h.1 148 (5 * i + s) = b then -1 else h.1 148 (5 * i + s))).1 148 k = if k = 5 * i + s ∧ h.1 148 k = b then -1 else h.1 148 k := by
      intro k
      rw [wI_at]
      by_cases hk : k = 5 * i + s
      · rw [if_pos hk, hk]
        by_cases hb : h.1 148 (5 * i + s) = b
        · rw [if_pos hb, if_pos ⟨rfl, hb⟩]
        · rw [if_neg hb, if_neg (fun w => hb w.2)]
      · rw [if_neg hk, if_neg (fun w => hk w.1)]
    have far : ∀ a, ¬ a = 148 → (wI h 148 (5 * i + s) (if h.1 148 (5 * i + s) = b then -1 else h.1 148 (5 * i + s))).1 a = h.1 a := fun a m => wI_ne m
    have cz : (wI h 148 (5 * i + s) (if h.1 148 (5 * i + s) = b then -1 else h.1 148 (5 * i + s))).2 = h.2 := rfl
    generalize wI h 148 (5 * i + s) (if h.1 148 (5 * i + s) = b then -1 else h.1 148 (5 * i + s)) = w at stp c148 far cz
    obtain ⟨y, y1, y2, y3, y4⟩ := s141_48 hs5 b d n (i + 1) w (by omega) (by omega)
    refine ⟨y, stp.trans y1, fun k => ?_, fun a ha => (y3 a ha).trans (far a ha), y4.trans cz⟩
    rw [y2, c148]
    by_cases h1 : k = 5 * i + s ∧ h.1 148 k = b
    · rw [if_pos h1]
      have h2 : k % 5 = s ∧ i ≤ k / 5 ∧ k / 5 < 4 ∧ h.1 148 k = b := ⟨by omega, by omega, by omega, h1.2⟩
      rw [if_pos h2]
      split <;> rfl
    · rw [if_neg h1]
      by_cases h2 : k % 5 = s ∧ i ≤ k / 5 ∧ k / 5 < 4 ∧ h.1 148 k = b
      · have h3 : ¬ k = 5 * i + s := fun w => h1 ⟨w, h2.2.2.2⟩
        rw [if_pos h2, if_pos ⟨h2.1, by omega, h2.2.2.1, h2.2.2.2⟩]
      · rw [if_neg h2, if_neg (fun w => h2 ⟨w.1, by omega, w.2.2.1, w.2.2.2⟩)]
theorem op_back {c : Nat} {x : Hs} (h : Inv c x) (a1 : Int32) : OpOK c x (gm191 a1 x) (gm141 a1) o64 := by
  have h0 := h
  obtain ⟨S, B, Z, F, U, P, I, now, hN, hC, hR, hZ, hB, hF, hD, hP⟩ := h
  obtain ⟨⟨k1, k2⟩, ⟨e1, e2, e3, e4⟩, -⟩ := id hC
  obtain ⟨r1, r2⟩ := id hR
  have T0 := s117 (x := x) a1 e2 k1
  cases p1 : aIn a1 S with
  | false =>
    refine OpOK.no h0 (k := 1) (b := 0) (by decide) ?_ ?_
    · simp only [gm191, gm68_103, gm68_121, gm68_109, gm68_25, gm68, s94_f hC p1, T0, p1, n10, n20, n21, Option.bind_some, b2i_t, b2i_f, i10, ↓reduceIte, cond_true, cond_false, kb0, kb1, kb2, s92_1, s92_0, s93_1, s93_0, s113_0, s113_1, s113_2, s113_3, aBit_b, aI01, xi0, xi1]
    · simp only [gm141, R141_30_1, R141_30_2, R141_30_3, s94_f hC p1, T0, p1, n10, n20, n21, Option.bind_some, b2i_t, b2i_f, i10, ↓reduceIte, cond_true, cond_false, kb0, kb1, kb2, s92_1, s92_0, s93_1, s93_0, s113_0, s113_1, s113_2, s113_3, aBit_b, aI01, xi0, xi1]
  | true =>
  rw [p1] at T0
  have F1 := s94_t hC p1
  obtain ⟨s, hs, es⟩ := aIn_ex p1
  subst es
  have i5 := aIn_up p1 k1
  have j5 := i5
  have xs : xi (zI s) = s := xi_zI (by omega)
  obtain ⟨b1, b2, b3, b4, b5⟩ := r2 s (by omega)
  by_cases g0 : x.1 155 s = -1
  · refine OpOK.no h0 (k := 2) (b := 0) (by decide) ?_ ?_
    · simp only [gm191, gm68_103, gm68_121, gm68_109, gm68_25, gm68, F1, T0, i5, xs, b2, if_pos g0, n10, n20, n21, Option.bind_some, b2i_t, b2i_f, i10, ↓reduceIte, cond_true, cond_false, kb0, kb1, kb2, s92_1, s92_0, s93_1, s93_0, s113_0, s113_1, s113_2, s113_3, aBit_b, aI01, xi0, xi1]
    · simp only [gm141, R141_30_1, R141_30_2, R141_30_3, F1, T0, i5, xs, b2, if_pos g0, n10, n20, n21, Option.bind_some, b2i_t, b2i_f, i10, ↓reduceIte, cond_true, cond_false, kb0, kb1, kb2, s92_1, s92_0, s93_1, s93_0, s113_0, s113_1, s113_2, s113_3, aBit_b, aI01, xi0, xi1]
  obtain ⟨b6, b7, b8, b9, b10⟩ := b5 g0
  obtain ⟨R, hRR, er⟩ := aIn_ex b7
  have xR : xi (zI R) = R := xi_zI (by omega)
  have j4 : aIn (zI R) 4 = true := aIn_t (by omega) (by omega)
  rw [er] at b6
  have ok : ∀ t, t < 4 → ∀ k, k < 8 → own (60 + 8 * t + k) = 2 := by
    intro t ht k hk
    unfold own; rw [if_neg (by omega), if_neg (by omega), if_neg (by omega), if_pos (by omega)]
  have o9 : own (93 + s) = 2 := by unfold own; rw [if_neg (by omega), if_neg (by omega), if_neg (by omega), if_pos (by omega)]
  -- every canary of the service, but one, is none
  have can : ∀ t, t < 4 → ¬ t = R → x.1 148 (5 * t + s) = -1 := by
    intro t ht htR
    rcases b9 t ht with w | ⟨_, w, _⟩
    · exact w
    · rw [er, zI_inj (by omega) (by omega)] at w
      omega
  -- the class's start
  have eh : SB 2 x (wI (wI x (60 + 8 * R + 2) s (-1)) (93 + s) 3 0) := by
    refine SB.I ?_ (by omega) (Or.inl o9)
    refine SB.I ?_ (by omega) (Or.inl (ok R hRR 2 (by decide)))
    exact SB.rf _ _
  have hfar : ∀ a, ¬ a = 60 + 8 * R + 2 → ¬ a = 93 + s → (wI (wI x (60 + 8 * R + 2) s (-1)) (93 + s) 3 0).1 a = x.1 a := fun a m1 m2 => by rw [wI_ne m2, wI_ne m1]
  have hcan : ∀ u, (wI (wI x (60 + 8 * R + 2) s (-1)) (93 + s) 3 0).1 (60 + 8 * R + 2) u = if u = s then -1 else x.1 (60 + 8 * R + 2) u := fun u => by rw [wI_ne (by omega), wI_at]
  have h9 : ∀ k, (wI (wI x (60 + 8 * R + 2) s (-1)) (93 + s) 3 0).1 (93 + s) k = if k = 3 then 0 else x.1 (93 + s) k := fun k => by rw [wI_at, wI_ne (by omega)]
  have hz2 : (wI (wI x (60 + 8 * R + 2) s (-1)) (93 + s) 3 0).2 = x.2 := rfl
  have hst : gm68 (zI s) x = gm68_55 FU (zI s) (93 + s) (zI R - 1) (wI (wI x (60 + 8 * R + 2) s (-1)) (93 + s) 3 0) := by
    have w1 : (wI (wI x (60 + 8 * R + 2) s (-1)) (93 + s) 3 0).1 (93 + s) 1 = zI R := by rw [h9, if_neg (by decide)]; exact b6
    simp only [gm68, gm68_25, F1, i5, xs, b2, if_neg g0, b6, j4, xR, w1, n10, n20, n21, Option.bind_some, b2i_t, b2i_f, i10, ↓reduceIte, cond_true, cond_false, kb0, kb1, kb2, s92_1, s92_0, s93_1, s93_0, s113_0, s113_1, s113_2, s113_3, aBit_b, aI01, xi0, xi1]
  generalize wI (wI x (60 + 8 * R + 2) s (-1)) (93 + s) 3 0 = h at eh hfar hcan h9 hz2 hst
  obtain ⟨y, y1, ⟨d1, d2, d3, d4, d5, d6, d7⟩, ey⟩ := s68_55 hC hR (show s < 5 by omega) R FU h (by omega) (by unfold FU; omega) eh (fun a m1 m2 => hfar a (by omega) (by omega)) (fun t ht u hu => by
    rw [hfar (60 + 8 * t + 1) (by omega) (by omega), hfar (60 + 8 * t + 2) (by omega) (by omega), hfar (60 + 8 * t + 3) (by omega) (by omega)]
    exact (r1 t (by omega) u hu).1) (by rw [h9, if_pos rfl])
  have bl := bck_le x S s R
  rw [y1] at hst
  clear y1
  rw [h9, if_neg (show ¬ (1 = 3) by decide), b6] at d4
  rw [h9, if_pos (show 3 = 3 from rfl)] at d5
  have d4 : y.1 (93 + s) 1 = zI (bck x S s R) := by
    rw [d4]
    by_cases hL : bck x S s R < R
    · rw [if_pos hL]
    · rw [if_neg hL, show bck x S s R = R by omega]
  -- the class's end
  have hA : ∃ X1, gm191 (zI s) x = some ((0 : Int32), wJ X1 187 0 (zI (bck x S s R)).toInt64) ∧ (∀ a, ¬ a = 93 + s → X1.1 a = y.1 a) ∧ (X1.1 (93 + s) 0 = if bck x S s R = 0 then -1 else x.1 155 s) ∧ (∀ k, ¬ k = 0 → X1.1 (93 + s) k = y.1 (93 + s) k) ∧ X1.2 = y.2 ∧ SB 2 x X1 := by
    by_cases hL : bck x S s R = 0
    · rw [if_pos hL] at d5
      refine ⟨wI y (93 + s) 0 (-1), ?_, fun a m => wI_ne m, ?_, fun k m => wI_nj m, rfl, ey.I (by omega) (Or.inl o9)⟩
      · have w1 : (wI y (93 + s) 0 (-1)).1 (93 + s) 1 = zI (bck x S s R) := by rw [wI_nj (by decide)]; exact d4
        simp only [gm191, hst, gm68_109, gm68_121, if_pos d5, w1, n10, n20, n21, Option.bind_some, b2i_t, b2i_f, i10, ↓reduceIte, cond_true, cond_false, kb0, kb1, kb2, s92_1, s92_0, s93_1, s93_0, s113_0, s113_1, s113_2, s113_3, aBit_b, aI01, xi0, xi1]
      · rw [wI_j, if_pos hL]
    · rw [if_neg hL] at d5
      have d5' : ¬ y.1 (93 + s) 3 = 0 := by rw [d5]; decide
      refine ⟨y, ?_, fun a _ => rfl, ?_, fun k _ => rfl, rfl, ey⟩
      · simp only [gm191, hst, gm68_109, gm68_121, if_neg d5', d4, n10, n20, n21, Option.bind_some, b2i_t, b2i_f, i10, ↓reduceIte, cond_true, cond_false, kb0, kb1, kb2, s92_1, s92_0, s93_1, s93_0, s113_0, s113_1, s113_2, s113_3, aBit_b, aI01, xi0, xi1]
      · rw [if_neg hL, d6 0 (by decide) (by decide), h9, if_neg (by decide)]
        exact b2
  obtain ⟨X1, hA, x1, x2, x3, x4, eX⟩ := hA
  -- the reference
  have cM : ∀ a, 139 ≤ a → a ≤ 186 → X1.1 a = x.1 a := fun a m1 m2 => by
    rw [x1 a (by omega), d3 a (fun t ht => by omega) (by omega)]
    exact hfar a (by omega) (by omega)
  have c138 : X1.1 138 = x.1 138 := by
    rw [x1 138 (by omega), d3 138 (fun t ht => by omega) (by omega)]
    exact hfar 138 (by omega) (by omega)
  have c00 : X1.1 0 = x.1 0 := by
    rw [x1 0 (by omega), d3 0 (fun t ht => by omega) (by omega)]
    exact hfar 0 (by omega) (by omega)
  have T1 := s117 (x := wJ X1 187 0 (zI (bck x S s R)).toInt64) (S := S) (zI s) (by rw [wJ_I, c138]; exact e2) k1
  rw [p1] at T1
  have st : gm141 (zI s) (wJ X1 187 0 (zI (bck x S s R)).toInt64) = gm141_30 (zI s) 0 (wJ X1 187 0 (zI (bck x S s R)).toInt64) := by
    simp only [gm141, T1, i5, xs, wJ_I, cM 155 (by decide) (by decide), if_neg g0, n10, n20, n21, Option.bind_some, b2i_t, b2i_f, i10, ↓reduceIte, cond_true, cond_false, kb0, kb1, kb2, s92_1, s92_0, s93_1, s93_0, s113_0, s113_1, s113_2, s113_3, aBit_b, aI01, xi0, xi1]
  have z155 : (wI (wJ X1 187 0 (zI (bck x S s R)).toInt64) 138 57 0).1 155 = x.1 155 := by rw [wI_ne (by decide), wJ_I, cM 155 (by decide) (by decide)]
  obtain ⟨w, w1, w2, w3, w4⟩ := s141_48 (show s < 5 by omega) (x.1 155 s) 4 FU 0 (wI (wJ X1 187 0 (zI (bck x S s R)).toInt64) 138 57 0) (by omega) (by unfold FU; omega)
  have wa : ∀ a, 139 ≤ a → a ≤ 186 → ¬ a = 148 → w.1 a = x.1 a := fun a m1 m2 m3 => by rw [w3 a m3, wI_ne (by omega), wJ_I, cM a m1 m2]
  have w138 : ∀ j, ¬ j = 57 → w.1 138 j = x.1 138 j := fun j hj => by rw [w3 138 (by decide), wI_nj hj, wJ_I, c138]
  have w148 : ∀ k, k < 20 → w.1 148 k = if k % 5 = s then -1 else x.1 148 k := by
    intro k hk
    rw [w2, wI_ne (by decide), wJ_I, cM 148 (by decide) (by decide)]
    by_cases hks : k % 5 = s
    · rw [if_pos hks]
      by_cases hb : x.1 148 k = x.1 155 s
      · rw [if_pos ⟨hks, by omega, by omega, hb⟩]
      · rw [if_neg (fun w => hb w.2.2.2)]
        have := b9 (k / 5) (by omega)
        rw [show 5 * (k / 5) + s = k by omega] at this
        rcases this with q | ⟨_, _, q⟩
        · exact q
        · exact absurd q hb
    · rw [if_neg hks, if_neg (fun w => hks w.1)]
  have hM2 : MC S B w := hC.mc.of (w138 1 (by decide)) (w138 3 (by decide)) (wa 140 (by decide) (by decide) (by decide)) (wa 145 (by decide) (by decide) (by decide))
  obtain ⟨v, v1, v2⟩ := s141_108 hC hR (show s < 5 by omega) (x.1 155 s) R FU w (by omega) (by unfold FU; omega) hM2 (fun a m1 m2 => wa a m1 (by omega) (by omega)) (fun t ht u hu => by
    rw [wa 147 (by decide) (by decide) (by decide), wa 149 (by decide) (by decide) (by decide), w148 _ (by omega)]
    refine ⟨rfl, ?_, rfl⟩
    by_cases hus : u = s
    · rw [if_pos (by omega), hus, can t (by omega) (by omega)]
    · rw [if_neg (by omega)])
  have ev := v2.sb
  obtain ⟨m1, m2, m3, m4⟩ := v2
  -- the reference's end
  have hle : (zI (bck x S s R) ≤ 0) ↔ bck x S s R = 0 := by
    rw [show (0 : Int32) = zI 0 from rfl, zI_le (by omega) (by omega)]
    omega
  have hM : ∃ Y2, gm141 (zI s) (wJ X1 187 0 (zI (bck x S s R)).toInt64) = some (zI (bck x S s R), Y2) ∧ Y2 = wI (wI (wI v 156 s (zI (bck x S s R))) 157 s (if bck x S s R = 0 then 0 else 1)) 155 s (if bck x S s R = 0 then -1 else x.1 155 s) := by
    refine ⟨_, ?_, rfl⟩
    rw [st]
    unfold gm141_30
    rw [s113_0, Option.bind_some]
    have q156 : w.1 156 s = zI R := by rw [wa 156 (by decide) (by decide) (by decide)]; exact er
    have q0 : gm141_48 FU (zI s) (x.1 155 s) 0 (wI (wJ X1 187 0 (zI (bck x S s R)).toInt64) 138 57 0) = gm141_97 (zI s) (x.1 155 s) w := w1
    simp only [↓reduceIte, j5, cond_true, xs, z155, q0, gm141_97, q156, v1, gm141_215, gm141_238, gm141_254]
    by_cases hL : bck x S s R = 0
    · simp only [if_pos (hle.mpr hL), if_pos hL, show aBit 0 = true from rfl, cond_true]
    · simp only [if_neg (fun q => hL (hle.mp q)), if_neg hL, show aBit 1 = true from rfl, cond_true]
  obtain ⟨Y2, hM, hY2⟩ := hM
  have e : SB 2 x Y2 := by
    rw [hY2]
    refine SB.I ?_ (by decide) (Or.inl rfl)
    refine SB.I ?_ (by decide) (Or.inl rfl)
    refine SB.I ?_ (by decide) (Or.inl rfl)
    refine SB.to ?_ ev
    have ew : SB 2 (wI (wJ X1 187 0 (zI (bck x S s R)).toInt64) 138 57 0) w := ⟨fun a n1 n2 n3 => ⟨w3 a (fun q => n2 (by rw [q]; rfl)), by rw [w4]⟩, fun j _ _ => by rw [w3 138 (by decide)]⟩
    refine SB.to ?_ ew
    refine SB.M ?_ (Or.inr rfl)
    refine SB.J ?_ (Or.inr rfl)
    exact eX
  have yA : ∀ a, ¬ a = 155 → ¬ a = 156 → ¬ a = 157 → Y2.1 a = v.1 a := fun a n1 n2 n3 => by rw [hY2, wI_ne n1, wI_ne n3, wI_ne n2]
  have vA : ∀ a, ¬ a = 147 → ¬ a = 148 → ¬ a = 149 → ¬ a = 138 → v.1 a = X1.1 a := fun a n1 n2 n3 n4 => by rw [m3 a n1 n3, w3 a n2, wI_ne n4, wJ_I]
  have y155 : ∀ u, Y2.1 155 u = if u = s then (if bck x S s R = 0 then -1 else x.1 155 s) else x.1 155 u := fun u => by
    rw [hY2, wI_at, wI_ne (by decide), wI_ne (by decide), vA 155 (by decide) (by decide) (by decide) (by decide), cM 155 (by decide) (by decide)]
  have y156 : ∀ u, Y2.1 156 u = if u = s then zI (bck x S s R) else x.1 156 u := fun u => by
    rw [hY2, wI_ne (by decide), wI_ne (by decide), wI_at, vA 156 (by decide) (by decide) (by decide) (by decide), cM 156 (by decide) (by decide)]
  have y157 : ∀ u, Y2.1 157 u = if u = s then (if bck x S s R = 0 then 0 else 1) else x.1 157 u := fun u => by
    rw [hY2, wI_ne (by decide), wI_at, wI_ne (by decide), vA 157 (by decide) (by decide) (by decide) (by decide), cM 157 (by decide) (by decide)]
  have y147 : ∀ k, Y2.1 147 k = if k % 5 = s ∧ bck x S s R ≤ k / 5 ∧ k / 5 < R then x.1 149 k else x.1 147 k := fun k => by
    rw [yA 147 (by decide) (by decide) (by decide), m1, wa 147 (by decide) (by decide) (by decide)]
  have y149 : ∀ k, Y2.1 149 k = if k % 5 = s ∧ bck x S s R ≤ k / 5 ∧ k / 5 < R then -1 else x.1 149 k := fun k => by
    rw [yA 149 (by decide) (by decide) (by decide), m2, wa 149 (by decide) (by decide) (by decide)]
  have y148 : ∀ k, k < 20 → Y2.1 148 k = if k % 5 = s then -1 else x.1 148 k := fun k hk => by
    rw [yA 148 (by decide) (by decide) (by decide), m3 148 (by decide) (by decide), w148 k hk]
  have yO : ∀ a, 139 ≤ a → a ≤ 186 → ¬ a = 147 → ¬ a = 148 → ¬ a = 149 → ¬ a = 155 → ¬ a = 156 → ¬ a = 157 → Y2.1 a = x.1 a := fun a n1 n2 n3 n4 n5 n6 n7 n8 => by
    rw [yA a n6 n7 n8, vA a n3 n4 n5 (by omega), cM a n1 n2]
  have yC : ∀ a, a < 138 → ¬ a = 93 + s → Y2.1 a = y.1 a := fun a n1 n2 => by
    rw [yA a (by omega) (by omega) (by omega), vA a (by omega) (by omega) (by omega) (by omega), x1 a n2]
  have y9 : Y2.1 (93 + s) = X1.1 (93 + s) := by rw [yA _ (by omega) (by omega) (by omega), vA _ (by omega) (by omega) (by omega) (by omega)]
  have yJ : ∀ a, ¬ a = 187 → Y2.2.1 a = x.2.1 a := fun a ha => by
    have q1 : Y2.2 = v.2 := by rw [hY2]; rfl
    rw [q1, m4, w4]
    show (wJ X1 187 0 (zI (bck x S s R)).toInt64).2.1 a = _
    rw [wJ_ne ha, x4, d7, hz2]
  refine ⟨0, _, _, _, hA, hM, ?_, fun _ => ?_, ?_, e.c 0 (by decide) (by decide) (by decide), ?_⟩
  · rw [yA 138 (by decide) (by decide) (by decide), m3 138 (by decide) (by decide), w3 138 (by decide), wI_j]
  · have q1 : Y2.2 = v.2 := by rw [hY2]; rfl
    rw [q1, m4, w4]
    show (wJ X1 187 0 (zI (bck x S s R)).toInt64).2.1 187 0 = _
    rw [wJ_at, if_pos rfl]
    rfl
  · rw [wJ_I, c00]
  · refine ⟨S, B, Z, F, U, P, I, now, hN.fr e (by decide), hC.fr e (by decide), ?_, hZ.fr e (by decide), hB.fr e (by decide), hF.fr e (by decide), hD.fr e (by decide), hP.fr e (by decide)⟩
    rw [yO 140 (by decide) (by decide) (by decide) (by decide) (by decide) (by decide) (by decide) (by decide)]
    have o150 := yO 150 (by decide) (by decide) (by decide) (by decide) (by decide) (by decide) (by decide) (by decide)
    have o151 := yO 151 (by decide) (by decide) (by decide) (by decide) (by decide) (by decide) (by decide) (by decide)
    have o152 := yO 152 (by decide) (by decide) (by decide) (by decide) (by decide) (by decide) (by decide) (by decide)
    have o153 := yO 153 (by decide) (by decide) (by decide) (by decide) (by decide) (by decide) (by decide) (by decide)
    have o154 := yO 154 (by decide) (by decide) (by decide) (by decide) (by decide) (by decide) (by decide) (by decide)
    refine ⟨fun t ht u hu => ?_, fun u hu => ?_⟩
    · obtain ⟨⟨f1, f2, f3⟩, a2, ⟨o1, o2, o3⟩, t1, t2, t3, t4⟩ := r1 t ht u hu
      rw [yC (60 + 8 * t + 1) (by omega) (by omega), yC (60 + 8 * t + 2) (by omega) (by omega), yC (60 + 8 * t + 3) (by omega) (by omega), d1 t u ht, d2 t u ht, d3 (60 + 8 * t + 2) (fun t2 ht2 => by omega) (by omega), yJ (60 + 8 * t + 4) (by omega), yJ (60 + 8 * t + 5) (by omega), yJ (60 + 8 * t + 6) (by omega), yJ (60 + 8 * t + 7) (by omega), o151, o152, o153, o154, y147, y149, y148 _ (by omega), hfar (60 + 8 * t + 1) (by omega) (by omega), hfar (60 + 8 * t + 3) (by omega) (by omega)]
      have hm : (5 * t + u) % 5 = u := by omega
      have hd : (5 * t + u) / 5 = t := by omega
      rw [hm, hd]
      have hcc : h.1 (60 + 8 * t + 2) u = if u = s then -1 else x.1 148 (5 * t + u) := by
        by_cases htR : t = R
        · subst htR
          rw [hcan]
          by_cases hus : u = s
          · rw [if_pos hus, if_pos hus]
          · rw [if_neg hus, if_neg hus, f2]
        · rw [hfar (60 + 8 * t + 2) (by omega) (by omega), f2]
          by_cases hus : u = s
          · rw [if_pos hus, hus, can t ht htR]
          · rw [if_neg hus]
      rw [hcc]
      refine ⟨⟨?_, rfl, ?_⟩, a2, ⟨?_, ?_, ?_⟩, t1.up (by omega), t2.up (by omega), t3.up (by omega), t4.up (by omega)⟩
      · by_cases q : u = s ∧ bck x S s R ≤ t ∧ t < R
        · rw [if_pos q, if_pos q, q.1]
        · rw [if_neg q, if_neg q, f1]
      · by_cases q : u = s ∧ bck x S s R ≤ t ∧ t < R
        · rw [if_pos q, if_pos q]
        · rw [if_neg q, if_neg q, f3]
      · by_cases q : u = s ∧ bck x S s R ≤ t ∧ t < R
        · rw [if_pos q]; exact o3
        · rw [if_neg q]; exact o1
      · by_cases q : u = s
        · rw [if_pos q]; exact Or.inl rfl
        · rw [if_neg q]; exact o2
      · by_cases q : u = s ∧ bck x S s R ≤ t ∧ t < R
        · rw [if_pos q]; exact Or.inl rfl
        · rw [if_neg q]; exact o3
    · obtain ⟨f1, f2, f3, f4, f5⟩ := r2 u hu
      rw [y155, y156, y157, o150]
      by_cases hus : u = s
      · subst hus
        have hs1 : ∀ (a b : Int32), (if u = u then a else b) = a := fun a b => if_pos rfl
        have all : ∀ t, t < 4 → Y2.1 148 (5 * t + u) = -1 := fun t ht => by rw [y148 _ (by omega), if_pos (by omega)]
        rw [y9, x2, x3 1 (by decide), x3 3 (by decide), x3 2 (by decide), d4, d5]
        by_cases hL : bck x S u R = 0
        · simp only [hs1, if_pos hL]
          exact ⟨Or.inl rfl, rfl, Or.inl rfl, fun _ => all, fun w => absurd rfl w⟩
        · simp only [hs1, if_neg hL]
          exact ⟨f1, rfl, Or.inr rfl, fun w => absurd w g0, fun _ => ⟨rfl, aIn_t (by omega) (by omega), rfl, fun t ht => Or.inl (all t ht), fun w => absurd (show (1 : Int32) = 0 from w) (by decide)⟩⟩
      · have hs1 : ∀ (a b : Int32), (if u = s then a else b) = b := fun a b => if_neg hus
        rw [yC (93 + u) (by omega) (by omega), d3 (93 + u) (fun t ht => by omega) (by omega), hfar (93 + u) (by omega) (by omega), hs1, hs1, hs1]
        have all : ∀ t, t < 4 → Y2.1 148 (5 * t + u) = x.1 148 (5 * t + u) := fun t ht => by rw [y148 _ (by omega), if_neg (by omega)]
        refine ⟨f1, f2, f3, fun w t ht => ?_, fun w => ⟨(f5 w).1, (f5 w).2.1, (f5 w).2.2.1, fun t ht => ?_, (f5 w).2.2.2.2⟩⟩
        · rw [all t ht]; exact f4 w t ht
        · rw [all t ht]; exact (f5 w).2.2.2.1 t ht
