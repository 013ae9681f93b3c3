/-! Asking about what is planned -/
theorem s39_12 {C : Nat} {g : Nat → Nat} {x : Hs} (hC : C ≤ 6480) (hg : ∀ j, j < C → 0 < g j ∧ g j < 6480 ∧ x.1 134 (g j) = zI (g (j + 1)) ∧ x.1 135 (g j) = x.1 182 (C - 1 - j)) {j : Nat} (hj : j < C) :
    ∀ d t n, t + d = C - 1 - j → d < n → gm39_12 n (zI j) (zI (g t)) (zI (C - 1 - t)) x = some (x.1 182 j) := by
  intro d
  induction d with
  | zero =>
    intro t n ht hn
    obtain ⟨n, rfl⟩ : ∃ m, n = m + 1 := ⟨n - 1, by omega⟩
    obtain ⟨g1, g2, g3, g4⟩ := hg t (by omega)
    unfold gm39_12 gm39_34
    have q : ¬ zI (g t) ≤ 0 := by rw [show (0 : Int32) = zI 0 from rfl, zI_le (by omega) (by omega)]; omega
    rw [if_pos (by rw [zI_le (by omega) (by omega)]; omega), if_neg q, aIn_t g2 (by omega), cond_true, xi_zI (by omega), g4, show C - 1 - t = j by omega]
  | succ d ih =>
    intro t n ht hn
    obtain ⟨n, rfl⟩ : ∃ m, n = m + 1 := ⟨n - 1, by omega⟩
    obtain ⟨g1, g2, g3, g4⟩ := hg t (by omega)
    have q : ¬ zI (g t) ≤ 0 := by rw [show (0 : Int32) = zI 0 from rfl, zI_le (by omega) (by omega)]; omega
    have q2 : ¬ zI (C - 1 - t) ≤ zI j := by rw [zI_le (by omega) (by omega)]; omega
    have q3 : zI (C - 1 - t) + (-1) = zI (C - 1 - (t + 1)) := by
      rw [i_eq, i_add] <;> rw [zI_int (by omega), m1_int]
      · rw [zI_int (by omega)]; omega
      · omega
      · omega
    have st : gm39_12 (n + 1) (zI j) (zI (g t)) (zI (C - 1 - t)) x = gm39_12 n (zI j) (zI (g (t + 1))) (zI (C - 1 - (t + 1))) x := by
      rw [gm39_12.eq_2, if_neg q2, if_neg q, aIn_t g2 (by omega), cond_true, xi_zI (by omega), g3, q3]
    rw [st]
    exact ih (t + 1) n (by omega) (by omega)
theorem op_planned {c : Nat} {x : Hs} (h : Inv c x) (a1 : Int32) : OpOK c x (gm213 a1 x) (gm178 a1) o64 := by
  have h0 := h
  obtain ⟨S, B, Z, F, U, P, I, now, hN, hC, hR, hZ, hB, hF, hD, hP⟩ := h
  obtain ⟨hq, h137, C, c1, c2, c3, g, c4, c5⟩ := id hP
  have m1 : ∀ y : Hs, y.1 138 51 = x.1 138 51 → gm114 a1 0 (y.1 138 51 - 1) y = some (b2i (aIn a1 C)) := by
    intro y hy
    rw [hy, s114]
    rcases c3 with c3 | ⟨c3, c6⟩
    · rw [c3, win_in a1 (by omega)]
    · rw [c3, c6]
      have e1 : win a1 0 (-1 - 1) = false := by
        rw [← Bool.not_eq_true, win_iff]
        rw [show (-1 - 1 : Int32).toInt = -2 from rfl, show (0 : Int32).toInt = 0 from rfl]
        omega
      have e2 : aIn a1 0 = false := by
        rw [← Bool.not_eq_true, aIn_iff]
        omega
      rw [e1, e2]
  cases h1 : aIn a1 C with
  | false =>
    have u1 := s91_f x h1 (by omega : C < 2147483648)
    have m2 := m1 x rfl
    rw [h1] at m2
    refine OpOK.no h0 (k := 1) (b := 0) (by decide) ?_ ?_
    · simp only [gm213, gm90, c2, u1, n10, n20, n21, Option.bind_some, b2i_t, b2i_f, i10, ↓reduceIte, cond_true, cond_false, kb0, kb1, kb2]
    · simp only [gm178, gm178_20, m2, n10, n20, n21, Option.bind_some, b2i_t, b2i_f, i10, ↓reduceIte, s113_1]
  | true =>
  have u1 := s91_t x h1 (by omega : C < 2147483648)
  obtain ⟨j, hj, rfl⟩ := aIn_ex h1
  have e0 : gm39 (zI j) x = some (x.1 182 j) := by
    have e1 : zI C - 1 = zI (C - 1 - 0) := zI_sub (a := C) (b := 1) (by omega)
    unfold gm39
    rw [c2, c4 (by omega), e1]
    exact s39_12 c1 c5 hj (C - 1 - j) 0 FU (by omega) (by unfold FU; omega)
  refine OpOK.ask h0 (b := x.1 182 j) (x.1 182 j).toInt64 ?_ ?_ rfl
  · simp only [gm213, gm90, c2, u1, e0, n10, n20, n21, Option.bind_some, b2i_t, b2i_f, i10, ↓reduceIte, cond_true, cond_false, kb0, kb1, kb2, aI01, xi0]
  · have m2 := m1 (wJ x 187 0 (x.1 182 j).toInt64) rfl
    rw [h1, wJ_I] at m2
    have i8 : aIn (zI j) 8192 = true := aIn_t (by omega) (by omega)
    simp only [gm178, gm178_20, m2, i8, xi_zI (show j < 2147483648 by omega), n10, n20, n21, Option.bind_some, b2i_t, b2i_f, i10, ↓reduceIte, s113_0, cond_true, wI_ne (show ¬ 182 = 138 by decide), wJ_I]
