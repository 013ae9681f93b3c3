/-! Stretches by rules -/
theorem aGo_mono {K K' : Nat} (hK : K ≤ K') : ∀ (n : Nat) {y : Nat} {u : Nat × Nat} {f : aFr} {h : aHp} {q : aRes}, aGo K n y u f h = some q → aGo K' n y u f h = some q
  | 0, y, u, f, h, q, hg => hg
  | n + 1, y, u, f, h, q, hg => by
    unfold aGo at hg ⊢
    cases hc : cd y f.1 with
    | none => rw [hc] at hg; cases hg
    | some e =>
      rw [hc] at hg
      dsimp only at hg ⊢
      cases h1 : aIsEnd e with
      | true => rw [h1] at hg; cases hg
      | false =>
        rw [h1] at hg
        cases h2 : aIsThrow e with
        | true => rw [h2] at hg; cases hg
        | false =>
          rw [h2] at hg
          cases h3 : aIsCall e with
          | false =>
            rw [h3] at hg
            dsimp only [cond_false, cond_true] at hg ⊢
            cases hs : aStep y e u f h with
            | none => rw [hs] at hg; cases hg
            | some q =>
              rw [hs] at hg
              exact aGo_mono hK n hg
          | true =>
            rw [h3] at hg
            dsimp only [cond_false, cond_true] at hg ⊢
            cases ha : aArgs e.2.2.2.2.1 f.2.2 with
            | none => rw [ha] at hg; cases hg
            | some w =>
              obtain ⟨as, r0⟩ := w
              rw [ha] at hg
              dsimp only at hg ⊢
              cases hk : aCallOK y e u as r0 h with
              | false => rw [hk] at hg; cases hg
              | true =>
                rw [hk] at hg
                dsimp only [cond_false, cond_true] at hg ⊢
                cases hx : aEx K e.2.2.2.1 (0, 0) (0, aPad as (mL e.2.2.2.1), []) h with
                | none => rw [hx] at hg; cases hg
                | some w =>
                  obtain ⟨w1, w2⟩ := w
                  rw [hx] at hg
                  rw [aEx_le hK hx]
                  cases w1 with
                  | inl v => exact aGo_mono hK n hg
                  | inr x => cases hg
def GoP (y : Nat) (u : Nat × Nat) (f : aFr) (h : aHp) (q : aRes) : Prop := ∃ K n, aGo K n y u f h = some q
theorem go_nil {y : Nat} {u : Nat × Nat} {f : aFr} {h : aHp} : GoP y u f h (f, u, h) := ⟨0, 0, rfl⟩
theorem go_1 {y : Nat} {u : Nat × Nat} {f : aFr} {h : aHp} {q : aRes} {e : aEn} {w : aRes} (hc : cd y f.1 = some e) (hp : aPl e = true) (hs : aStep y e u f h = some w) (k : GoP y w.2.1 w.1 w.2.2 q) : GoP y u f h q := by
  obtain ⟨K, n, hn⟩ := k
  refine ⟨K, n + 1, ?_⟩
  unfold aPl at hp
  simp only [Bool.and_eq_true, Bool.not_eq_true'] at hp
  unfold aGo
  rw [hc]
  dsimp only
  rw [hp.1, hp.2.1, hp.2.2, hs]
  exact hn
theorem go_run : ∀ (n : Nat) {y : Nat} {u u' : Nat × Nat} {f f' : aFr} {h h' : aHp} {q : aRes}, aRun n y u f h = some (f', u', h') → GoP y u' f' h' q → GoP y u f h q
  | 0, y, u, u', f, f', h, h', q, hr, k => by
    cases hr
    exact k
  | n + 1, y, u, u', f, f', h, h', q, hr, k => by
    unfold aRun at hr
    cases hc : cd y f.1 with
    | none => rw [hc] at hr; cases hr
    | some e =>
      rw [hc] at hr
      dsimp only at hr
      cases hp : aPl e with
      | false => rw [hp] at hr; cases hr
      | true =>
        rw [hp, cond_true] at hr
        cases hs : aStep y e u f h with
        | none => rw [hs] at hr; cases hr
        | some w =>
          rw [hs] at hr
          exact go_1 hc hp hs (go_run n hr k)
theorem go_call {y : Nat} {u : Nat × Nat} {f : aFr} {h h1 : aHp} {q : aRes} {e : aEn} {as t : List Value} {v : Option Value} (hc : cd y f.1 = some e) (hp : aCl e = true) (ha : aArgs e.2.2.2.2.1 f.2.2 = some (as, t)) (hk : aCallOK y e u as t h = true) (hz : Ev e.2.2.2.1 (0, 0) (0, aPad as (mL e.2.2.2.1), []) h (.inl v, h1)) (k : GoP y (u.1 + mcT e.2.2.2.1, u.2 + msT e.2.2.2.1) (f.1 + 3, f.2.1, v.toList ++ t) h1 q) : GoP y u f h q := by
  obtain ⟨k1, h1⟩ := hz
  obtain ⟨K, n, hn⟩ := k
  refine ⟨k1 + K, n + 1, ?_⟩
  unfold aCl at hp
  simp only [Bool.and_eq_true, Bool.not_eq_true'] at hp
  unfold aGo
  rw [hc]
  dsimp only
  rw [hp.1, hp.2.1, hp.2.2, ha]
  dsimp only [cond_true, cond_false]
  rw [hk, cond_true, aEx_le (Nat.le_add_right k1 K) h1]
  exact aGo_mono (Nat.le_add_left K k1) n hn
