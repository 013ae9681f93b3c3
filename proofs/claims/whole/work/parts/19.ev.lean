/-! Runs of the abstract machine, by rules -/
noncomputable def aBody (F : Nat → Nat × Nat → aFr → aHp → Option aOut) (y : Nat) (u : Nat × Nat) (f : aFr) (h : aHp) : Option aOut := match cd y f.1 with
    | none => none
    | some e => cond (aIsEnd e) (cond (Nat.ble u.1 (mcT y) && Nat.ble u.2 (msT y)) (aEnd y e f h) none) (cond (aIsThrow e)
        (cond (Nat.beq h.1.1 1 && (Nat.ble 6 (fr y) && (Nat.ble ((f.2.2.map fun v => v.category).sum + 82) (lo y) && (Nat.ble (u.1 + 1) (mcT y) && Nat.ble (u.2 + 6) (msT y))))) (some (.inr e.2.2.2.1, h)) none)
        (cond (aIsCall e)
          (match aArgs e.2.2.2.2.1 f.2.2 with
            | none => none
            | some (as, r) => cond (aCallOK y e u as r h) (match F e.2.2.2.1 (0, 0) (0, aPad as (mL e.2.2.2.1), []) h with
                | none => none
                | some (.inl v, h1) => F y (u.1 + mcT e.2.2.2.1, u.2 + msT e.2.2.2.1) (f.1 + 3, f.2.1, v.toList ++ r) h1
                | some (.inr x, h1) => cond (Nat.blt x 3) (match aHnd y f.1 x with
                  | none => some (.inr x, h1)
                  | some (_, t, a) => cond (Nat.blt a (mL y)) (F y (u.1 + mcT e.2.2.2.1, u.2 + msT e.2.2.2.1) (t, aClr (f.2.1.set a none) a, []) h1) none) none) none)
          (match aStep y e u f h with
            | none => none
            | some (f', u', h') => F y u' f' h')))
theorem aEx_s (k y : Nat) (u : Nat × Nat) (f : aFr) (h : aHp) : aEx (k + 1) y u f h = aBody (aEx k) y u f h := by
  rw [aEx]
  rfl
theorem aBody_mono {F G : Nat → Nat × Nat → aFr → aHp → Option aOut} (hFG : ∀ y u f h r, F y u f h = some r → G y u f h = some r) {y : Nat} {u : Nat × Nat} {f : aFr} {h : aHp} {r : aOut} (hex : aBody F y u f h = some r) : aBody G y u f h = some r := by
  unfold aBody at hex ⊢
  cases hcd : cd y f.1 with
  | none => rw [hcd] at hex; cases hex
  | some en =>
    rw [hcd] at hex
    dsimp only at hex ⊢
    cases hE : aIsEnd en with
    | true => rw [hE] at hex; exact hex
    | false =>
      rw [hE, cond_false] at hex
      rw [cond_false]
      cases hT : aIsThrow en with
      | true => rw [hT] at hex; exact hex
      | false =>
        rw [hT, cond_false] at hex
        rw [cond_false]
        cases hC : aIsCall en with
        | false =>
          rw [hC, cond_false] at hex
          rw [cond_false]
          cases hs : aStep y en u f h with
          | none => rw [hs] at hex; cases hex
          | some q =>
            rw [hs] at hex
            exact hFG _ _ _ _ _ hex
        | true =>
          rw [hC, cond_true] at hex
          rw [cond_true]
          cases hA : aArgs en.2.2.2.2.1 f.2.2 with
          | none => rw [hA] at hex; cases hex
          | some q =>
            obtain ⟨as, t⟩ := q
            rw [hA] at hex
            dsimp only at hex ⊢
            cases hok : aCallOK y en u as t h with
            | false => rw [hok] at hex; cases hex
            | true =>
              rw [hok, cond_true] at hex
              rw [cond_true]
              cases hx : F en.2.2.2.1 (0, 0) (0, aPad as (mL en.2.2.2.1), []) h with
              | none => rw [hx] at hex; cases hex
              | some r1 =>
                rw [hx] at hex
                rw [hFG _ _ _ _ _ hx]
                obtain ⟨r11, h1⟩ := r1
                cases r11 with
                | inl v => exact hFG _ _ _ _ _ hex
                | inr x =>
                  dsimp only at hex ⊢
                  cases hx3 : Nat.blt x 3 with
                  | false => rw [hx3] at hex; cases hex
                  | true =>
                    rw [hx3, cond_true] at hex
                    rw [cond_true]
                    cases hh9 : aHnd y f.1 x with
                    | none => rw [hh9] at hex; exact hex
                    | some w =>
                      rw [hh9] at hex
                      obtain ⟨t0, t1, a⟩ := w
                      dsimp only at hex ⊢
                      cases ha : Nat.blt a (mL y) with
                      | false => rw [ha] at hex; cases hex
                      | true =>
                        rw [ha, cond_true] at hex
                        rw [cond_true]
                        exact hFG _ _ _ _ _ hex
theorem aEx_mono : ∀ (k : Nat) (y : Nat) (u : Nat × Nat) (f : aFr) (h : aHp) (r : aOut), aEx k y u f h = some r → aEx (k + 1) y u f h = some r
  | 0, y, u, f, h, r, hex => by cases hex
  | k + 1, y, u, f, h, r, hex => by
    rw [aEx_s] at hex ⊢
    exact aBody_mono (aEx_mono k) hex
theorem aEx_le {k n y : Nat} {u : Nat × Nat} {f : aFr} {h : aHp} {r : aOut} (hkn : k ≤ n) (hex : aEx k y u f h = some r) : aEx n y u f h = some r := by
  obtain ⟨d, rfl⟩ := Nat.le.dest hkn
  clear hkn
  induction d with
  | zero => exact hex
  | succ d ih => exact aEx_mono _ _ _ _ _ _ ih
/-- a run that ends so -/
def Ev (y : Nat) (u : Nat × Nat) (f : aFr) (h : aHp) (r : aOut) : Prop := ∃ k, aEx k y u f h = some r
def aPl (e : aEn) : Bool := !(aIsEnd e) && (!(aIsThrow e) && !(aIsCall e))
noncomputable def aRun : Nat → Nat → Nat × Nat → aFr → aHp → Option aRes
  | 0, _, u, f, h => some (f, u, h)
  | n + 1, y, u, f, h => match cd y f.1 with
    | none => none
    | some e => cond (aPl e) (match aStep y e u f h with
      | none => none
      | some r => aRun n y r.2.1 r.1 r.2.2) none
theorem ev_1 {y : Nat} {u : Nat × Nat} {f : aFr} {h : aHp} {r : aOut} {e : aEn} {q : aRes} (hc : cd y f.1 = some e) (hp : aPl e = true) (hs : aStep y e u f h = some q) (k : Ev y q.2.1 q.1 q.2.2 r) : Ev y u f h r := by
  obtain ⟨n, hn⟩ := k
  refine ⟨n + 1, ?_⟩
  rw [aEx_s]
  unfold aBody
  rw [hc]
  unfold aPl at hp
  simp only [Bool.and_eq_true, Bool.not_eq_true'] at hp
  dsimp only
  rw [hp.1, hp.2.1, hp.2.2, hs]
  exact hn
theorem ev_run : ∀ (n : Nat) {y : Nat} {u u' : Nat × Nat} {f f' : aFr} {h h' : aHp} {r : aOut}, aRun n y u f h = some (f', u', h') → Ev y u' f' h' r → Ev y u f h r
  | 0, y, u, u', f, f', h, h', r, hr, k => by
    cases hr
    exact k
  | n + 1, y, u, u', f, f', h, h', r, hr, k => by
    unfold aRun at hr
    cases hc : cd y f.1 with
    | none => rw [hc] at hr; cases hr
    | some e =>
      rw [hc] at hr
      dsimp only at hr
      cases hp : aPl e with
      | false => rw [hp] at hr; cases hr
      | true =>
        rw [hp, cond_true] at hr
        cases hs : aStep y e u f h with
        | none => rw [hs] at hr; cases hr
        | some q =>
          rw [hs] at hr
          exact ev_1 hc hp hs (ev_run n hr k)
theorem ev_end {y : Nat} {u : Nat × Nat} {f : aFr} {h : aHp} {r : aOut} {e : aEn} (hc : cd y f.1 = some e) (hp : aIsEnd e = true) (hu : (Nat.ble u.1 (mcT y) && Nat.ble u.2 (msT y)) = true) (hs : aEnd y e f h = some r) : Ev y u f h r := by
  refine ⟨1, ?_⟩
  rw [aEx_s]
  unfold aBody
  rw [hc]
  dsimp only
  rw [hp, hu]
  exact hs
theorem ev_throw {y : Nat} {u : Nat × Nat} {f : aFr} {h : aHp} {r : aOut} {e : aEn} (hc : cd y f.1 = some e) (hp : (!(aIsEnd e) && aIsThrow e) = true) (hu : (Nat.beq h.1.1 1 && (Nat.ble 6 (fr y) && (Nat.ble ((f.2.2.map fun v => v.category).sum + 82) (lo y) && (Nat.ble (u.1 + 1) (mcT y) && Nat.ble (u.2 + 6) (msT y))))) = true) (hr : r = (.inr e.2.2.2.1, h)) : Ev y u f h r := by
  refine ⟨1, ?_⟩
  rw [aEx_s]
  unfold aBody
  rw [hc]
  simp only [Bool.and_eq_true, Bool.not_eq_true'] at hp
  dsimp only
  rw [hp.1, hp.2, hu, hr]
  rfl
def aCl (e : aEn) : Bool := !(aIsEnd e) && (!(aIsThrow e) && aIsCall e)
theorem ev_call {y : Nat} {u : Nat × Nat} {f : aFr} {h h1 : aHp} {r : aOut} {e : aEn} {as t : List Value} {v : Option Value} (hc : cd y f.1 = some e) (hp : aCl e = true) (ha : aArgs e.2.2.2.2.1 f.2.2 = some (as, t)) (hk : aCallOK y e u as t h = true) (hz : Ev e.2.2.2.1 (0, 0) (0, aPad as (mL e.2.2.2.1), []) h (.inl v, h1)) (k : Ev y (u.1 + mcT e.2.2.2.1, u.2 + msT e.2.2.2.1) (f.1 + 3, f.2.1, v.toList ++ t) h1 r) : Ev y u f h r := by
  obtain ⟨n1, h1⟩ := hz
  obtain ⟨n2, h2⟩ := k
  refine ⟨(n1 + n2) + 1, ?_⟩
  rw [aEx_s]
  unfold aBody
  rw [hc]
  unfold aCl at hp
  simp only [Bool.and_eq_true, Bool.not_eq_true'] at hp
  dsimp only
  rw [hp.1, hp.2.1, hp.2.2, ha]
  dsimp only [cond_true, cond_false]
  rw [hk, cond_true, aEx_le (Nat.le_add_right n1 n2) h1]
  exact aEx_le (Nat.le_add_left n2 n1) h2
theorem ev_callX {y : Nat} {u : Nat × Nat} {f : aFr} {h h1 : aHp} {e : aEn} {as t : List Value} {x : Nat} (hc : cd y f.1 = some e) (hp : aCl e = true) (ha : aArgs e.2.2.2.2.1 f.2.2 = some (as, t)) (hk : aCallOK y e u as t h = true) (hx : Nat.blt x 3 = true) (hh9 : aHnd y f.1 x = none) (hz : Ev e.2.2.2.1 (0, 0) (0, aPad as (mL e.2.2.2.1), []) h (.inr x, h1)) : Ev y u f h (.inr x, h1) := by
  obtain ⟨n1, h1⟩ := hz
  refine ⟨n1 + 1, ?_⟩
  rw [aEx_s]
  unfold aBody
  rw [hc]
  unfold aCl at hp
  simp only [Bool.and_eq_true, Bool.not_eq_true'] at hp
  dsimp only
  rw [hp.1, hp.2.1, hp.2.2, ha]
  dsimp only [cond_true, cond_false]
  rw [hk, cond_true, h1]
  dsimp only
  rw [hx, hh9]
  rfl
theorem ev_callH {y : Nat} {u : Nat × Nat} {f : aFr} {h h1 : aHp} {r : aOut} {e : aEn} {as tl : List Value} {x t0 t a : Nat} (hc : cd y f.1 = some e) (hp : aCl e = true) (ha : aArgs e.2.2.2.2.1 f.2.2 = some (as, tl)) (hk : aCallOK y e u as tl h = true) (hx : Nat.blt x 3 = true) (hh9 : aHnd y f.1 x = some (t0, t, a)) (hal : Nat.blt a (mL y) = true) (hz : Ev e.2.2.2.1 (0, 0) (0, aPad as (mL e.2.2.2.1), []) h (.inr x, h1)) (k : Ev y (u.1 + mcT e.2.2.2.1, u.2 + msT e.2.2.2.1) (t, aClr (f.2.1.set a none) a, []) h1 r) : Ev y u f h r := by
  obtain ⟨n1, h1⟩ := hz
  obtain ⟨n2, h2⟩ := k
  refine ⟨(n1 + n2) + 1, ?_⟩
  rw [aEx_s]
  unfold aBody
  rw [hc]
  unfold aCl at hp
  simp only [Bool.and_eq_true, Bool.not_eq_true'] at hp
  dsimp only
  rw [hp.1, hp.2.1, hp.2.2, ha]
  dsimp only [cond_true, cond_false]
  rw [hk, cond_true, aEx_le (Nat.le_add_right n1 n2) h1]
  dsimp only
  rw [hx, hh9]
  dsimp only [cond_true]
  rw [hal, cond_true]
  exact aEx_le (Nat.le_add_left n2 n1) h2
