/-! The methods as functions; printed by dec.py -/
def gm194 (a1 : Int32) (x : Hs) : Option (Int32 × Hs) := (gm71 a1 x).bind fun w1 => match w1 with | (.inl v3, x5) => (cond (aIn 0 1) (some (0, (wJ x5 187 (xi 0) (Int32.toInt64 v3)))) none) | (.inr k4, x5) => (if k4 = 0 then (some (1, x5)) else (if k4 = 2 then (some (2, x5)) else (none)))
theorem em194 {N : Nat} {u1 u2 : Nat} (a1 : Int32) (hu1 : u1 + 2 ≤ 2) (hu2 : u2 + 12 ≤ 12) (x : Hs) (r : Int32 × Hs) (h : gm194 a1 x = some r) : Ev 194 (u1, u2) (0, aPad [.ref 1, .int a1, .ref 187] 4, []) (hp N x) (cvMi N r) := by
  show Ev 194 (u1, u2) (0, [some (.ref 1), some (.int a1), some (.ref 187), none], []) (hp N x) _
  unfold gm194 at h
  refine ev_run (n := 4) (u' := (u1, u2)) (f' := (4, [some (.ref 1), some (.int a1), some (.ref 187), none], [.int a1, .ref 1, .int 0, .ref 187])) (h' := hp N x) rfl ?_
  obtain ⟨w1, h2, h⟩ := bind_ok h
  obtain ⟨w1, x5⟩ := w1
  cases w1 with
  | inl v3 =>
    refine ev_call (v := some (.int v3)) (h1 := hp N x5) rfl rfl rfl (ok_u rfl (by show u1 + 2 ≤ 2; omega) (by show u2 + 12 ≤ 12; omega)) (em71 a1 (by decide) (by decide) x _ h2) ?_
    show Ev 194 (u1 + 2, u2 + 12) (7, [some (.ref 1), some (.int a1), some (.ref 187), none], [.int v3, .int 0, .ref 187]) (hp N x5) _
    refine ev_run (n := 1) (u' := (u1 + 2, u2 + 12)) (f' := (8, [some (.ref 1), some (.int a1), some (.ref 187), none], [.long (Int32.toInt64 v3), .int 0, .ref 187])) (h' := hp N x5) rfl ?_
    obtain ⟨h6, h⟩ := cond_some h
    refine ev_last rfl rfl h6 ?_
    show Ev 194 (u1 + 2, u2 + 12) (9, [some (.ref 1), some (.int a1), some (.ref 187), none], []) (hp N (wJ x5 187 (xi 0) (Int32.toInt64 v3))) _
    refine ev_run (n := 2) (u' := (u1 + 2, u2 + 12)) (f' := (19, [none, none, none, none], [.int 0])) (h' := hp N (wJ x5 187 (xi 0) (Int32.toInt64 v3))) rfl ?_
    cases h
    exact ev_iret rfl (end_u (by show _ ≤ 2; omega) (by show _ ≤ 12; omega)) rfl (Or.inl rfl)
  | inr k4 =>
    rcases ite_or h with ⟨h7, h⟩ | ⟨-, h⟩
    · subst h7
      refine ev_callH (h1 := hp N x5) (t0 := 12) (t := 13) (a := 3) rfl rfl rfl (ok_u rfl (by show u1 + 2 ≤ 2; omega) (by show u2 + 12 ≤ 12; omega)) rfl rfl rfl (em71 a1 (by decide) (by decide) x _ h2) ?_
      show Ev 194 (u1 + 2, u2 + 12) (13, [some (.ref 1), some (.int a1), some (.ref 187), none], []) (hp N x5) _
      refine ev_run (n := 1) (u' := (u1 + 2, u2 + 12)) (f' := (14, [some (.ref 1), some (.int a1), some (.ref 187), none], [.int 1])) (h' := hp N x5) rfl ?_
      cases h
      exact ev_iret rfl (end_u (by show _ ≤ 2; omega) (by show _ ≤ 12; omega)) rfl (Or.inl rfl)
    rcases ite_or h with ⟨h8, h⟩ | ⟨-, h⟩
    · subst h8
      refine ev_callH (h1 := hp N x5) (t0 := 15) (t := 16) (a := 3) rfl rfl rfl (ok_u rfl (by show u1 + 2 ≤ 2; omega) (by show u2 + 12 ≤ 12; omega)) rfl rfl rfl (em71 a1 (by decide) (by decide) x _ h2) ?_
      show Ev 194 (u1 + 2, u2 + 12) (16, [some (.ref 1), some (.int a1), some (.ref 187), none], []) (hp N x5) _
      refine ev_run (n := 1) (u' := (u1 + 2, u2 + 12)) (f' := (17, [some (.ref 1), some (.int a1), some (.ref 187), none], [.int 2])) (h' := hp N x5) rfl ?_
      cases h
      exact ev_iret rfl (end_u (by show _ ≤ 2; omega) (by show _ ≤ 12; omega)) rfl (Or.inl rfl)
    cases h
def gm195 (a1 : Int32) (a2 : Int32) (x : Hs) : Option (Int32 × Hs) := (gm72 a1 a2 x).bind fun w1 => match w1 with | (.inl v3, x5) => (cond (aIn 0 1) (some (0, (wJ x5 187 (xi 0) (Int32.toInt64 v3)))) none) | (.inr k4, x5) => (if k4 = 0 then (some (1, x5)) else (if k4 = 1 then (some (2, x5)) else (none)))
theorem em195 {N : Nat} {u1 u2 : Nat} (a1 : Int32) (a2 : Int32) (hu1 : u1 + 2 ≤ 2) (hu2 : u2 + 12 ≤ 12) (x : Hs) (r : Int32 × Hs) (h : gm195 a1 a2 x = some r) : Ev 195 (u1, u2) (0, aPad [.ref 1, .int a1, .int a2, .ref 187] 5, []) (hp N x) (cvMi N r) := by
  show Ev 195 (u1, u2) (0, [some (.ref 1), some (.int a1), some (.int a2), some (.ref 187), none], []) (hp N x) _
  unfold gm195 at h
  refine ev_run (n := 5) (u' := (u1, u2)) (f' := (5, [some (.ref 1), some (.int a1), some (.int a2), some (.ref 187), none], [.int a2, .int a1, .ref 1, .int 0, .ref 187])) (h' := hp N x) rfl ?_
  obtain ⟨w1, h2, h⟩ := bind_ok h
  obtain ⟨w1, x5⟩ := w1
  cases w1 with
  | inl v3 =>
    refine ev_call (v := some (.int v3)) (h1 := hp N x5) rfl rfl rfl (ok_u rfl (by show u1 + 2 ≤ 2; omega) (by show u2 + 12 ≤ 12; omega)) (em72 a1 a2 (by decide) (by decide) x _ h2) ?_
    show Ev 195 (u1 + 2, u2 + 12) (8, [some (.ref 1), some (.int a1), some (.int a2), some (.ref 187), none], [.int v3, .int 0, .ref 187]) (hp N x5) _
    refine ev_run (n := 1) (u' := (u1 + 2, u2 + 12)) (f' := (9, [some (.ref 1), some (.int a1), some (.int a2), some (.ref 187), none], [.long (Int32.toInt64 v3), .int 0, .ref 187])) (h' := hp N x5) rfl ?_
    obtain ⟨h6, h⟩ := cond_some h
    refine ev_last rfl rfl h6 ?_
    show Ev 195 (u1 + 2, u2 + 12) (10, [some (.ref 1), some (.int a1), some (.int a2), some (.ref 187), none], []) (hp N (wJ x5 187 (xi 0) (Int32.toInt64 v3))) _
    refine ev_run (n := 2) (u' := (u1 + 2, u2 + 12)) (f' := (22, [none, none, none, none, none], [.int 0])) (h' := hp N (wJ x5 187 (xi 0) (Int32.toInt64 v3))) rfl ?_
    cases h
    exact ev_iret rfl (end_u (by show _ ≤ 2; omega) (by show _ ≤ 12; omega)) rfl (Or.inl rfl)
  | inr k4 =>
    rcases ite_or h with ⟨h7, h⟩ | ⟨-, h⟩
    · subst h7
      refine ev_callH (h1 := hp N x5) (t0 := 13) (t := 15) (a := 4) rfl rfl rfl (ok_u rfl (by show u1 + 2 ≤ 2; omega) (by show u2 + 12 ≤ 12; omega)) rfl rfl rfl (em72 a1 a2 (by decide) (by decide) x _ h2) ?_
      show Ev 195 (u1 + 2, u2 + 12) (15, [some (.ref 1), some (.int a1), some (.int a2), some (.ref 187), none], []) (hp N x5) _
      refine ev_run (n := 1) (u' := (u1 + 2, u2 + 12)) (f' := (16, [some (.ref 1), some (.int a1), some (.int a2), some (.ref 187), none], [.int 1])) (h' := hp N x5) rfl ?_
      cases h
      exact ev_iret rfl (end_u (by show _ ≤ 2; omega) (by show _ ≤ 12; omega)) rfl (Or.inl rfl)
    rcases ite_or h with ⟨h8, h⟩ | ⟨-, h⟩
    · subst h8
      refine ev_callH (h1 := hp N x5) (t0 := 17) (t := 19) (a := 4) rfl rfl rfl (ok_u rfl (by show u1 + 2 ≤ 2; omega) (by show u2 + 12 ≤ 12; omega)) rfl rfl rfl (em72 a1 a2 (by decide) (by decide) x _ h2) ?_
      show Ev 195 (u1 + 2, u2 + 12) (19, [some (.ref 1), some (.int a1), some (.int a2), some (.ref 187), none], []) (hp N x5) _
      refine ev_run (n := 1) (u' := (u1 + 2, u2 + 12)) (f' := (20, [some (.ref 1), some (.int a1), some (.int a2), some (.ref 187), none], [.int 2])) (h' := hp N x5) rfl ?_
      cases h
      exact ev_iret rfl (end_u (by show _ ≤ 2; omega) (by show _ ≤ 12; omega)) rfl (Or.inl rfl)
    cases h
def gm196 (a1 : Int32) (x : Hs) : Option (Int32 × Hs) := (gm73 a1 x).bind fun w1 => match w1 with | (.inl v3, x5) => (cond (aN64 (FP.f2d v3)) (cond (aIn 0 1) (some (0, (wE x5 188 (xi 0) (FP.f2d v3)))) none) none) | (.inr k4, x5) => (if k4 = 0 then (some (1, x5)) else (none))
theorem em196 {N : Nat} {u1 u2 : Nat} (a1 : Int32) (hu1 : u1 + 1 ≤ 1) (hu2 : u2 + 6 ≤ 6) (x : Hs) (r : Int32 × Hs) (h : gm196 a1 x = some r) : Ev 196 (u1, u2) (0, aPad [.ref 1, .int a1, .ref 188] 4, []) (hp N x) (cvMi N r) := by
  show Ev 196 (u1, u2) (0, [some (.ref 1), some (.int a1), some (.ref 188), none], []) (hp N x) _
  unfold gm196 at h
  refine ev_run (n := 4) (u' := (u1, u2)) (f' := (4, [some (.ref 1), some (.int a1), some (.ref 188), none], [.int a1, .ref 1, .int 0, .ref 188])) (h' := hp N x) rfl ?_
  obtain ⟨w1, h2, h⟩ := bind_ok h
  obtain ⟨w1, x5⟩ := w1
  cases w1 with
  | inl v3 =>
    refine ev_call (v := some (.float v3)) (h1 := hp N x5) rfl rfl rfl (ok_u rfl (by show u1 + 1 ≤ 1; omega) (by show u2 + 6 ≤ 6; omega)) (em73 a1 (by decide) (by decide) x _ h2) ?_
    show Ev 196 (u1 + 1, u2 + 6) (7, [some (.ref 1), some (.int a1), some (.ref 188), none], [.float v3, .int 0, .ref 188]) (hp N x5) _
    obtain ⟨h6, h⟩ := cond_some h
    refine ev_f2d rfl h6 ?_
    obtain ⟨h7, h⟩ := cond_some h
    refine ev_dast rfl rfl h7 ?_
    show Ev 196 (u1 + 1, u2 + 6) (9, [some (.ref 1), some (.int a1), some (.ref 188), none], []) (hp N (wE x5 188 (xi 0) (FP.f2d v3))) _
    refine ev_run (n := 2) (u' := (u1 + 1, u2 + 6)) (f' := (16, [none, none, none, none], [.int 0])) (h' := hp N (wE x5 188 (xi 0) (FP.f2d v3))) rfl ?_
    cases h
    exact ev_iret rfl (end_u (by show _ ≤ 1; omega) (by show _ ≤ 6; omega)) rfl (Or.inl rfl)
  | inr k4 =>
    rcases ite_or h with ⟨h8, h⟩ | ⟨-, h⟩
    · subst h8
      refine ev_callH (h1 := hp N x5) (t0 := 12) (t := 13) (a := 3) rfl rfl rfl (ok_u rfl (by show u1 + 1 ≤ 1; omega) (by show u2 + 6 ≤ 6; omega)) rfl rfl rfl (em73 a1 (by decide) (by decide) x _ h2) ?_
      show Ev 196 (u1 + 1, u2 + 6) (13, [some (.ref 1), some (.int a1), some (.ref 188), none], []) (hp N x5) _
      refine ev_run (n := 1) (u' := (u1 + 1, u2 + 6)) (f' := (14, [some (.ref 1), some (.int a1), some (.ref 188), none], [.int 1])) (h' := hp N x5) rfl ?_
      cases h
      exact ev_iret rfl (end_u (by show _ ≤ 1; omega) (by show _ ≤ 6; omega)) rfl (Or.inl rfl)
    cases h
def gm197 (a1 : Int32) (a2 : Int32) (a3 : Int32) (a4 : Int32) (x : Hs) : Option (Int32 × Hs) := (gm74 a1 a2 a3 a4 x).bind fun w1 => match w1 with | (.inl v3, x5) => (cond (aIn 0 1) (some (0, (wJ x5 187 (xi 0) (Int32.toInt64 v3)))) none) | (.inr k4, x5) => (if k4 = 0 then (some (1, x5)) else (if k4 = 1 then (some (2, x5)) else (if k4 = 2 then (some (3, x5)) else (none))))
theorem em197 {N : Nat} {u1 u2 : Nat} (a1 : Int32) (a2 : Int32) (a3 : Int32) (a4 : Int32) (hu1 : u1 + 3 ≤ 3) (hu2 : u2 + 18 ≤ 18) (x : Hs) (r : Int32 × Hs) (h : gm197 a1 a2 a3 a4 x = some r) : Ev 197 (u1, u2) (0, aPad [.ref 1, .int a1, .int a2, .int a3, .int a4, .ref 187] 7, []) (hp N x) (cvMi N r) := by
  show Ev 197 (u1, u2) (0, [some (.ref 1), some (.int a1), some (.int a2), some (.int a3), some (.int a4), some (.ref 187), none], []) (hp N x) _
  unfold gm197 at h
  refine ev_run (n := 7) (u' := (u1, u2)) (f' := (9, [some (.ref 1), some (.int a1), some (.int a2), some (.int a3), some (.int a4), some (.ref 187), none], [.int a4, .int a3, .int a2, .int a1, .ref 1, .int 0, .ref 187])) (h' := hp N x) rfl ?_
  obtain ⟨w1, h2, h⟩ := bind_ok h
  obtain ⟨w1, x5⟩ := w1
  cases w1 with
  | inl v3 =>
    refine ev_call (v := some (.int v3)) (h1 := hp N x5) rfl rfl rfl (ok_u rfl (by show u1 + 3 ≤ 3; omega) (by show u2 + 18 ≤ 18; omega)) (em74 a1 a2 a3 a4 (by decide) (by decide) x _ h2) ?_
    show Ev 197 (u1 + 3, u2 + 18) (12, [some (.ref 1), some (.int a1), some (.int a2), some (.int a3), some (.int a4), some (.ref 187), none], [.int v3, .int 0, .ref 187]) (hp N x5) _
    refine ev_run (n := 1) (u' := (u1 + 3, u2 + 18)) (f' := (13, [some (.ref 1), some (.int a1), some (.int a2), some (.int a3), some (.int a4), some (.ref 187), none], [.long (Int32.toInt64 v3), .int 0, .ref 187])) (h' := hp N x5) rfl ?_
    obtain ⟨h6, h⟩ := cond_some h
    refine ev_last rfl rfl h6 ?_
    show Ev 197 (u1 + 3, u2 + 18) (14, [some (.ref 1), some (.int a1), some (.int a2), some (.int a3), some (.int a4), some (.ref 187), none], []) (hp N (wJ x5 187 (xi 0) (Int32.toInt64 v3))) _
    refine ev_run (n := 2) (u' := (u1 + 3, u2 + 18)) (f' := (30, [none, none, none, none, none, none, none], [.int 0])) (h' := hp N (wJ x5 187 (xi 0) (Int32.toInt64 v3))) rfl ?_
    cases h
    exact ev_iret rfl (end_u (by show _ ≤ 3; omega) (by show _ ≤ 18; omega)) rfl (Or.inl rfl)
  | inr k4 =>
    rcases ite_or h with ⟨h7, h⟩ | ⟨-, h⟩
    · subst h7
      refine ev_callH (h1 := hp N x5) (t0 := 17) (t := 19) (a := 6) rfl rfl rfl (ok_u rfl (by show u1 + 3 ≤ 3; omega) (by show u2 + 18 ≤ 18; omega)) rfl rfl rfl (em74 a1 a2 a3 a4 (by decide) (by decide) x _ h2) ?_
      show Ev 197 (u1 + 3, u2 + 18) (19, [some (.ref 1), some (.int a1), some (.int a2), some (.int a3), some (.int a4), some (.ref 187), none], []) (hp N x5) _
      refine ev_run (n := 1) (u' := (u1 + 3, u2 + 18)) (f' := (20, [some (.ref 1), some (.int a1), some (.int a2), some (.int a3), some (.int a4), some (.ref 187), none], [.int 1])) (h' := hp N x5) rfl ?_
      cases h
      exact ev_iret rfl (end_u (by show _ ≤ 3; omega) (by show _ ≤ 18; omega)) rfl (Or.inl rfl)
    rcases ite_or h with ⟨h8, h⟩ | ⟨-, h⟩
    · subst h8
      refine ev_callH (h1 := hp N x5) (t0 := 21) (t := 23) (a := 6) rfl rfl rfl (ok_u rfl (by show u1 + 3 ≤ 3; omega) (by show u2 + 18 ≤ 18; omega)) rfl rfl rfl (em74 a1 a2 a3 a4 (by decide) (by decide) x _ h2) ?_
      show Ev 197 (u1 + 3, u2 + 18) (23, [some (.ref 1), some (.int a1), some (.int a2), some (.int a3), some (.int a4), some (.ref 187), none], []) (hp N x5) _
      refine ev_run (n := 1) (u' := (u1 + 3, u2 + 18)) (f' := (24, [some (.ref 1), some (.int a1), some (.int a2), some (.int a3), some (.int a4), some (.ref 187), none], [.int 2])) (h' := hp N x5) rfl ?_
      cases h
      exact ev_iret rfl (end_u (by show _ ≤ 3; omega) (by show _ ≤ 18; omega)) rfl (Or.inl rfl)
    rcases ite_or h with ⟨h9, h⟩ | ⟨-, h⟩
    · subst h9
      refine ev_callH (h1 := hp N x5) (t0 := 25) (t := 27) (a := 6) rfl rfl rfl (ok_u rfl (by show u1 + 3 ≤ 3; omega) (by show u2 + 18 ≤ 18; omega)) rfl rfl rfl (em74 a1 a2 a3 a4 (by decide) (by decide) x _ h2) ?_
      show Ev 197 (u1 + 3, u2 + 18) (27, [some (.ref 1), some (.int a1), some (.int a2), some (.int a3), some (.int a4), some (.ref 187), none], []) (hp N x5) _
      refine ev_run (n := 1) (u' := (u1 + 3, u2 + 18)) (f' := (28, [some (.ref 1), some (.int a1), some (.int a2), some (.int a3), some (.int a4), some (.ref 187), none], [.int 3])) (h' := hp N x5) rfl ?_
      cases h
      exact ev_iret rfl (end_u (by show _ ≤ 3; omega) (by show _ ≤ 18; omega)) rfl (Or.inl rfl)
    cases h
def gm198 (a1 : Int32) (a2 : Int32) (a3 : Int32) (x : Hs) : Option (Int32 × Hs) := (gm75 a1 a2 a3 x).bind fun w1 => match w1 with | (.inl v3, x5) => (cond (aIn 0 1) (some (0, (wJ x5 187 (xi 0) (Int32.toInt64 v3)))) none) | (.inr k4, x5) => (if k4 = 0 then (some (1, x5)) else (if k4 = 1 then (some (2, x5)) else (if k4 = 2 then (some (3, x5)) else (none))))
theorem em198 {N : Nat} {u1 u2 : Nat} (a1 : Int32) (a2 : Int32) (a3 : Int32) (hu1 : u1 + 3 ≤ 3) (hu2 : u2 + 18 ≤ 18) (x : Hs) (r : Int32 × Hs) (h : gm198 a1 a2 a3 x = some r) : Ev 198 (u1, u2) (0, aPad [.ref 1, .int a1, .int a2, .int a3, .ref 187] 6, []) (hp N x) (cvMi N r) := by
  show Ev 198 (u1, u2) (0, [some (.ref 1), some (.int a1), some (.int a2), some (.int a3), some (.ref 187), none], []) (hp N x) _
  unfold gm198 at h
  refine ev_run (n := 6) (u' := (u1, u2)) (f' := (7, [some (.ref 1), some (.int a1), some (.int a2), some (.int a3), some (.ref 187), none], [.int a3, .int a2, .int a1, .ref 1, .int 0, .ref 187])) (h' := hp N x) rfl ?_
  obtain ⟨w1, h2, h⟩ := bind_ok h
  obtain ⟨w1, x5⟩ := w1
  cases w1 with
  | inl v3 =>
    refine ev_call (v := some (.int v3)) (h1 := hp N x5) rfl rfl rfl (ok_u rfl (by show u1 + 3 ≤ 3; omega) (by show u2 + 18 ≤ 18; omega)) (em75 a1 a2 a3 (by decide) (by decide) x _ h2) ?_
    show Ev 198 (u1 + 3, u2 + 18) (10, [some (.ref 1), some (.int a1), some (.int a2), some (.int a3), some (.ref 187), none], [.int v3, .int 0, .ref 187]) (hp N x5) _
    refine ev_run (n := 1) (u' := (u1 + 3, u2 + 18)) (f' := (11, [some (.ref 1), some (.int a1), some (.int a2), some (.int a3), some (.ref 187), none], [.long (Int32.toInt64 v3), .int 0, .ref 187])) (h' := hp N x5) rfl ?_
    obtain ⟨h6, h⟩ := cond_some h
    refine ev_last rfl rfl h6 ?_
    show Ev 198 (u1 + 3, u2 + 18) (12, [some (.ref 1), some (.int a1), some (.int a2), some (.int a3), some (.ref 187), none], []) (hp N (wJ x5 187 (xi 0) (Int32.toInt64 v3))) _
    refine ev_run (n := 2) (u' := (u1 + 3, u2 + 18)) (f' := (28, [none, none, none, none, none, none], [.int 0])) (h' := hp N (wJ x5 187 (xi 0) (Int32.toInt64 v3))) rfl ?_
    cases h
    exact ev_iret rfl (end_u (by show _ ≤ 3; omega) (by show _ ≤ 18; omega)) rfl (Or.inl rfl)
  | inr k4 =>
    rcases ite_or h with ⟨h7, h⟩ | ⟨-, h⟩
    · subst h7
      refine ev_callH (h1 := hp N x5) (t0 := 15) (t := 17) (a := 5) rfl rfl rfl (ok_u rfl (by show u1 + 3 ≤ 3; omega) (by show u2 + 18 ≤ 18; omega)) rfl rfl rfl (em75 a1 a2 a3 (by decide) (by decide) x _ h2) ?_
      show Ev 198 (u1 + 3, u2 + 18) (17, [some (.ref 1), some (.int a1), some (.int a2), some (.int a3), some (.ref 187), none], []) (hp N x5) _
      refine ev_run (n := 1) (u' := (u1 + 3, u2 + 18)) (f' := (18, [some (.ref 1), some (.int a1), some (.int a2), some (.int a3), some (.ref 187), none], [.int 1])) (h' := hp N x5) rfl ?_
      cases h
      exact ev_iret rfl (end_u (by show _ ≤ 3; omega) (by show _ ≤ 18; omega)) rfl (Or.inl rfl)
    rcases ite_or h with ⟨h8, h⟩ | ⟨-, h⟩
    · subst h8
      refine ev_callH (h1 := hp N x5) (t0 := 19) (t := 21) (a := 5) rfl rfl rfl (ok_u rfl (by show u1 + 3 ≤ 3; omega) (by show u2 + 18 ≤ 18; omega)) rfl rfl rfl (em75 a1 a2 a3 (by decide) (by decide) x _ h2) ?_
      show Ev 198 (u1 + 3, u2 + 18) (21, [some (.ref 1), some (.int a1), some (.int a2), some (.int a3), some (.ref 187), none], []) (hp N x5) _
      refine ev_run (n := 1) (u' := (u1 + 3, u2 + 18)) (f' := (22, [some (.ref 1), some (.int a1), some (.int a2), some (.int a3), some (.ref 187), none], [.int 2])) (h' := hp N x5) rfl ?_
      cases h
      exact ev_iret rfl (end_u (by show _ ≤ 3; omega) (by show _ ≤ 18; omega)) rfl (Or.inl rfl)
    rcases ite_or h with ⟨h9, h⟩ | ⟨-, h⟩
    · subst h9
      refine ev_callH (h1 := hp N x5) (t0 := 23) (t := 25) (a := 5) rfl rfl rfl (ok_u rfl (by show u1 + 3 ≤ 3; omega) (by show u2 + 18 ≤ 18; omega)) rfl rfl rfl (em75 a1 a2 a3 (by decide) (by decide) x _ h2) ?_
      show Ev 198 (u1 + 3, u2 + 18) (25, [some (.ref 1), some (.int a1), some (.int a2), some (.int a3), some (.ref 187), none], []) (hp N x5) _
      refine ev_run (n := 1) (u' := (u1 + 3, u2 + 18)) (f' := (26, [some (.ref 1), some (.int a1), some (.int a2), some (.int a3), some (.ref 187), none], [.int 3])) (h' := hp N x5) rfl ?_
      cases h
      exact ev_iret rfl (end_u (by show _ ≤ 3; omega) (by show _ ≤ 18; omega)) rfl (Or.inl rfl)
    cases h
def gm199_15 (s1 : Int32) (s2 : Int64) (x : Hs) : Option (Int32 × Hs) := cond (aIn s1 1) (some (0, (wJ x 187 (xi s1) s2))) none
theorem em199_15 {N : Nat} {u1 u2 : Nat} (s1 : Int32) (s2 : Int64) (hu1 : u1 + 0 ≤ 1) (hu2 : u2 + 0 ≤ 6) (x : Hs) (r : Int32 × Hs) (h : gm199_15 s1 s2 x = some r) : Ev 199 (u1, u2) (15, [none, none, none, none], [.long s2, .int s1, .ref 187]) (hp N x) (cvMi N r) := by
  unfold gm199_15 at h
  obtain ⟨h8, h⟩ := cond_some h
  refine ev_last rfl rfl h8 ?_
  show Ev 199 (u1, u2) (16, [none, none, none, none], []) (hp N (wJ x 187 (xi s1) s2)) _
  refine ev_run (n := 2) (u' := (u1, u2)) (f' := (23, [none, none, none, none], [.int 0])) (h' := hp N (wJ x 187 (xi s1) s2)) rfl ?_
  cases h
  exact ev_iret rfl (end_u (by show _ ≤ 1; omega) (by show _ ≤ 6; omega)) rfl (Or.inl rfl)
def gm199 (a1 : Int32) (x : Hs) : Option (Int32 × Hs) := (gm76 a1 x).bind fun w1 => match w1 with | (.inl v3, x5) => (if v3 = 0 then (gm199_15 0 0 x5) else (gm199_15 0 1 x5)) | (.inr k4, x5) => (if k4 = 0 then (some (1, x5)) else (none))
theorem em199 {N : Nat} {u1 u2 : Nat} (a1 : Int32) (hu1 : u1 + 1 ≤ 1) (hu2 : u2 + 6 ≤ 6) (x : Hs) (r : Int32 × Hs) (h : gm199 a1 x = some r) : Ev 199 (u1, u2) (0, aPad [.ref 1, .int a1, .ref 187] 4, []) (hp N x) (cvMi N r) := by
  show Ev 199 (u1, u2) (0, [some (.ref 1), some (.int a1), some (.ref 187), none], []) (hp N x) _
  unfold gm199 at h
  refine ev_run (n := 4) (u' := (u1, u2)) (f' := (4, [some (.ref 1), some (.int a1), some (.ref 187), none], [.int a1, .ref 1, .int 0, .ref 187])) (h' := hp N x) rfl ?_
  obtain ⟨w1, h2, h⟩ := bind_ok h
  obtain ⟨w1, x5⟩ := w1
  cases w1 with
  | inl v3 =>
    refine ev_call (v := some (.int v3)) (h1 := hp N x5) rfl rfl rfl (ok_u rfl (by show u1 + 1 ≤ 1; omega) (by show u2 + 6 ≤ 6; omega)) (em76 a1 (by decide) (by decide) x _ h2) ?_
    show Ev 199 (u1 + 1, u2 + 6) (7, [some (.ref 1), some (.int a1), some (.ref 187), none], [.int v3, .int 0, .ref 187]) (hp N x5) _
    rcases ite_or h with ⟨h6, h⟩ | ⟨h6, h⟩
    · refine ev_ift rfl (decide_eq_true h6) ?_
      refine ev_run (n := 1) (u' := (u1 + 1, u2 + 6)) (f' := (15, [none, none, none, none], [.long 0, .int 0, .ref 187])) (h' := hp N x5) rfl ?_
      exact em199_15 0 0 (by omega) (by omega) x5 _ h
    · refine ev_iff rfl (decide_eq_false h6) ?_
      refine ev_run (n := 2) (u' := (u1 + 1, u2 + 6)) (f' := (15, [none, none, none, none], [.long 1, .int 0, .ref 187])) (h' := hp N x5) rfl ?_
      exact em199_15 0 1 (by omega) (by omega) x5 _ h
  | inr k4 =>
    rcases ite_or h with ⟨h7, h⟩ | ⟨-, h⟩
    · subst h7
      refine ev_callH (h1 := hp N x5) (t0 := 19) (t := 20) (a := 3) rfl rfl rfl (ok_u rfl (by show u1 + 1 ≤ 1; omega) (by show u2 + 6 ≤ 6; omega)) rfl rfl rfl (em76 a1 (by decide) (by decide) x _ h2) ?_
      show Ev 199 (u1 + 1, u2 + 6) (20, [some (.ref 1), some (.int a1), some (.ref 187), none], []) (hp N x5) _
      refine ev_run (n := 1) (u' := (u1 + 1, u2 + 6)) (f' := (21, [some (.ref 1), some (.int a1), some (.ref 187), none], [.int 1])) (h' := hp N x5) rfl ?_
      cases h
      exact ev_iret rfl (end_u (by show _ ≤ 1; omega) (by show _ ≤ 6; omega)) rfl (Or.inl rfl)
    cases h
def gm200_16 (s1 : Int32) (s2 : Int64) (x : Hs) : Option (Int32 × Hs) := cond (aIn s1 1) (some (0, (wJ x 187 (xi s1) s2))) none
theorem em200_16 {N : Nat} {u1 u2 : Nat} (s1 : Int32) (s2 : Int64) (hu1 : u1 + 0 ≤ 2) (hu2 : u2 + 0 ≤ 12) (x : Hs) (r : Int32 × Hs) (h : gm200_16 s1 s2 x = some r) : Ev 200 (u1, u2) (16, [none, none, none, none, none], [.long s2, .int s1, .ref 187]) (hp N x) (cvMi N r) := by
  unfold gm200_16 at h
  obtain ⟨h9, h⟩ := cond_some h
  refine ev_last rfl rfl h9 ?_
  show Ev 200 (u1, u2) (17, [none, none, none, none, none], []) (hp N (wJ x 187 (xi s1) s2)) _
  refine ev_run (n := 2) (u' := (u1, u2)) (f' := (29, [none, none, none, none, none], [.int 0])) (h' := hp N (wJ x 187 (xi s1) s2)) rfl ?_
  cases h
  exact ev_iret rfl (end_u (by show _ ≤ 2; omega) (by show _ ≤ 12; omega)) rfl (Or.inl rfl)
def gm200 (a1 : Int32) (a2 : Int32) (x : Hs) : Option (Int32 × Hs) := (gm77 a1 a2 x).bind fun w1 => match w1 with | (.inl v3, x5) => (if v3 = 0 then (gm200_16 0 0 x5) else (gm200_16 0 1 x5)) | (.inr k4, x5) => (if k4 = 0 then (some (1, x5)) else (if k4 = 1 then (some (2, x5)) else (none)))
theorem em200 {N : Nat} {u1 u2 : Nat} (a1 : Int32) (a2 : Int32) (hu1 : u1 + 2 ≤ 2) (hu2 : u2 + 12 ≤ 12) (x : Hs) (r : Int32 × Hs) (h : gm200 a1 a2 x = some r) : Ev 200 (u1, u2) (0, aPad [.ref 1, .int a1, .int a2, .ref 187] 5, []) (hp N x) (cvMi N r) := by
  show Ev 200 (u1, u2) (0, [some (.ref 1), some (.int a1), some (.int a2), some (.ref 187), none], []) (hp N x) _
  unfold gm200 at h
  refine ev_run (n := 5) (u' := (u1, u2)) (f' := (5, [some (.ref 1), some (.int a1), some (.int a2), some (.ref 187), none], [.int a2, .int a1, .ref 1, .int 0, .ref 187])) (h' := hp N x) rfl ?_
  obtain ⟨w1, h2, h⟩ := bind_ok h
  obtain ⟨w1, x5⟩ := w1
  cases w1 with
  | inl v3 =>
    refine ev_call (v := some (.int v3)) (h1 := hp N x5) rfl rfl rfl (ok_u rfl (by show u1 + 2 ≤ 2; omega) (by show u2 + 12 ≤ 12; omega)) (em77 a1 a2 (by decide) (by decide) x _ h2) ?_
    show Ev 200 (u1 + 2, u2 + 12) (8, [some (.ref 1), some (.int a1), some (.int a2), some (.ref 187), none], [.int v3, .int 0, .ref 187]) (hp N x5) _
    rcases ite_or h with ⟨h6, h⟩ | ⟨h6, h⟩
    · refine ev_ift rfl (decide_eq_true h6) ?_
      refine ev_run (n := 1) (u' := (u1 + 2, u2 + 12)) (f' := (16, [none, none, none, none, none], [.long 0, .int 0, .ref 187])) (h' := hp N x5) rfl ?_
      exact em200_16 0 0 (by omega) (by omega) x5 _ h
    · refine ev_iff rfl (decide_eq_false h6) ?_
      refine ev_run (n := 2) (u' := (u1 + 2, u2 + 12)) (f' := (16, [none, none, none, none, none], [.long 1, .int 0, .ref 187])) (h' := hp N x5) rfl ?_
      exact em200_16 0 1 (by omega) (by omega) x5 _ h
  | inr k4 =>
    rcases ite_or h with ⟨h7, h⟩ | ⟨-, h⟩
    · subst h7
      refine ev_callH (h1 := hp N x5) (t0 := 20) (t := 22) (a := 4) rfl rfl rfl (ok_u rfl (by show u1 + 2 ≤ 2; omega) (by show u2 + 12 ≤ 12; omega)) rfl rfl rfl (em77 a1 a2 (by decide) (by decide) x _ h2) ?_
      show Ev 200 (u1 + 2, u2 + 12) (22, [some (.ref 1), some (.int a1), some (.int a2), some (.ref 187), none], []) (hp N x5) _
      refine ev_run (n := 1) (u' := (u1 + 2, u2 + 12)) (f' := (23, [some (.ref 1), some (.int a1), some (.int a2), some (.ref 187), none], [.int 1])) (h' := hp N x5) rfl ?_
      cases h
      exact ev_iret rfl (end_u (by show _ ≤ 2; omega) (by show _ ≤ 12; omega)) rfl (Or.inl rfl)
    rcases ite_or h with ⟨h8, h⟩ | ⟨-, h⟩
    · subst h8
      refine ev_callH (h1 := hp N x5) (t0 := 24) (t := 26) (a := 4) rfl rfl rfl (ok_u rfl (by show u1 + 2 ≤ 2; omega) (by show u2 + 12 ≤ 12; omega)) rfl rfl rfl (em77 a1 a2 (by decide) (by decide) x _ h2) ?_
      show Ev 200 (u1 + 2, u2 + 12) (26, [some (.ref 1), some (.int a1), some (.int a2), some (.ref 187), none], []) (hp N x5) _
      refine ev_run (n := 1) (u' := (u1 + 2, u2 + 12)) (f' := (27, [some (.ref 1), some (.int a1), some (.int a2), some (.ref 187), none], [.int 2])) (h' := hp N x5) rfl ?_
      cases h
      exact ev_iret rfl (end_u (by show _ ≤ 2; omega) (by show _ ≤ 12; omega)) rfl (Or.inl rfl)
    cases h
def gm201 (a1 : Int32) (x : Hs) : Option (Int32 × Hs) := (gm78 a1 x).bind fun w1 => match w1 with | (.inl v3, x5) => (cond (aIn 0 1) (some (0, (wJ x5 187 (xi 0) (Int32.toInt64 v3)))) none) | (.inr k4, x5) => (if k4 = 1 then (some (1, x5)) else (if k4 = 2 then (some (2, x5)) else (none)))
theorem em201 {N : Nat} {u1 u2 : Nat} (a1 : Int32) (hu1 : u1 + 2 ≤ 2) (hu2 : u2 + 12 ≤ 12) (x : Hs) (r : Int32 × Hs) (h : gm201 a1 x = some r) : Ev 201 (u1, u2) (0, aPad [.ref 1, .int a1, .ref 187] 4, []) (hp N x) (cvMi N r) := by
  show Ev 201 (u1, u2) (0, [some (.ref 1), some (.int a1), some (.ref 187), none], []) (hp N x) _
  unfold gm201 at h
  refine ev_run (n := 4) (u' := (u1, u2)) (f' := (4, [some (.ref 1), some (.int a1), some (.ref 187), none], [.int a1, .ref 1, .int 0, .ref 187])) (h' := hp N x) rfl ?_
  obtain ⟨w1, h2, h⟩ := bind_ok h
  obtain ⟨w1, x5⟩ := w1
  cases w1 with
  | inl v3 =>
    refine ev_call (v := some (.int v3)) (h1 := hp N x5) rfl rfl rfl (ok_u rfl (by show u1 + 2 ≤ 2; omega) (by show u2 + 12 ≤ 12; omega)) (em78 a1 (by decide) (by decide) x _ h2) ?_
    show Ev 201 (u1 + 2, u2 + 12) (7, [some (.ref 1), some (.int a1), some (.ref 187), none], [.int v3, .int 0, .ref 187]) (hp N x5) _
    refine ev_run (n := 1) (u' := (u1 + 2, u2 + 12)) (f' := (8, [some (.ref 1), some (.int a1), some (.ref 187), none], [.long (Int32.toInt64 v3), .int 0, .ref 187])) (h' := hp N x5) rfl ?_
    obtain ⟨h6, h⟩ := cond_some h
    refine ev_last rfl rfl h6 ?_
    show Ev 201 (u1 + 2, u2 + 12) (9, [some (.ref 1), some (.int a1), some (.ref 187), none], []) (hp N (wJ x5 187 (xi 0) (Int32.toInt64 v3))) _
    refine ev_run (n := 2) (u' := (u1 + 2, u2 + 12)) (f' := (19, [none, none, none, none], [.int 0])) (h' := hp N (wJ x5 187 (xi 0) (Int32.toInt64 v3))) rfl ?_
    cases h
    exact ev_iret rfl (end_u (by show _ ≤ 2; omega) (by show _ ≤ 12; omega)) rfl (Or.inl rfl)
  | inr k4 =>
    rcases ite_or h with ⟨h7, h⟩ | ⟨-, h⟩
    · subst h7
      refine ev_callH (h1 := hp N x5) (t0 := 12) (t := 13) (a := 3) rfl rfl rfl (ok_u rfl (by show u1 + 2 ≤ 2; omega) (by show u2 + 12 ≤ 12; omega)) rfl rfl rfl (em78 a1 (by decide) (by decide) x _ h2) ?_
      show Ev 201 (u1 + 2, u2 + 12) (13, [some (.ref 1), some (.int a1), some (.ref 187), none], []) (hp N x5) _
      refine ev_run (n := 1) (u' := (u1 + 2, u2 + 12)) (f' := (14, [some (.ref 1), some (.int a1), some (.ref 187), none], [.int 1])) (h' := hp N x5) rfl ?_
      cases h
      exact ev_iret rfl (end_u (by show _ ≤ 2; omega) (by show _ ≤ 12; omega)) rfl (Or.inl rfl)
    rcases ite_or h with ⟨h8, h⟩ | ⟨-, h⟩
    · subst h8
      refine ev_callH (h1 := hp N x5) (t0 := 15) (t := 16) (a := 3) rfl rfl rfl (ok_u rfl (by show u1 + 2 ≤ 2; omega) (by show u2 + 12 ≤ 12; omega)) rfl rfl rfl (em78 a1 (by decide) (by decide) x _ h2) ?_
      show Ev 201 (u1 + 2, u2 + 12) (16, [some (.ref 1), some (.int a1), some (.ref 187), none], []) (hp N x5) _
      refine ev_run (n := 1) (u' := (u1 + 2, u2 + 12)) (f' := (17, [some (.ref 1), some (.int a1), some (.ref 187), none], [.int 2])) (h' := hp N x5) rfl ?_
      cases h
      exact ev_iret rfl (end_u (by show _ ≤ 2; omega) (by show _ ≤ 12; omega)) rfl (Or.inl rfl)
    cases h
def gm202 (x : Hs) : Option (Int32 × Hs) := (gm79 x).bind fun w1 => match w1 with | (.inl v3, x5) => (cond (aIn 0 1) (some (0, (wJ x5 187 (xi 0) (Int32.toInt64 v3)))) none) | (.inr k4, x5) => (if k4 = 2 then (some (1, x5)) else (none))
theorem em202 {N : Nat} {u1 u2 : Nat} (hu1 : u1 + 1 ≤ 1) (hu2 : u2 + 6 ≤ 6) (x : Hs) (r : Int32 × Hs) (h : gm202 x = some r) : Ev 202 (u1, u2) (0, aPad [.ref 1, .ref 187] 3, []) (hp N x) (cvMi N r) := by
  show Ev 202 (u1, u2) (0, [some (.ref 1), some (.ref 187), none], []) (hp N x) _
  unfold gm202 at h
  refine ev_run (n := 3) (u' := (u1, u2)) (f' := (3, [some (.ref 1), some (.ref 187), none], [.ref 1, .int 0, .ref 187])) (h' := hp N x) rfl ?_
  obtain ⟨w1, h2, h⟩ := bind_ok h
  obtain ⟨w1, x5⟩ := w1
  cases w1 with
  | inl v3 =>
    refine ev_call (v := some (.int v3)) (h1 := hp N x5) rfl rfl rfl (ok_u rfl (by show u1 + 1 ≤ 1; omega) (by show u2 + 6 ≤ 6; omega)) (em79 (by decide) (by decide) x _ h2) ?_
    show Ev 202 (u1 + 1, u2 + 6) (6, [some (.ref 1), some (.ref 187), none], [.int v3, .int 0, .ref 187]) (hp N x5) _
    refine ev_run (n := 1) (u' := (u1 + 1, u2 + 6)) (f' := (7, [some (.ref 1), some (.ref 187), none], [.long (Int32.toInt64 v3), .int 0, .ref 187])) (h' := hp N x5) rfl ?_
    obtain ⟨h6, h⟩ := cond_some h
    refine ev_last rfl rfl h6 ?_
    show Ev 202 (u1 + 1, u2 + 6) (8, [some (.ref 1), some (.ref 187), none], []) (hp N (wJ x5 187 (xi 0) (Int32.toInt64 v3))) _
    refine ev_run (n := 2) (u' := (u1 + 1, u2 + 6)) (f' := (15, [none, none, none], [.int 0])) (h' := hp N (wJ x5 187 (xi 0) (Int32.toInt64 v3))) rfl ?_
    cases h
    exact ev_iret rfl (end_u (by show _ ≤ 1; omega) (by show _ ≤ 6; omega)) rfl (Or.inl rfl)
  | inr k4 =>
    rcases ite_or h with ⟨h7, h⟩ | ⟨-, h⟩
    · subst h7
      refine ev_callH (h1 := hp N x5) (t0 := 11) (t := 12) (a := 2) rfl rfl rfl (ok_u rfl (by show u1 + 1 ≤ 1; omega) (by show u2 + 6 ≤ 6; omega)) rfl rfl rfl (em79 (by decide) (by decide) x _ h2) ?_
      show Ev 202 (u1 + 1, u2 + 6) (12, [some (.ref 1), some (.ref 187), none], []) (hp N x5) _
      refine ev_run (n := 1) (u' := (u1 + 1, u2 + 6)) (f' := (13, [some (.ref 1), some (.ref 187), none], [.int 1])) (h' := hp N x5) rfl ?_
      cases h
      exact ev_iret rfl (end_u (by show _ ≤ 1; omega) (by show _ ≤ 6; omega)) rfl (Or.inl rfl)
    cases h
def gm203 (a1 : Int32) (a2 : Int32) (x : Hs) : Option (Int32 × Hs) := (gm80 a1 a2 x).bind fun w1 => match w1 with | (.inl v3, x5) => (cond (aIn 0 1) (some (0, (wJ x5 187 (xi 0) (Int32.toInt64 v3)))) none) | (.inr k4, x5) => (if k4 = 0 then (some (1, x5)) else (if k4 = 1 then (some (2, x5)) else (none)))
theorem em203 {N : Nat} {u1 u2 : Nat} (a1 : Int32) (a2 : Int32) (hu1 : u1 + 2 ≤ 2) (hu2 : u2 + 12 ≤ 12) (x : Hs) (r : Int32 × Hs) (h : gm203 a1 a2 x = some r) : Ev 203 (u1, u2) (0, aPad [.ref 1, .int a1, .int a2, .ref 187] 5, []) (hp N x) (cvMi N r) := by
  show Ev 203 (u1, u2) (0, [some (.ref 1), some (.int a1), some (.int a2), some (.ref 187), none], []) (hp N x) _
  unfold gm203 at h
  refine ev_run (n := 5) (u' := (u1, u2)) (f' := (5, [some (.ref 1), some (.int a1), some (.int a2), some (.ref 187), none], [.int a2, .int a1, .ref 1, .int 0, .ref 187])) (h' := hp N x) rfl ?_
  obtain ⟨w1, h2, h⟩ := bind_ok h
  obtain ⟨w1, x5⟩ := w1
  cases w1 with
  | inl v3 =>
    refine ev_call (v := some (.int v3)) (h1 := hp N x5) rfl rfl rfl (ok_u rfl (by show u1 + 2 ≤ 2; omega) (by show u2 + 12 ≤ 12; omega)) (em80 a1 a2 (by decide) (by decide) x _ h2) ?_
    show Ev 203 (u1 + 2, u2 + 12) (8, [some (.ref 1), some (.int a1), some (.int a2), some (.ref 187), none], [.int v3, .int 0, .ref 187]) (hp N x5) _
    refine ev_run (n := 1) (u' := (u1 + 2, u2 + 12)) (f' := (9, [some (.ref 1), some (.int a1), some (.int a2), some (.ref 187), none], [.long (Int32.toInt64 v3), .int 0, .ref 187])) (h' := hp N x5) rfl ?_
    obtain ⟨h6, h⟩ := cond_some h
    refine ev_last rfl rfl h6 ?_
    show Ev 203 (u1 + 2, u2 + 12) (10, [some (.ref 1), some (.int a1), some (.int a2), some (.ref 187), none], []) (hp N (wJ x5 187 (xi 0) (Int32.toInt64 v3))) _
    refine ev_run (n := 2) (u' := (u1 + 2, u2 + 12)) (f' := (22, [none, none, none, none, none], [.int 0])) (h' := hp N (wJ x5 187 (xi 0) (Int32.toInt64 v3))) rfl ?_
    cases h
    exact ev_iret rfl (end_u (by show _ ≤ 2; omega) (by show _ ≤ 12; omega)) rfl (Or.inl rfl)
  | inr k4 =>
    rcases ite_or h with ⟨h7, h⟩ | ⟨-, h⟩
    · subst h7
      refine ev_callH (h1 := hp N x5) (t0 := 13) (t := 15) (a := 4) rfl rfl rfl (ok_u rfl (by show u1 + 2 ≤ 2; omega) (by show u2 + 12 ≤ 12; omega)) rfl rfl rfl (em80 a1 a2 (by decide) (by decide) x _ h2) ?_
      show Ev 203 (u1 + 2, u2 + 12) (15, [some (.ref 1), some (.int a1), some (.int a2), some (.ref 187), none], []) (hp N x5) _
      refine ev_run (n := 1) (u' := (u1 + 2, u2 + 12)) (f' := (16, [some (.ref 1), some (.int a1), some (.int a2), some (.ref 187), none], [.int 1])) (h' := hp N x5) rfl ?_
      cases h
      exact ev_iret rfl (end_u (by show _ ≤ 2; omega) (by show _ ≤ 12; omega)) rfl (Or.inl rfl)
    rcases ite_or h with ⟨h8, h⟩ | ⟨-, h⟩
    · subst h8
      refine ev_callH (h1 := hp N x5) (t0 := 17) (t := 19) (a := 4) rfl rfl rfl (ok_u rfl (by show u1 + 2 ≤ 2; omega) (by show u2 + 12 ≤ 12; omega)) rfl rfl rfl (em80 a1 a2 (by decide) (by decide) x _ h2) ?_
      show Ev 203 (u1 + 2, u2 + 12) (19, [some (.ref 1), some (.int a1), some (.int a2), some (.ref 187), none], []) (hp N x5) _
      refine ev_run (n := 1) (u' := (u1 + 2, u2 + 12)) (f' := (20, [some (.ref 1), some (.int a1), some (.int a2), some (.ref 187), none], [.int 2])) (h' := hp N x5) rfl ?_
      cases h
      exact ev_iret rfl (end_u (by show _ ≤ 2; omega) (by show _ ≤ 12; omega)) rfl (Or.inl rfl)
    cases h
def gm204 (a1 : Int32) (a2 : Int32) (x : Hs) : Option (Int32 × Hs) := (gm81 a1 a2 x).bind fun w1 => match w1 with | (.inl v3, x5) => (cond (aIn 0 1) (some (0, (wJ x5 187 (xi 0) (Int32.toInt64 v3)))) none) | (.inr k4, x5) => (if k4 = 0 then (some (1, x5)) else (if k4 = 1 then (some (2, x5)) else (if k4 = 2 then (some (3, x5)) else (none))))
theorem em204 {N : Nat} {u1 u2 : Nat} (a1 : Int32) (a2 : Int32) (hu1 : u1 + 3 ≤ 3) (hu2 : u2 + 18 ≤ 18) (x : Hs) (r : Int32 × Hs) (h : gm204 a1 a2 x = some r) : Ev 204 (u1, u2) (0, aPad [.ref 1, .int a1, .int a2, .ref 187] 5, []) (hp N x) (cvMi N r) := by
  show Ev 204 (u1, u2) (0, [some (.ref 1), some (.int a1), some (.int a2), some (.ref 187), none], []) (hp N x) _
  unfold gm204 at h
  refine ev_run (n := 5) (u' := (u1, u2)) (f' := (5, [some (.ref 1), some (.int a1), some (.int a2), some (.ref 187), none], [.int a2, .int a1, .ref 1, .int 0, .ref 187])) (h' := hp N x) rfl ?_
  obtain ⟨w1, h2, h⟩ := bind_ok h
  obtain ⟨w1, x5⟩ := w1
  cases w1 with
  | inl v3 =>
    refine ev_call (v := some (.int v3)) (h1 := hp N x5) rfl rfl rfl (ok_u rfl (by show u1 + 3 ≤ 3; omega) (by show u2 + 18 ≤ 18; omega)) (em81 a1 a2 (by decide) (by decide) x _ h2) ?_
    show Ev 204 (u1 + 3, u2 + 18) (8, [some (.ref 1), some (.int a1), some (.int a2), some (.ref 187), none], [.int v3, .int 0, .ref 187]) (hp N x5) _
    refine ev_run (n := 1) (u' := (u1 + 3, u2 + 18)) (f' := (9, [some (.ref 1), some (.int a1), some (.int a2), some (.ref 187), none], [.long (Int32.toInt64 v3), .int 0, .ref 187])) (h' := hp N x5) rfl ?_
    obtain ⟨h6, h⟩ := cond_some h
    refine ev_last rfl rfl h6 ?_
    show Ev 204 (u1 + 3, u2 + 18) (10, [some (.ref 1), some (.int a1), some (.int a2), some (.ref 187), none], []) (hp N (wJ x5 187 (xi 0) (Int32.toInt64 v3))) _
    refine ev_run (n := 2) (u' := (u1 + 3, u2 + 18)) (f' := (26, [none, none, none, none, none], [.int 0])) (h' := hp N (wJ x5 187 (xi 0) (Int32.toInt64 v3))) rfl ?_
    cases h
    exact ev_iret rfl (end_u (by show _ ≤ 3; omega) (by show _ ≤ 18; omega)) rfl (Or.inl rfl)
  | inr k4 =>
    rcases ite_or h with ⟨h7, h⟩ | ⟨-, h⟩
    · subst h7
      refine ev_callH (h1 := hp N x5) (t0 := 13) (t := 15) (a := 4) rfl rfl rfl (ok_u rfl (by show u1 + 3 ≤ 3; omega) (by show u2 + 18 ≤ 18; omega)) rfl rfl rfl (em81 a1 a2 (by decide) (by decide) x _ h2) ?_
      show Ev 204 (u1 + 3, u2 + 18) (15, [some (.ref 1), some (.int a1), some (.int a2), some (.ref 187), none], []) (hp N x5) _
      refine ev_run (n := 1) (u' := (u1 + 3, u2 + 18)) (f' := (16, [some (.ref 1), some (.int a1), some (.int a2), some (.ref 187), none], [.int 1])) (h' := hp N x5) rfl ?_
      cases h
      exact ev_iret rfl (end_u (by show _ ≤ 3; omega) (by show _ ≤ 18; omega)) rfl (Or.inl rfl)
    rcases ite_or h with ⟨h8, h⟩ | ⟨-, h⟩
    · subst h8
      refine ev_callH (h1 := hp N x5) (t0 := 17) (t := 19) (a := 4) rfl rfl rfl (ok_u rfl (by show u1 + 3 ≤ 3; omega) (by show u2 + 18 ≤ 18; omega)) rfl rfl rfl (em81 a1 a2 (by decide) (by decide) x _ h2) ?_
      show Ev 204 (u1 + 3, u2 + 18) (19, [some (.ref 1), some (.int a1), some (.int a2), some (.ref 187), none], []) (hp N x5) _
      refine ev_run (n := 1) (u' := (u1 + 3, u2 + 18)) (f' := (20, [some (.ref 1), some (.int a1), some (.int a2), some (.ref 187), none], [.int 2])) (h' := hp N x5) rfl ?_
      cases h
      exact ev_iret rfl (end_u (by show _ ≤ 3; omega) (by show _ ≤ 18; omega)) rfl (Or.inl rfl)
    rcases ite_or h with ⟨h9, h⟩ | ⟨-, h⟩
    · subst h9
      refine ev_callH (h1 := hp N x5) (t0 := 21) (t := 23) (a := 4) rfl rfl rfl (ok_u rfl (by show u1 + 3 ≤ 3; omega) (by show u2 + 18 ≤ 18; omega)) rfl rfl rfl (em81 a1 a2 (by decide) (by decide) x _ h2) ?_
      show Ev 204 (u1 + 3, u2 + 18) (23, [some (.ref 1), some (.int a1), some (.int a2), some (.ref 187), none], []) (hp N x5) _
      refine ev_run (n := 1) (u' := (u1 + 3, u2 + 18)) (f' := (24, [some (.ref 1), some (.int a1), some (.int a2), some (.ref 187), none], [.int 3])) (h' := hp N x5) rfl ?_
      cases h
      exact ev_iret rfl (end_u (by show _ ≤ 3; omega) (by show _ ≤ 18; omega)) rfl (Or.inl rfl)
    cases h
def gm205 (a1 : Int32) (a2 : Int32) (x : Hs) : Option (Int32 × Hs) := (gm82 a1 a2 x).bind fun w1 => match w1 with | (.inl v3, x5) => (cond (aIn 0 1) (some (0, (wJ x5 187 (xi 0) (Int32.toInt64 v3)))) none) | (.inr k4, x5) => (if k4 = 0 then (some (1, x5)) else (if k4 = 2 then (some (2, x5)) else (none)))
theorem em205 {N : Nat} {u1 u2 : Nat} (a1 : Int32) (a2 : Int32) (hu1 : u1 + 3 ≤ 3) (hu2 : u2 + 18 ≤ 18) (x : Hs) (r : Int32 × Hs) (h : gm205 a1 a2 x = some r) : Ev 205 (u1, u2) (0, aPad [.ref 1, .int a1, .int a2, .ref 187] 5, []) (hp N x) (cvMi N r) := by
  show Ev 205 (u1, u2) (0, [some (.ref 1), some (.int a1), some (.int a2), some (.ref 187), none], []) (hp N x) _
  unfold gm205 at h
  refine ev_run (n := 5) (u' := (u1, u2)) (f' := (5, [some (.ref 1), some (.int a1), some (.int a2), some (.ref 187), none], [.int a2, .int a1, .ref 1, .int 0, .ref 187])) (h' := hp N x) rfl ?_
  obtain ⟨w1, h2, h⟩ := bind_ok h
  obtain ⟨w1, x5⟩ := w1
  cases w1 with
  | inl v3 =>
    refine ev_call (v := some (.int v3)) (h1 := hp N x5) rfl rfl rfl (ok_u rfl (by show u1 + 3 ≤ 3; omega) (by show u2 + 18 ≤ 18; omega)) (em82 a1 a2 (by decide) (by decide) x _ h2) ?_
    show Ev 205 (u1 + 3, u2 + 18) (8, [some (.ref 1), some (.int a1), some (.int a2), some (.ref 187), none], [.int v3, .int 0, .ref 187]) (hp N x5) _
    refine ev_run (n := 1) (u' := (u1 + 3, u2 + 18)) (f' := (9, [some (.ref 1), some (.int a1), some (.int a2), some (.ref 187), none], [.long (Int32.toInt64 v3), .int 0, .ref 187])) (h' := hp N x5) rfl ?_
    obtain ⟨h6, h⟩ := cond_some h
    refine ev_last rfl rfl h6 ?_
    show Ev 205 (u1 + 3, u2 + 18) (10, [some (.ref 1), some (.int a1), some (.int a2), some (.ref 187), none], []) (hp N (wJ x5 187 (xi 0) (Int32.toInt64 v3))) _
    refine ev_run (n := 2) (u' := (u1 + 3, u2 + 18)) (f' := (22, [none, none, none, none, none], [.int 0])) (h' := hp N (wJ x5 187 (xi 0) (Int32.toInt64 v3))) rfl ?_
    cases h
    exact ev_iret rfl (end_u (by show _ ≤ 3; omega) (by show _ ≤ 18; omega)) rfl (Or.inl rfl)
  | inr k4 =>
    rcases ite_or h with ⟨h7, h⟩ | ⟨-, h⟩
    · subst h7
      refine ev_callH (h1 := hp N x5) (t0 := 13) (t := 15) (a := 4) rfl rfl rfl (ok_u rfl (by show u1 + 3 ≤ 3; omega) (by show u2 + 18 ≤ 18; omega)) rfl rfl rfl (em82 a1 a2 (by decide) (by decide) x _ h2) ?_
      show Ev 205 (u1 + 3, u2 + 18) (15, [some (.ref 1), some (.int a1), some (.int a2), some (.ref 187), none], []) (hp N x5) _
      refine ev_run (n := 1) (u' := (u1 + 3, u2 + 18)) (f' := (16, [some (.ref 1), some (.int a1), some (.int a2), some (.ref 187), none], [.int 1])) (h' := hp N x5) rfl ?_
      cases h
      exact ev_iret rfl (end_u (by show _ ≤ 3; omega) (by show _ ≤ 18; omega)) rfl (Or.inl rfl)
    rcases ite_or h with ⟨h8, h⟩ | ⟨-, h⟩
    · subst h8
      refine ev_callH (h1 := hp N x5) (t0 := 17) (t := 19) (a := 4) rfl rfl rfl (ok_u rfl (by show u1 + 3 ≤ 3; omega) (by show u2 + 18 ≤ 18; omega)) rfl rfl rfl (em82 a1 a2 (by decide) (by decide) x _ h2) ?_
      show Ev 205 (u1 + 3, u2 + 18) (19, [some (.ref 1), some (.int a1), some (.int a2), some (.ref 187), none], []) (hp N x5) _
      refine ev_run (n := 1) (u' := (u1 + 3, u2 + 18)) (f' := (20, [some (.ref 1), some (.int a1), some (.int a2), some (.ref 187), none], [.int 2])) (h' := hp N x5) rfl ?_
      cases h
      exact ev_iret rfl (end_u (by show _ ≤ 3; omega) (by show _ ≤ 18; omega)) rfl (Or.inl rfl)
    cases h
def gm206 (a1 : Int32) (x : Hs) : Option (Int32 × Hs) := (gm83 a1 x).bind fun w1 => match w1 with | (.inl v3, x5) => (cond (aIn 0 1) (some (0, (wJ x5 187 (xi 0) (Int32.toInt64 v3)))) none) | (.inr k4, x5) => (if k4 = 0 then (some (1, x5)) else (if k4 = 2 then (some (2, x5)) else (none)))
theorem em206 {N : Nat} {u1 u2 : Nat} (a1 : Int32) (hu1 : u1 + 2 ≤ 2) (hu2 : u2 + 12 ≤ 12) (x : Hs) (r : Int32 × Hs) (h : gm206 a1 x = some r) : Ev 206 (u1, u2) (0, aPad [.ref 1, .int a1, .ref 187] 4, []) (hp N x) (cvMi N r) := by
  show Ev 206 (u1, u2) (0, [some (.ref 1), some (.int a1), some (.ref 187), none], []) (hp N x) _
  unfold gm206 at h
  refine ev_run (n := 4) (u' := (u1, u2)) (f' := (4, [some (.ref 1), some (.int a1), some (.ref 187), none], [.int a1, .ref 1, .int 0, .ref 187])) (h' := hp N x) rfl ?_
  obtain ⟨w1, h2, h⟩ := bind_ok h
  obtain ⟨w1, x5⟩ := w1
  cases w1 with
  | inl v3 =>
    refine ev_call (v := some (.int v3)) (h1 := hp N x5) rfl rfl rfl (ok_u rfl (by show u1 + 2 ≤ 2; omega) (by show u2 + 12 ≤ 12; omega)) (em83 a1 (by decide) (by decide) x _ h2) ?_
    show Ev 206 (u1 + 2, u2 + 12) (7, [some (.ref 1), some (.int a1), some (.ref 187), none], [.int v3, .int 0, .ref 187]) (hp N x5) _
    refine ev_run (n := 1) (u' := (u1 + 2, u2 + 12)) (f' := (8, [some (.ref 1), some (.int a1), some (.ref 187), none], [.long (Int32.toInt64 v3), .int 0, .ref 187])) (h' := hp N x5) rfl ?_
    obtain ⟨h6, h⟩ := cond_some h
    refine ev_last rfl rfl h6 ?_
    show Ev 206 (u1 + 2, u2 + 12) (9, [some (.ref 1), some (.int a1), some (.ref 187), none], []) (hp N (wJ x5 187 (xi 0) (Int32.toInt64 v3))) _
    refine ev_run (n := 2) (u' := (u1 + 2, u2 + 12)) (f' := (19, [none, none, none, none], [.int 0])) (h' := hp N (wJ x5 187 (xi 0) (Int32.toInt64 v3))) rfl ?_
    cases h
    exact ev_iret rfl (end_u (by show _ ≤ 2; omega) (by show _ ≤ 12; omega)) rfl (Or.inl rfl)
  | inr k4 =>
    rcases ite_or h with ⟨h7, h⟩ | ⟨-, h⟩
    · subst h7
      refine ev_callH (h1 := hp N x5) (t0 := 12) (t := 13) (a := 3) rfl rfl rfl (ok_u rfl (by show u1 + 2 ≤ 2; omega) (by show u2 + 12 ≤ 12; omega)) rfl rfl rfl (em83 a1 (by decide) (by decide) x _ h2) ?_
      show Ev 206 (u1 + 2, u2 + 12) (13, [some (.ref 1), some (.int a1), some (.ref 187), none], []) (hp N x5) _
      refine ev_run (n := 1) (u' := (u1 + 2, u2 + 12)) (f' := (14, [some (.ref 1), some (.int a1), some (.ref 187), none], [.int 1])) (h' := hp N x5) rfl ?_
      cases h
      exact ev_iret rfl (end_u (by show _ ≤ 2; omega) (by show _ ≤ 12; omega)) rfl (Or.inl rfl)
    rcases ite_or h with ⟨h8, h⟩ | ⟨-, h⟩
    · subst h8
      refine ev_callH (h1 := hp N x5) (t0 := 15) (t := 16) (a := 3) rfl rfl rfl (ok_u rfl (by show u1 + 2 ≤ 2; omega) (by show u2 + 12 ≤ 12; omega)) rfl rfl rfl (em83 a1 (by decide) (by decide) x _ h2) ?_
      show Ev 206 (u1 + 2, u2 + 12) (16, [some (.ref 1), some (.int a1), some (.ref 187), none], []) (hp N x5) _
      refine ev_run (n := 1) (u' := (u1 + 2, u2 + 12)) (f' := (17, [some (.ref 1), some (.int a1), some (.ref 187), none], [.int 2])) (h' := hp N x5) rfl ?_
      cases h
      exact ev_iret rfl (end_u (by show _ ≤ 2; omega) (by show _ ≤ 12; omega)) rfl (Or.inl rfl)
    cases h
def gm207 (a1 : Int32) (a2 : Int32) (x : Hs) : Option (Int32 × Hs) := (gm84 a1 a2 x).bind fun w1 => match w1 with | (.inl v3, x5) => (cond (aIn 0 1) (some (0, (wJ x5 187 (xi 0) (Int32.toInt64 v3)))) none) | (.inr k4, x5) => (if k4 = 0 then (some (1, x5)) else (if k4 = 1 then (some (2, x5)) else (none)))
theorem em207 {N : Nat} {u1 u2 : Nat} (a1 : Int32) (a2 : Int32) (hu1 : u1 + 2 ≤ 2) (hu2 : u2 + 12 ≤ 12) (x : Hs) (r : Int32 × Hs) (h : gm207 a1 a2 x = some r) : Ev 207 (u1, u2) (0, aPad [.ref 1, .int a1, .int a2, .ref 187] 5, []) (hp N x) (cvMi N r) := by
  show Ev 207 (u1, u2) (0, [some (.ref 1), some (.int a1), some (.int a2), some (.ref 187), none], []) (hp N x) _
  unfold gm207 at h
  refine ev_run (n := 5) (u' := (u1, u2)) (f' := (5, [some (.ref 1), some (.int a1), some (.int a2), some (.ref 187), none], [.int a2, .int a1, .ref 1, .int 0, .ref 187])) (h' := hp N x) rfl ?_
  obtain ⟨w1, h2, h⟩ := bind_ok h
  obtain ⟨w1, x5⟩ := w1
  cases w1 with
  | inl v3 =>
    refine ev_call (v := some (.int v3)) (h1 := hp N x5) rfl rfl rfl (ok_u rfl (by show u1 + 2 ≤ 2; omega) (by show u2 + 12 ≤ 12; omega)) (em84 a1 a2 (by decide) (by decide) x _ h2) ?_
    show Ev 207 (u1 + 2, u2 + 12) (8, [some (.ref 1), some (.int a1), some (.int a2), some (.ref 187), none], [.int v3, .int 0, .ref 187]) (hp N x5) _
    refine ev_run (n := 1) (u' := (u1 + 2, u2 + 12)) (f' := (9, [some (.ref 1), some (.int a1), some (.int a2), some (.ref 187), none], [.long (Int32.toInt64 v3), .int 0, .ref 187])) (h' := hp N x5) rfl ?_
    obtain ⟨h6, h⟩ := cond_some h
    refine ev_last rfl rfl h6 ?_
    show Ev 207 (u1 + 2, u2 + 12) (10, [some (.ref 1), some (.int a1), some (.int a2), some (.ref 187), none], []) (hp N (wJ x5 187 (xi 0) (Int32.toInt64 v3))) _
    refine ev_run (n := 2) (u' := (u1 + 2, u2 + 12)) (f' := (22, [none, none, none, none, none], [.int 0])) (h' := hp N (wJ x5 187 (xi 0) (Int32.toInt64 v3))) rfl ?_
    cases h
    exact ev_iret rfl (end_u (by show _ ≤ 2; omega) (by show _ ≤ 12; omega)) rfl (Or.inl rfl)
  | inr k4 =>
    rcases ite_or h with ⟨h7, h⟩ | ⟨-, h⟩
    · subst h7
      refine ev_callH (h1 := hp N x5) (t0 := 13) (t := 15) (a := 4) rfl rfl rfl (ok_u rfl (by show u1 + 2 ≤ 2; omega) (by show u2 + 12 ≤ 12; omega)) rfl rfl rfl (em84 a1 a2 (by decide) (by decide) x _ h2) ?_
      show Ev 207 (u1 + 2, u2 + 12) (15, [some (.ref 1), some (.int a1), some (.int a2), some (.ref 187), none], []) (hp N x5) _
      refine ev_run (n := 1) (u' := (u1 + 2, u2 + 12)) (f' := (16, [some (.ref 1), some (.int a1), some (.int a2), some (.ref 187), none], [.int 1])) (h' := hp N x5) rfl ?_
      cases h
      exact ev_iret rfl (end_u (by show _ ≤ 2; omega) (by show _ ≤ 12; omega)) rfl (Or.inl rfl)
    rcases ite_or h with ⟨h8, h⟩ | ⟨-, h⟩
    · subst h8
      refine ev_callH (h1 := hp N x5) (t0 := 17) (t := 19) (a := 4) rfl rfl rfl (ok_u rfl (by show u1 + 2 ≤ 2; omega) (by show u2 + 12 ≤ 12; omega)) rfl rfl rfl (em84 a1 a2 (by decide) (by decide) x _ h2) ?_
      show Ev 207 (u1 + 2, u2 + 12) (19, [some (.ref 1), some (.int a1), some (.int a2), some (.ref 187), none], []) (hp N x5) _
      refine ev_run (n := 1) (u' := (u1 + 2, u2 + 12)) (f' := (20, [some (.ref 1), some (.int a1), some (.int a2), some (.ref 187), none], [.int 2])) (h' := hp N x5) rfl ?_
      cases h
      exact ev_iret rfl (end_u (by show _ ≤ 2; omega) (by show _ ≤ 12; omega)) rfl (Or.inl rfl)
    cases h
def gm208 (a1 : Int32) (x : Hs) : Option (Int32 × Hs) := (gm85 a1 x).bind fun w1 => match w1 with | (.inl v3, x5) => (cond (aIn 0 1) (some (0, (wJ x5 187 (xi 0) (Int32.toInt64 v3)))) none) | (.inr k4, x5) => (if k4 = 1 then (some (1, x5)) else (if k4 = 2 then (some (2, x5)) else (none)))
theorem em208 {N : Nat} {u1 u2 : Nat} (a1 : Int32) (hu1 : u1 + 2 ≤ 2) (hu2 : u2 + 12 ≤ 12) (x : Hs) (r : Int32 × Hs) (h : gm208 a1 x = some r) : Ev 208 (u1, u2) (0, aPad [.ref 1, .int a1, .ref 187] 4, []) (hp N x) (cvMi N r) := by
  show Ev 208 (u1, u2) (0, [some (.ref 1), some (.int a1), some (.ref 187), none], []) (hp N x) _
  unfold gm208 at h
  refine ev_run (n := 4) (u' := (u1, u2)) (f' := (4, [some (.ref 1), some (.int a1), some (.ref 187), none], [.int a1, .ref 1, .int 0, .ref 187])) (h' := hp N x) rfl ?_
  obtain ⟨w1, h2, h⟩ := bind_ok h
  obtain ⟨w1, x5⟩ := w1
  cases w1 with
  | inl v3 =>
    refine ev_call (v := some (.int v3)) (h1 := hp N x5) rfl rfl rfl (ok_u rfl (by show u1 + 2 ≤ 2; omega) (by show u2 + 12 ≤ 12; omega)) (em85 a1 (by decide) (by decide) x _ h2) ?_
    show Ev 208 (u1 + 2, u2 + 12) (7, [some (.ref 1), some (.int a1), some (.ref 187), none], [.int v3, .int 0, .ref 187]) (hp N x5) _
    refine ev_run (n := 1) (u' := (u1 + 2, u2 + 12)) (f' := (8, [some (.ref 1), some (.int a1), some (.ref 187), none], [.long (Int32.toInt64 v3), .int 0, .ref 187])) (h' := hp N x5) rfl ?_
    obtain ⟨h6, h⟩ := cond_some h
    refine ev_last rfl rfl h6 ?_
    show Ev 208 (u1 + 2, u2 + 12) (9, [some (.ref 1), some (.int a1), some (.ref 187), none], []) (hp N (wJ x5 187 (xi 0) (Int32.toInt64 v3))) _
    refine ev_run (n := 2) (u' := (u1 + 2, u2 + 12)) (f' := (19, [none, none, none, none], [.int 0])) (h' := hp N (wJ x5 187 (xi 0) (Int32.toInt64 v3))) rfl ?_
    cases h
    exact ev_iret rfl (end_u (by show _ ≤ 2; omega) (by show _ ≤ 12; omega)) rfl (Or.inl rfl)
  | inr k4 =>
    rcases ite_or h with ⟨h7, h⟩ | ⟨-, h⟩
    · subst h7
      refine ev_callH (h1 := hp N x5) (t0 := 12) (t := 13) (a := 3) rfl rfl rfl (ok_u rfl (by show u1 + 2 ≤ 2; omega) (by show u2 + 12 ≤ 12; omega)) rfl rfl rfl (em85 a1 (by decide) (by decide) x _ h2) ?_
      show Ev 208 (u1 + 2, u2 + 12) (13, [some (.ref 1), some (.int a1), some (.ref 187), none], []) (hp N x5) _
      refine ev_run (n := 1) (u' := (u1 + 2, u2 + 12)) (f' := (14, [some (.ref 1), some (.int a1), some (.ref 187), none], [.int 1])) (h' := hp N x5) rfl ?_
      cases h
      exact ev_iret rfl (end_u (by show _ ≤ 2; omega) (by show _ ≤ 12; omega)) rfl (Or.inl rfl)
    rcases ite_or h with ⟨h8, h⟩ | ⟨-, h⟩
    · subst h8
      refine ev_callH (h1 := hp N x5) (t0 := 15) (t := 16) (a := 3) rfl rfl rfl (ok_u rfl (by show u1 + 2 ≤ 2; omega) (by show u2 + 12 ≤ 12; omega)) rfl rfl rfl (em85 a1 (by decide) (by decide) x _ h2) ?_
      show Ev 208 (u1 + 2, u2 + 12) (16, [some (.ref 1), some (.int a1), some (.ref 187), none], []) (hp N x5) _
      refine ev_run (n := 1) (u' := (u1 + 2, u2 + 12)) (f' := (17, [some (.ref 1), some (.int a1), some (.ref 187), none], [.int 2])) (h' := hp N x5) rfl ?_
      cases h
      exact ev_iret rfl (end_u (by show _ ≤ 2; omega) (by show _ ≤ 12; omega)) rfl (Or.inl rfl)
    cases h
def gm209 (a1 : Int32) (a2 : Int32) (a3 : Int32) (x : Hs) : Option (Int32 × Hs) := (gm86 a1 a2 a3 x).bind fun w1 => match w1 with | (.inl v3, x5) => (cond (aIn 0 1) (some (0, (wJ x5 187 (xi 0) (Int32.toInt64 v3)))) none) | (.inr k4, x5) => (if k4 = 0 then (some (1, x5)) else (if k4 = 1 then (some (2, x5)) else (none)))
theorem em209 {N : Nat} {u1 u2 : Nat} (a1 : Int32) (a2 : Int32) (a3 : Int32) (hu1 : u1 + 3 ≤ 3) (hu2 : u2 + 18 ≤ 18) (x : Hs) (r : Int32 × Hs) (h : gm209 a1 a2 a3 x = some r) : Ev 209 (u1, u2) (0, aPad [.ref 1, .int a1, .int a2, .int a3, .ref 187] 6, []) (hp N x) (cvMi N r) := by
  show Ev 209 (u1, u2) (0, [some (.ref 1), some (.int a1), some (.int a2), some (.int a3), some (.ref 187), none], []) (hp N x) _
  unfold gm209 at h
  refine ev_run (n := 6) (u' := (u1, u2)) (f' := (7, [some (.ref 1), some (.int a1), some (.int a2), some (.int a3), some (.ref 187), none], [.int a3, .int a2, .int a1, .ref 1, .int 0, .ref 187])) (h' := hp N x) rfl ?_
  obtain ⟨w1, h2, h⟩ := bind_ok h
  obtain ⟨w1, x5⟩ := w1
  cases w1 with
  | inl v3 =>
    refine ev_call (v := some (.int v3)) (h1 := hp N x5) rfl rfl rfl (ok_u rfl (by show u1 + 3 ≤ 3; omega) (by show u2 + 18 ≤ 18; omega)) (em86 a1 a2 a3 (by decide) (by decide) x _ h2) ?_
    show Ev 209 (u1 + 3, u2 + 18) (10, [some (.ref 1), some (.int a1), some (.int a2), some (.int a3), some (.ref 187), none], [.int v3, .int 0, .ref 187]) (hp N x5) _
    refine ev_run (n := 1) (u' := (u1 + 3, u2 + 18)) (f' := (11, [some (.ref 1), some (.int a1), some (.int a2), some (.int a3), some (.ref 187), none], [.long (Int32.toInt64 v3), .int 0, .ref 187])) (h' := hp N x5) rfl ?_
    obtain ⟨h6, h⟩ := cond_some h
    refine ev_last rfl rfl h6 ?_
    show Ev 209 (u1 + 3, u2 + 18) (12, [some (.ref 1), some (.int a1), some (.int a2), some (.int a3), some (.ref 187), none], []) (hp N (wJ x5 187 (xi 0) (Int32.toInt64 v3))) _
    refine ev_run (n := 2) (u' := (u1 + 3, u2 + 18)) (f' := (24, [none, none, none, none, none, none], [.int 0])) (h' := hp N (wJ x5 187 (xi 0) (Int32.toInt64 v3))) rfl ?_
    cases h
    exact ev_iret rfl (end_u (by show _ ≤ 3; omega) (by show _ ≤ 18; omega)) rfl (Or.inl rfl)
  | inr k4 =>
    rcases ite_or h with ⟨h7, h⟩ | ⟨-, h⟩
    · subst h7
      refine ev_callH (h1 := hp N x5) (t0 := 15) (t := 17) (a := 5) rfl rfl rfl (ok_u rfl (by show u1 + 3 ≤ 3; omega) (by show u2 + 18 ≤ 18; omega)) rfl rfl rfl (em86 a1 a2 a3 (by decide) (by decide) x _ h2) ?_
      show Ev 209 (u1 + 3, u2 + 18) (17, [some (.ref 1), some (.int a1), some (.int a2), some (.int a3), some (.ref 187), none], []) (hp N x5) _
      refine ev_run (n := 1) (u' := (u1 + 3, u2 + 18)) (f' := (18, [some (.ref 1), some (.int a1), some (.int a2), some (.int a3), some (.ref 187), none], [.int 1])) (h' := hp N x5) rfl ?_
      cases h
      exact ev_iret rfl (end_u (by show _ ≤ 3; omega) (by show _ ≤ 18; omega)) rfl (Or.inl rfl)
    rcases ite_or h with ⟨h8, h⟩ | ⟨-, h⟩
    · subst h8
      refine ev_callH (h1 := hp N x5) (t0 := 19) (t := 21) (a := 5) rfl rfl rfl (ok_u rfl (by show u1 + 3 ≤ 3; omega) (by show u2 + 18 ≤ 18; omega)) rfl rfl rfl (em86 a1 a2 a3 (by decide) (by decide) x _ h2) ?_
      show Ev 209 (u1 + 3, u2 + 18) (21, [some (.ref 1), some (.int a1), some (.int a2), some (.int a3), some (.ref 187), none], []) (hp N x5) _
      refine ev_run (n := 1) (u' := (u1 + 3, u2 + 18)) (f' := (22, [some (.ref 1), some (.int a1), some (.int a2), some (.int a3), some (.ref 187), none], [.int 2])) (h' := hp N x5) rfl ?_
      cases h
      exact ev_iret rfl (end_u (by show _ ≤ 3; omega) (by show _ ≤ 18; omega)) rfl (Or.inl rfl)
    cases h
def gm210_15 (s1 : Int32) (s2 : Int64) (x : Hs) : Option (Int32 × Hs) := cond (aIn s1 1) (some (0, (wJ x 187 (xi s1) s2))) none
theorem em210_15 {N : Nat} {u1 u2 : Nat} (s1 : Int32) (s2 : Int64) (hu1 : u1 + 0 ≤ 1) (hu2 : u2 + 0 ≤ 6) (x : Hs) (r : Int32 × Hs) (h : gm210_15 s1 s2 x = some r) : Ev 210 (u1, u2) (15, [none, none, none, none], [.long s2, .int s1, .ref 187]) (hp N x) (cvMi N r) := by
  unfold gm210_15 at h
  obtain ⟨h8, h⟩ := cond_some h
  refine ev_last rfl rfl h8 ?_
  show Ev 210 (u1, u2) (16, [none, none, none, none], []) (hp N (wJ x 187 (xi s1) s2)) _
  refine ev_run (n := 2) (u' := (u1, u2)) (f' := (23, [none, none, none, none], [.int 0])) (h' := hp N (wJ x 187 (xi s1) s2)) rfl ?_
  cases h
  exact ev_iret rfl (end_u (by show _ ≤ 1; omega) (by show _ ≤ 6; omega)) rfl (Or.inl rfl)
def gm210 (a1 : Int32) (x : Hs) : Option (Int32 × Hs) := (gm87 a1 x).bind fun w1 => match w1 with | (.inl v3, x5) => (if v3 = 0 then (gm210_15 0 0 x5) else (gm210_15 0 1 x5)) | (.inr k4, x5) => (if k4 = 0 then (some (1, x5)) else (none))
theorem em210 {N : Nat} {u1 u2 : Nat} (a1 : Int32) (hu1 : u1 + 1 ≤ 1) (hu2 : u2 + 6 ≤ 6) (x : Hs) (r : Int32 × Hs) (h : gm210 a1 x = some r) : Ev 210 (u1, u2) (0, aPad [.ref 1, .int a1, .ref 187] 4, []) (hp N x) (cvMi N r) := by
  show Ev 210 (u1, u2) (0, [some (.ref 1), some (.int a1), some (.ref 187), none], []) (hp N x) _
  unfold gm210 at h
  refine ev_run (n := 4) (u' := (u1, u2)) (f' := (4, [some (.ref 1), some (.int a1), some (.ref 187), none], [.int a1, .ref 1, .int 0, .ref 187])) (h' := hp N x) rfl ?_
  obtain ⟨w1, h2, h⟩ := bind_ok h
  obtain ⟨w1, x5⟩ := w1
  cases w1 with
  | inl v3 =>
    refine ev_call (v := some (.int v3)) (h1 := hp N x5) rfl rfl rfl (ok_u rfl (by show u1 + 1 ≤ 1; omega) (by show u2 + 6 ≤ 6; omega)) (em87 a1 (by decide) (by decide) x _ h2) ?_
    show Ev 210 (u1 + 1, u2 + 6) (7, [some (.ref 1), some (.int a1), some (.ref 187), none], [.int v3, .int 0, .ref 187]) (hp N x5) _
    rcases ite_or h with ⟨h6, h⟩ | ⟨h6, h⟩
    · refine ev_ift rfl (decide_eq_true h6) ?_
      refine ev_run (n := 1) (u' := (u1 + 1, u2 + 6)) (f' := (15, [none, none, none, none], [.long 0, .int 0, .ref 187])) (h' := hp N x5) rfl ?_
      exact em210_15 0 0 (by omega) (by omega) x5 _ h
    · refine ev_iff rfl (decide_eq_false h6) ?_
      refine ev_run (n := 2) (u' := (u1 + 1, u2 + 6)) (f' := (15, [none, none, none, none], [.long 1, .int 0, .ref 187])) (h' := hp N x5) rfl ?_
      exact em210_15 0 1 (by omega) (by omega) x5 _ h
  | inr k4 =>
    rcases ite_or h with ⟨h7, h⟩ | ⟨-, h⟩
    · subst h7
      refine ev_callH (h1 := hp N x5) (t0 := 19) (t := 20) (a := 3) rfl rfl rfl (ok_u rfl (by show u1 + 1 ≤ 1; omega) (by show u2 + 6 ≤ 6; omega)) rfl rfl rfl (em87 a1 (by decide) (by decide) x _ h2) ?_
      show Ev 210 (u1 + 1, u2 + 6) (20, [some (.ref 1), some (.int a1), some (.ref 187), none], []) (hp N x5) _
      refine ev_run (n := 1) (u' := (u1 + 1, u2 + 6)) (f' := (21, [some (.ref 1), some (.int a1), some (.ref 187), none], [.int 1])) (h' := hp N x5) rfl ?_
      cases h
      exact ev_iret rfl (end_u (by show _ ≤ 1; omega) (by show _ ≤ 6; omega)) rfl (Or.inl rfl)
    cases h
def gm211 (a1 : Int32) (x : Hs) : Option (Int32 × Hs) := (gm88 a1 x).bind fun w1 => match w1 with | (.inl v3, x5) => (cond (aIn 0 1) (some (0, (wJ x5 187 (xi 0) (Int32.toInt64 v3)))) none) | (.inr k4, x5) => (if k4 = 0 then (some (1, x5)) else (none))
theorem em211 {N : Nat} {u1 u2 : Nat} (a1 : Int32) (hu1 : u1 + 1 ≤ 1) (hu2 : u2 + 6 ≤ 6) (x : Hs) (r : Int32 × Hs) (h : gm211 a1 x = some r) : Ev 211 (u1, u2) (0, aPad [.ref 1, .int a1, .ref 187] 4, []) (hp N x) (cvMi N r) := by
  show Ev 211 (u1, u2) (0, [some (.ref 1), some (.int a1), some (.ref 187), none], []) (hp N x) _
  unfold gm211 at h
  refine ev_run (n := 4) (u' := (u1, u2)) (f' := (4, [some (.ref 1), some (.int a1), some (.ref 187), none], [.int a1, .ref 1, .int 0, .ref 187])) (h' := hp N x) rfl ?_
  obtain ⟨w1, h2, h⟩ := bind_ok h
  obtain ⟨w1, x5⟩ := w1
  cases w1 with
  | inl v3 =>
    refine ev_call (v := some (.int v3)) (h1 := hp N x5) rfl rfl rfl (ok_u rfl (by show u1 + 1 ≤ 1; omega) (by show u2 + 6 ≤ 6; omega)) (em88 a1 (by decide) (by decide) x _ h2) ?_
    show Ev 211 (u1 + 1, u2 + 6) (7, [some (.ref 1), some (.int a1), some (.ref 187), none], [.int v3, .int 0, .ref 187]) (hp N x5) _
    refine ev_run (n := 1) (u' := (u1 + 1, u2 + 6)) (f' := (8, [some (.ref 1), some (.int a1), some (.ref 187), none], [.long (Int32.toInt64 v3), .int 0, .ref 187])) (h' := hp N x5) rfl ?_
    obtain ⟨h6, h⟩ := cond_some h
    refine ev_last rfl rfl h6 ?_
    show Ev 211 (u1 + 1, u2 + 6) (9, [some (.ref 1), some (.int a1), some (.ref 187), none], []) (hp N (wJ x5 187 (xi 0) (Int32.toInt64 v3))) _
    refine ev_run (n := 2) (u' := (u1 + 1, u2 + 6)) (f' := (16, [none, none, none, none], [.int 0])) (h' := hp N (wJ x5 187 (xi 0) (Int32.toInt64 v3))) rfl ?_
    cases h
    exact ev_iret rfl (end_u (by show _ ≤ 1; omega) (by show _ ≤ 6; omega)) rfl (Or.inl rfl)
  | inr k4 =>
    rcases ite_or h with ⟨h7, h⟩ | ⟨-, h⟩
    · subst h7
      refine ev_callH (h1 := hp N x5) (t0 := 12) (t := 13) (a := 3) rfl rfl rfl (ok_u rfl (by show u1 + 1 ≤ 1; omega) (by show u2 + 6 ≤ 6; omega)) rfl rfl rfl (em88 a1 (by decide) (by decide) x _ h2) ?_
      show Ev 211 (u1 + 1, u2 + 6) (13, [some (.ref 1), some (.int a1), some (.ref 187), none], []) (hp N x5) _
      refine ev_run (n := 1) (u' := (u1 + 1, u2 + 6)) (f' := (14, [some (.ref 1), some (.int a1), some (.ref 187), none], [.int 1])) (h' := hp N x5) rfl ?_
      cases h
      exact ev_iret rfl (end_u (by show _ ≤ 1; omega) (by show _ ≤ 6; omega)) rfl (Or.inl rfl)
    cases h
def gm212 (a1 : Int32) (a2 : Int32) (x : Hs) : Option (Int32 × Hs) := (gm89 a1 a2 x).bind fun w1 => match w1 with | (.inl v3, x5) => (cond (aIn 0 1) (some (0, (wJ x5 187 (xi 0) (Int32.toInt64 v3)))) none) | (.inr k4, x5) => (if k4 = 0 then (some (1, x5)) else (none))
theorem em212 {N : Nat} {u1 u2 : Nat} (a1 : Int32) (a2 : Int32) (hu1 : u1 + 2 ≤ 2) (hu2 : u2 + 12 ≤ 12) (x : Hs) (r : Int32 × Hs) (h : gm212 a1 a2 x = some r) : Ev 212 (u1, u2) (0, aPad [.ref 1, .int a1, .int a2, .ref 187] 5, []) (hp N x) (cvMi N r) := by
  show Ev 212 (u1, u2) (0, [some (.ref 1), some (.int a1), some (.int a2), some (.ref 187), none], []) (hp N x) _
  unfold gm212 at h
  refine ev_run (n := 5) (u' := (u1, u2)) (f' := (5, [some (.ref 1), some (.int a1), some (.int a2), some (.ref 187), none], [.int a2, .int a1, .ref 1, .int 0, .ref 187])) (h' := hp N x) rfl ?_
  obtain ⟨w1, h2, h⟩ := bind_ok h
  obtain ⟨w1, x5⟩ := w1
  cases w1 with
  | inl v3 =>
    refine ev_call (v := some (.int v3)) (h1 := hp N x5) rfl rfl rfl (ok_u rfl (by show u1 + 2 ≤ 2; omega) (by show u2 + 12 ≤ 12; omega)) (em89 a1 a2 (by decide) (by decide) x _ h2) ?_
    show Ev 212 (u1 + 2, u2 + 12) (8, [some (.ref 1), some (.int a1), some (.int a2), some (.ref 187), none], [.int v3, .int 0, .ref 187]) (hp N x5) _
    refine ev_run (n := 1) (u' := (u1 + 2, u2 + 12)) (f' := (9, [some (.ref 1), some (.int a1), some (.int a2), some (.ref 187), none], [.long (Int32.toInt64 v3), .int 0, .ref 187])) (h' := hp N x5) rfl ?_
    obtain ⟨h6, h⟩ := cond_some h
    refine ev_last rfl rfl h6 ?_
    show Ev 212 (u1 + 2, u2 + 12) (10, [some (.ref 1), some (.int a1), some (.int a2), some (.ref 187), none], []) (hp N (wJ x5 187 (xi 0) (Int32.toInt64 v3))) _
    refine ev_run (n := 2) (u' := (u1 + 2, u2 + 12)) (f' := (18, [none, none, none, none, none], [.int 0])) (h' := hp N (wJ x5 187 (xi 0) (Int32.toInt64 v3))) rfl ?_
    cases h
    exact ev_iret rfl (end_u (by show _ ≤ 2; omega) (by show _ ≤ 12; omega)) rfl (Or.inl rfl)
  | inr k4 =>
    rcases ite_or h with ⟨h7, h⟩ | ⟨-, h⟩
    · subst h7
      refine ev_callH (h1 := hp N x5) (t0 := 13) (t := 15) (a := 4) rfl rfl rfl (ok_u rfl (by show u1 + 2 ≤ 2; omega) (by show u2 + 12 ≤ 12; omega)) rfl rfl rfl (em89 a1 a2 (by decide) (by decide) x _ h2) ?_
      show Ev 212 (u1 + 2, u2 + 12) (15, [some (.ref 1), some (.int a1), some (.int a2), some (.ref 187), none], []) (hp N x5) _
      refine ev_run (n := 1) (u' := (u1 + 2, u2 + 12)) (f' := (16, [some (.ref 1), some (.int a1), some (.int a2), some (.ref 187), none], [.int 1])) (h' := hp N x5) rfl ?_
      cases h
      exact ev_iret rfl (end_u (by show _ ≤ 2; omega) (by show _ ≤ 12; omega)) rfl (Or.inl rfl)
    cases h
def gm213 (a1 : Int32) (x : Hs) : Option (Int32 × Hs) := (gm90 a1 x).bind fun w1 => match w1 with | (.inl v3, x5) => (cond (aIn 0 1) (some (0, (wJ x5 187 (xi 0) (Int32.toInt64 v3)))) none) | (.inr k4, x5) => (if k4 = 0 then (some (1, x5)) else (none))
theorem em213 {N : Nat} {u1 u2 : Nat} (a1 : Int32) (hu1 : u1 + 1 ≤ 1) (hu2 : u2 + 6 ≤ 6) (x : Hs) (r : Int32 × Hs) (h : gm213 a1 x = some r) : Ev 213 (u1, u2) (0, aPad [.ref 1, .int a1, .ref 187] 4, []) (hp N x) (cvMi N r) := by
  show Ev 213 (u1, u2) (0, [some (.ref 1), some (.int a1), some (.ref 187), none], []) (hp N x) _
  unfold gm213 at h
  refine ev_run (n := 4) (u' := (u1, u2)) (f' := (4, [some (.ref 1), some (.int a1), some (.ref 187), none], [.int a1, .ref 1, .int 0, .ref 187])) (h' := hp N x) rfl ?_
  obtain ⟨w1, h2, h⟩ := bind_ok h
  obtain ⟨w1, x5⟩ := w1
  cases w1 with
  | inl v3 =>
    refine ev_call (v := some (.int v3)) (h1 := hp N x5) rfl rfl rfl (ok_u rfl (by show u1 + 1 ≤ 1; omega) (by show u2 + 6 ≤ 6; omega)) (em90 a1 (by decide) (by decide) x _ h2) ?_
    show Ev 213 (u1 + 1, u2 + 6) (7, [some (.ref 1), some (.int a1), some (.ref 187), none], [.int v3, .int 0, .ref 187]) (hp N x5) _
    refine ev_run (n := 1) (u' := (u1 + 1, u2 + 6)) (f' := (8, [some (.ref 1), some (.int a1), some (.ref 187), none], [.long (Int32.toInt64 v3), .int 0, .ref 187])) (h' := hp N x5) rfl ?_
    obtain ⟨h6, h⟩ := cond_some h
    refine ev_last rfl rfl h6 ?_
    show Ev 213 (u1 + 1, u2 + 6) (9, [some (.ref 1), some (.int a1), some (.ref 187), none], []) (hp N (wJ x5 187 (xi 0) (Int32.toInt64 v3))) _
    refine ev_run (n := 2) (u' := (u1 + 1, u2 + 6)) (f' := (16, [none, none, none, none], [.int 0])) (h' := hp N (wJ x5 187 (xi 0) (Int32.toInt64 v3))) rfl ?_
    cases h
    exact ev_iret rfl (end_u (by show _ ≤ 1; omega) (by show _ ≤ 6; omega)) rfl (Or.inl rfl)
  | inr k4 =>
    rcases ite_or h with ⟨h7, h⟩ | ⟨-, h⟩
    · subst h7
      refine ev_callH (h1 := hp N x5) (t0 := 12) (t := 13) (a := 3) rfl rfl rfl (ok_u rfl (by show u1 + 1 ≤ 1; omega) (by show u2 + 6 ≤ 6; omega)) rfl rfl rfl (em90 a1 (by decide) (by decide) x _ h2) ?_
      show Ev 213 (u1 + 1, u2 + 6) (13, [some (.ref 1), some (.int a1), some (.ref 187), none], []) (hp N x5) _
      refine ev_run (n := 1) (u' := (u1 + 1, u2 + 6)) (f' := (14, [some (.ref 1), some (.int a1), some (.ref 187), none], [.int 1])) (h' := hp N x5) rfl ?_
      cases h
      exact ev_iret rfl (end_u (by show _ ≤ 1; omega) (by show _ ≤ 6; omega)) rfl (Or.inl rfl)
    cases h
