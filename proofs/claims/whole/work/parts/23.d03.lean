/-! The methods as functions; printed by dec.py -/
def gm62_71 (a1 : Int32) (a2 : Int32) (a3 : Int32) (a4 : Int32) (x : Hs) : Option ((Unit ⊕ Nat) × Hs) := gm62_72 a1 a2 a3 a4 0 x
theorem em62_71 {N : Nat} {u1 u2 : Nat} (a1 : Int32) (a2 : Int32) (a3 : Int32) (a4 : Int32) (hu1 : u1 + 1 ≤ 4) (hu2 : u2 + 6 ≤ 24) (x : Hs) (r : (Unit ⊕ Nat) × Hs) (h : gm62_71 a1 a2 a3 a4 x = some r) : Ev 62 (u1, u2) (71, [some (.ref 1), some (.int a1), some (.int a2), some (.int a3), some (.int a4)], []) (hp N x) (cvXv N r) := by
  unfold gm62_71 at h
  refine ev_run (n := 1) (u' := (u1, u2)) (f' := (72, [some (.ref 1), some (.int a1), some (.int a2), some (.int a3), some (.int a4)], [.int 0])) (h' := hp N x) rfl ?_
  exact em62_72 a1 a2 a3 a4 0 (by omega) (by omega) x _ h
def gm62_36 (a1 : Int32) (a2 : Int32) (a3 : Int32) (a4 : Int32) (s0 : Int32) (x : Hs) : Option ((Unit ⊕ Nat) × Hs) := (gm92 s0 x).bind fun w19 => match w19 with | (.inl _, x23) => (cond (aIn a1 24) ((gm7 (x23.1 4 (xi a1)) a2 x23).bind fun w25 => (if w25 = 0 then (gm62_71 a1 a2 a3 a4 x23) else ((gm104 a1 x23).bind fun w27 => (if w27 = 0 then (gm62_72 a1 a2 a3 a4 1 x23) else (gm62_71 a1 a2 a3 a4 x23))))) none) | (.inr k22, x23) => (cond (Nat.blt k22 3) (some (.inr k22, x23)) none)
theorem em62_36 {N : Nat} {u1 u2 : Nat} (a1 : Int32) (a2 : Int32) (a3 : Int32) (a4 : Int32) (s0 : Int32) (hu1 : u1 + 2 ≤ 4) (hu2 : u2 + 12 ≤ 24) (x : Hs) (r : (Unit ⊕ Nat) × Hs) (h : gm62_36 a1 a2 a3 a4 s0 x = some r) : Ev 62 (u1, u2) (36, [some (.ref 1), some (.int a1), some (.int a2), some (.int a3), some (.int a4)], [.int s0]) (hp N x) (cvXv N r) := by
  unfold gm62_36 at h
  obtain ⟨w19, h20, h⟩ := bind_ok h
  obtain ⟨w19, x23⟩ := w19
  cases w19 with
  | inl v21 =>
    refine ev_call (v := none) (h1 := hp N x23) rfl rfl rfl (ok_u rfl (by show u1 + 1 ≤ 4; omega) (by show u2 + 6 ≤ 24; omega)) (em92 s0 (by decide) (by decide) x _ h20) ?_
    show Ev 62 (u1 + 1, u2 + 6) (39, [some (.ref 1), some (.int a1), some (.int a2), some (.int a3), some (.int a4)], []) (hp N x23) _
    refine ev_run (n := 6) (u' := (u1 + 1, u2 + 6)) (f' := (51, [some (.ref 1), some (.int a1), some (.int a2), some (.int a3), some (.int a4)], [.int a1, .ref 4, .ref 2])) (h' := hp N x23) rfl ?_
    obtain ⟨h24, h⟩ := cond_some h
    refine ev_iald rfl rfl h24 ?_
    refine ev_run (n := 1) (u' := (u1 + 1, u2 + 6)) (f' := (53, [some (.ref 1), some (.int a1), some (.int a2), some (.int a3), some (.int a4)], [.int a2, .int (x23.1 4 (xi a1)), .ref 2])) (h' := hp N x23) rfl ?_
    obtain ⟨w25, h26, h⟩ := bind_ok h
    refine ev_call (v := some (.int w25)) (h1 := hp N x23) rfl rfl rfl (ok_u rfl (by show u1 + 1 + 0 ≤ 4; omega) (by show u2 + 6 + 0 ≤ 24; omega)) (em7 (x23.1 4 (xi a1)) a2 x23 _ h26) ?_
    show Ev 62 (u1 + 1, u2 + 6) (56, [some (.ref 1), some (.int a1), some (.int a2), some (.int a3), some (.int a4)], [.int w25]) (hp N x23) _
    rcases ite_or h with ⟨h30, h⟩ | ⟨h30, h⟩
    · refine ev_ift rfl (decide_eq_true h30) ?_
      exact em62_71 a1 a2 a3 a4 (by omega) (by omega) x23 _ h
    · refine ev_iff rfl (decide_eq_false h30) ?_
      refine ev_run (n := 2) (u' := (u1 + 1, u2 + 6)) (f' := (61, [some (.ref 1), some (.int a1), some (.int a2), some (.int a3), some (.int a4)], [.int a1, .ref 1])) (h' := hp N x23) rfl ?_
      obtain ⟨w27, h28, h⟩ := bind_ok h
      refine ev_call (v := some (.int w27)) (h1 := hp N x23) rfl rfl rfl (ok_u rfl (by show u1 + 1 + 0 ≤ 4; omega) (by show u2 + 6 + 0 ≤ 24; omega)) (em104 a1 x23 _ h28) ?_
      show Ev 62 (u1 + 1, u2 + 6) (64, [some (.ref 1), some (.int a1), some (.int a2), some (.int a3), some (.int a4)], [.int w27]) (hp N x23) _
      rcases ite_or h with ⟨h29, h⟩ | ⟨h29, h⟩
      · refine ev_iff rfl (decide_eq_false (fun w => w h29)) ?_
        refine ev_run (n := 2) (u' := (u1 + 1, u2 + 6)) (f' := (72, [some (.ref 1), some (.int a1), some (.int a2), some (.int a3), some (.int a4)], [.int 1])) (h' := hp N x23) rfl ?_
        exact em62_72 a1 a2 a3 a4 1 (by omega) (by omega) x23 _ h
      · refine ev_ift rfl (decide_eq_true h29) ?_
        exact em62_71 a1 a2 a3 a4 (by omega) (by omega) x23 _ h
  | inr k22 =>
    obtain ⟨h31, h⟩ := cond_some h
    cases h
    exact ev_callX (h1 := hp N x23) rfl rfl rfl (ok_u rfl (by show u1 + 1 ≤ 4; omega) (by show u2 + 6 ≤ 24; omega)) h31 rfl (em92 s0 (by decide) (by decide) x _ h20)
def gm62_35 (a1 : Int32) (a2 : Int32) (a3 : Int32) (a4 : Int32) (x : Hs) : Option ((Unit ⊕ Nat) × Hs) := gm62_36 a1 a2 a3 a4 0 x
theorem em62_35 {N : Nat} {u1 u2 : Nat} (a1 : Int32) (a2 : Int32) (a3 : Int32) (a4 : Int32) (hu1 : u1 + 2 ≤ 4) (hu2 : u2 + 12 ≤ 24) (x : Hs) (r : (Unit ⊕ Nat) × Hs) (h : gm62_35 a1 a2 a3 a4 x = some r) : Ev 62 (u1, u2) (35, [some (.ref 1), some (.int a1), some (.int a2), some (.int a3), some (.int a4)], []) (hp N x) (cvXv N r) := by
  unfold gm62_35 at h
  refine ev_run (n := 1) (u' := (u1, u2)) (f' := (36, [some (.ref 1), some (.int a1), some (.int a2), some (.int a3), some (.int a4)], [.int 0])) (h' := hp N x) rfl ?_
  exact em62_36 a1 a2 a3 a4 0 (by omega) (by omega) x _ h
def gm62 (a1 : Int32) (a2 : Int32) (a3 : Int32) (a4 : Int32) (x : Hs) : Option ((Unit ⊕ Nat) × Hs) := (gm95 a1 x).bind fun w1 => match w1 with | (.inl _, x5) => ((gm94 a2 x5).bind fun w6 => match w6 with | (.inl _, x10) => ((gm99 a3 0 9 x10).bind fun w11 => (if w11 = 0 then (gm62_35 a1 a2 a3 a4 x10) else ((gm99 a4 a3 9 x10).bind fun w13 => (if w13 = 0 then (gm62_35 a1 a2 a3 a4 x10) else (gm62_36 a1 a2 a3 a4 1 x10))))) | (.inr k9, x10) => (cond (Nat.blt k9 3) (some (.inr k9, x10)) none)) | (.inr k4, x5) => (cond (Nat.blt k4 3) (some (.inr k4, x5)) none)
theorem em62 {N : Nat} {u1 u2 : Nat} (a1 : Int32) (a2 : Int32) (a3 : Int32) (a4 : Int32) (hu1 : u1 + 4 ≤ 4) (hu2 : u2 + 24 ≤ 24) (x : Hs) (r : (Unit ⊕ Nat) × Hs) (h : gm62 a1 a2 a3 a4 x = some r) : Ev 62 (u1, u2) (0, aPad [.ref 1, .int a1, .int a2, .int a3, .int a4] 5, []) (hp N x) (cvXv N r) := by
  show Ev 62 (u1, u2) (0, [some (.ref 1), some (.int a1), some (.int a2), some (.int a3), some (.int a4)], []) (hp N x) _
  unfold gm62 at h
  refine ev_run (n := 2) (u' := (u1, u2)) (f' := (2, [some (.ref 1), some (.int a1), some (.int a2), some (.int a3), some (.int a4)], [.int a1, .ref 1])) (h' := hp N x) rfl ?_
  obtain ⟨w1, h2, h⟩ := bind_ok h
  obtain ⟨w1, x5⟩ := w1
  cases w1 with
  | inl v3 =>
    refine ev_call (v := none) (h1 := hp N x5) rfl rfl rfl (ok_u rfl (by show u1 + 1 ≤ 4; omega) (by show u2 + 6 ≤ 24; omega)) (em95 a1 (by decide) (by decide) x _ h2) ?_
    show Ev 62 (u1 + 1, u2 + 6) (5, [some (.ref 1), some (.int a1), some (.int a2), some (.int a3), some (.int a4)], []) (hp N x5) _
    refine ev_run (n := 2) (u' := (u1 + 1, u2 + 6)) (f' := (7, [some (.ref 1), some (.int a1), some (.int a2), some (.int a3), some (.int a4)], [.int a2, .ref 1])) (h' := hp N x5) rfl ?_
    obtain ⟨w6, h7, h⟩ := bind_ok h
    obtain ⟨w6, x10⟩ := w6
    cases w6 with
    | inl v8 =>
      refine ev_call (v := none) (h1 := hp N x10) rfl rfl rfl (ok_u rfl (by show u1 + 1 + 1 ≤ 4; omega) (by show u2 + 6 + 6 ≤ 24; omega)) (em94 a2 (by decide) (by decide) x5 _ h7) ?_
      show Ev 62 (u1 + 2, u2 + 12) (10, [some (.ref 1), some (.int a1), some (.int a2), some (.int a3), some (.int a4)], []) (hp N x10) _
      refine ev_run (n := 3) (u' := (u1 + 2, u2 + 12)) (f' := (14, [some (.ref 1), some (.int a1), some (.int a2), some (.int a3), some (.int a4)], [.int 9, .int 0, .int a3])) (h' := hp N x10) rfl ?_
      obtain ⟨w11, h12, h⟩ := bind_ok h
      refine ev_call (v := some (.int w11)) (h1 := hp N x10) rfl rfl rfl (ok_u rfl (by show u1 + 2 + 0 ≤ 4; omega) (by show u2 + 12 + 0 ≤ 24; omega)) (em99 a3 0 9 x10 _ h12) ?_
      show Ev 62 (u1 + 2, u2 + 12) (17, [some (.ref 1), some (.int a1), some (.int a2), some (.int a3), some (.int a4)], [.int w11]) (hp N x10) _
      rcases ite_or h with ⟨h16, h⟩ | ⟨h16, h⟩
      · refine ev_ift rfl (decide_eq_true h16) ?_
        exact em62_35 a1 a2 a3 a4 (by omega) (by omega) x10 _ h
      · refine ev_iff rfl (decide_eq_false h16) ?_
        refine ev_run (n := 3) (u' := (u1 + 2, u2 + 12)) (f' := (25, [some (.ref 1), some (.int a1), some (.int a2), some (.int a3), some (.int a4)], [.int 9, .int a3, .int a4])) (h' := hp N x10) rfl ?_
        obtain ⟨w13, h14, h⟩ := bind_ok h
        refine ev_call (v := some (.int w13)) (h1 := hp N x10) rfl rfl rfl (ok_u rfl (by show u1 + 2 + 0 ≤ 4; omega) (by show u2 + 12 + 0 ≤ 24; omega)) (em99 a4 a3 9 x10 _ h14) ?_
        show Ev 62 (u1 + 2, u2 + 12) (28, [some (.ref 1), some (.int a1), some (.int a2), some (.int a3), some (.int a4)], [.int w13]) (hp N x10) _
        rcases ite_or h with ⟨h15, h⟩ | ⟨h15, h⟩
        · refine ev_ift rfl (decide_eq_true h15) ?_
          exact em62_35 a1 a2 a3 a4 (by omega) (by omega) x10 _ h
        · refine ev_iff rfl (decide_eq_false h15) ?_
          refine ev_run (n := 2) (u' := (u1 + 2, u2 + 12)) (f' := (36, [some (.ref 1), some (.int a1), some (.int a2), some (.int a3), some (.int a4)], [.int 1])) (h' := hp N x10) rfl ?_
          exact em62_36 a1 a2 a3 a4 1 (by omega) (by omega) x10 _ h
    | inr k9 =>
      obtain ⟨h17, h⟩ := cond_some h
      cases h
      exact ev_callX (h1 := hp N x10) rfl rfl rfl (ok_u rfl (by show u1 + 1 + 1 ≤ 4; omega) (by show u2 + 6 + 6 ≤ 24; omega)) h17 rfl (em94 a2 (by decide) (by decide) x5 _ h7)
  | inr k4 =>
    obtain ⟨h18, h⟩ := cond_some h
    cases h
    exact ev_callX (h1 := hp N x5) rfl rfl rfl (ok_u rfl (by show u1 + 1 ≤ 4; omega) (by show u2 + 6 ≤ 24; omega)) h18 rfl (em95 a1 (by decide) (by decide) x _ h2)
def gm63_35 (a1 : Int32) (a2 : Int32) (s0 : Int32) (x : Hs) : Option ((Unit ⊕ Nat) × Hs) := (gm93 s0 x).bind fun w19 => match w19 with | (.inl _, x23) => (cond (aIn a1 24) (cond (aIn a1 24) (some (.inl (), (wI x23 56 (xi a1) (x23.1 56 (xi a1) ||| (1 <<< (a2 &&& 31)))))) none) none) | (.inr k22, x23) => (cond (Nat.blt k22 3) (some (.inr k22, x23)) none)
theorem em63_35 {N : Nat} {u1 u2 : Nat} (a1 : Int32) (a2 : Int32) (s0 : Int32) (hu1 : u1 + 1 ≤ 3) (hu2 : u2 + 6 ≤ 18) (x : Hs) (r : (Unit ⊕ Nat) × Hs) (h : gm63_35 a1 a2 s0 x = some r) : Ev 63 (u1, u2) (35, [some (.ref 1), some (.int a1), some (.int a2)], [.int s0]) (hp N x) (cvXv N r) := by
  unfold gm63_35 at h
  obtain ⟨w19, h20, h⟩ := bind_ok h
  obtain ⟨w19, x23⟩ := w19
  cases w19 with
  | inl v21 =>
    refine ev_call (v := none) (h1 := hp N x23) rfl rfl rfl (ok_u rfl (by show u1 + 1 ≤ 3; omega) (by show u2 + 6 ≤ 18; omega)) (em93 s0 (by decide) (by decide) x _ h20) ?_
    show Ev 63 (u1 + 1, u2 + 6) (38, [some (.ref 1), some (.int a1), some (.int a2)], []) (hp N x23) _
    refine ev_run (n := 5) (u' := (u1 + 1, u2 + 6)) (f' := (47, [some (.ref 1), some (.int a1), some (.int a2)], [.int a1, .ref 56, .int a1, .ref 56])) (h' := hp N x23) rfl ?_
    obtain ⟨h24, h⟩ := cond_some h
    refine ev_iald rfl rfl h24 ?_
    refine ev_run (n := 4) (u' := (u1 + 1, u2 + 6)) (f' := (52, [some (.ref 1), some (.int a1), some (.int a2)], [.int (x23.1 56 (xi a1) ||| (1 <<< (a2 &&& 31))), .int a1, .ref 56])) (h' := hp N x23) rfl ?_
    obtain ⟨h25, h⟩ := cond_some h
    refine ev_iast rfl rfl h25 ?_
    show Ev 63 (u1 + 1, u2 + 6) (53, [some (.ref 1), some (.int a1), some (.int a2)], []) (hp N (wI x23 56 (xi a1) (x23.1 56 (xi a1) ||| (1 <<< (a2 &&& 31))))) _
    cases h
    exact ev_vret rfl (end_u (by show _ ≤ 3; omega) (by show _ ≤ 18; omega)) rfl
  | inr k22 =>
    obtain ⟨h26, h⟩ := cond_some h
    cases h
    exact ev_callX (h1 := hp N x23) rfl rfl rfl (ok_u rfl (by show u1 + 1 ≤ 3; omega) (by show u2 + 6 ≤ 18; omega)) h26 rfl (em93 s0 (by decide) (by decide) x _ h20)
def gm63_34 (a1 : Int32) (a2 : Int32) (x : Hs) : Option ((Unit ⊕ Nat) × Hs) := gm63_35 a1 a2 0 x
theorem em63_34 {N : Nat} {u1 u2 : Nat} (a1 : Int32) (a2 : Int32) (hu1 : u1 + 1 ≤ 3) (hu2 : u2 + 6 ≤ 18) (x : Hs) (r : (Unit ⊕ Nat) × Hs) (h : gm63_34 a1 a2 x = some r) : Ev 63 (u1, u2) (34, [some (.ref 1), some (.int a1), some (.int a2)], []) (hp N x) (cvXv N r) := by
  unfold gm63_34 at h
  refine ev_run (n := 1) (u' := (u1, u2)) (f' := (35, [some (.ref 1), some (.int a1), some (.int a2)], [.int 0])) (h' := hp N x) rfl ?_
  exact em63_35 a1 a2 0 (by omega) (by omega) x _ h
def gm63 (a1 : Int32) (a2 : Int32) (x : Hs) : Option ((Unit ⊕ Nat) × Hs) := (gm95 a1 x).bind fun w1 => match w1 with | (.inl _, x5) => ((gm91 a2 5 x5).bind fun w6 => match w6 with | (.inl _, x10) => ((gm11 a1 a2 x10).bind fun w11 => (if w11 = 0 then ((gm104 a1 x10).bind fun w13 => (if w13 = 0 then (gm63_35 a1 a2 1 x10) else (gm63_34 a1 a2 x10))) else (gm63_34 a1 a2 x10))) | (.inr k9, x10) => (cond (Nat.blt k9 3) (some (.inr k9, x10)) none)) | (.inr k4, x5) => (cond (Nat.blt k4 3) (some (.inr k4, x5)) none)
theorem em63 {N : Nat} {u1 u2 : Nat} (a1 : Int32) (a2 : Int32) (hu1 : u1 + 3 ≤ 3) (hu2 : u2 + 18 ≤ 18) (x : Hs) (r : (Unit ⊕ Nat) × Hs) (h : gm63 a1 a2 x = some r) : Ev 63 (u1, u2) (0, aPad [.ref 1, .int a1, .int a2] 3, []) (hp N x) (cvXv N r) := by
  show Ev 63 (u1, u2) (0, [some (.ref 1), some (.int a1), some (.int a2)], []) (hp N x) _
  unfold gm63 at h
  refine ev_run (n := 2) (u' := (u1, u2)) (f' := (2, [some (.ref 1), some (.int a1), some (.int a2)], [.int a1, .ref 1])) (h' := hp N x) rfl ?_
  obtain ⟨w1, h2, h⟩ := bind_ok h
  obtain ⟨w1, x5⟩ := w1
  cases w1 with
  | inl v3 =>
    refine ev_call (v := none) (h1 := hp N x5) rfl rfl rfl (ok_u rfl (by show u1 + 1 ≤ 3; omega) (by show u2 + 6 ≤ 18; omega)) (em95 a1 (by decide) (by decide) x _ h2) ?_
    show Ev 63 (u1 + 1, u2 + 6) (5, [some (.ref 1), some (.int a1), some (.int a2)], []) (hp N x5) _
    refine ev_run (n := 2) (u' := (u1 + 1, u2 + 6)) (f' := (7, [some (.ref 1), some (.int a1), some (.int a2)], [.int 5, .int a2])) (h' := hp N x5) rfl ?_
    obtain ⟨w6, h7, h⟩ := bind_ok h
    obtain ⟨w6, x10⟩ := w6
    cases w6 with
    | inl v8 =>
      refine ev_call (v := none) (h1 := hp N x10) rfl rfl rfl (ok_u rfl (by show u1 + 1 + 1 ≤ 3; omega) (by show u2 + 6 + 6 ≤ 18; omega)) (em91 a2 5 (by decide) (by decide) x5 _ h7) ?_
      show Ev 63 (u1 + 2, u2 + 12) (10, [some (.ref 1), some (.int a1), some (.int a2)], []) (hp N x10) _
      refine ev_run (n := 4) (u' := (u1 + 2, u2 + 12)) (f' := (16, [some (.ref 1), some (.int a1), some (.int a2)], [.int a2, .int a1, .ref 2])) (h' := hp N x10) rfl ?_
      obtain ⟨w11, h12, h⟩ := bind_ok h
      refine ev_call (v := some (.int w11)) (h1 := hp N x10) rfl rfl rfl (ok_u rfl (by show u1 + 2 + 0 ≤ 3; omega) (by show u2 + 12 + 0 ≤ 18; omega)) (em11 a1 a2 x10 _ h12) ?_
      show Ev 63 (u1 + 2, u2 + 12) (19, [some (.ref 1), some (.int a1), some (.int a2)], [.int w11]) (hp N x10) _
      rcases ite_or h with ⟨h16, h⟩ | ⟨h16, h⟩
      · refine ev_iff rfl (decide_eq_false (fun w => w h16)) ?_
        refine ev_run (n := 2) (u' := (u1 + 2, u2 + 12)) (f' := (24, [some (.ref 1), some (.int a1), some (.int a2)], [.int a1, .ref 1])) (h' := hp N x10) rfl ?_
        obtain ⟨w13, h14, h⟩ := bind_ok h
        refine ev_call (v := some (.int w13)) (h1 := hp N x10) rfl rfl rfl (ok_u rfl (by show u1 + 2 + 0 ≤ 3; omega) (by show u2 + 12 + 0 ≤ 18; omega)) (em104 a1 x10 _ h14) ?_
        show Ev 63 (u1 + 2, u2 + 12) (27, [some (.ref 1), some (.int a1), some (.int a2)], [.int w13]) (hp N x10) _
        rcases ite_or h with ⟨h15, h⟩ | ⟨h15, h⟩
        · refine ev_iff rfl (decide_eq_false (fun w => w h15)) ?_
          refine ev_run (n := 2) (u' := (u1 + 2, u2 + 12)) (f' := (35, [some (.ref 1), some (.int a1), some (.int a2)], [.int 1])) (h' := hp N x10) rfl ?_
          exact em63_35 a1 a2 1 (by omega) (by omega) x10 _ h
        · refine ev_ift rfl (decide_eq_true h15) ?_
          exact em63_34 a1 a2 (by omega) (by omega) x10 _ h
      · refine ev_ift rfl (decide_eq_true h16) ?_
        exact em63_34 a1 a2 (by omega) (by omega) x10 _ h
    | inr k9 =>
      obtain ⟨h17, h⟩ := cond_some h
      cases h
      exact ev_callX (h1 := hp N x10) rfl rfl rfl (ok_u rfl (by show u1 + 1 + 1 ≤ 3; omega) (by show u2 + 6 + 6 ≤ 18; omega)) h17 rfl (em91 a2 5 (by decide) (by decide) x5 _ h7)
  | inr k4 =>
    obtain ⟨h18, h⟩ := cond_some h
    cases h
    exact ev_callX (h1 := hp N x5) rfl rfl rfl (ok_u rfl (by show u1 + 1 ≤ 3; omega) (by show u2 + 6 ≤ 18; omega)) h18 rfl (em95 a1 (by decide) (by decide) x _ h2)
def gm64_30 (a1 : Int32) (s1 : Int32) (s2 : Int32) (x : Hs) : Option ((Int32 ⊕ Nat) × Hs) := cond (aIn s1 24) (cond (aBit s2) (cond (aIn a1 24) (cond (aBit ((wI x 57 (xi s1) s2).1 57 (xi a1))) (some (.inl ((wI x 57 (xi s1) s2).1 57 (xi a1)), (wI x 57 (xi s1) s2))) none) none) none) none
theorem em64_30 {N : Nat} {u1 u2 : Nat} (a1 : Int32) (s1 : Int32) (s2 : Int32) (hu1 : u1 + 0 ≤ 1) (hu2 : u2 + 0 ≤ 6) (x : Hs) (r : (Int32 ⊕ Nat) × Hs) (h : gm64_30 a1 s1 s2 x = some r) : Ev 64 (u1, u2) (30, [some (.ref 1), some (.int a1)], [.int s2, .int s1, .ref 57]) (hp N x) (cvXi N r) := by
  unfold gm64_30 at h
  obtain ⟨h9, h⟩ := cond_some h
  obtain ⟨h10, h⟩ := cond_some h
  refine ev_bast rfl rfl h9 h10 ?_
  show Ev 64 (u1, u2) (31, [some (.ref 1), some (.int a1)], []) (hp N (wI x 57 (xi s1) s2)) _
  refine ev_run (n := 4) (u' := (u1, u2)) (f' := (39, [some (.ref 1), some (.int a1)], [.int a1, .ref 57])) (h' := hp N (wI x 57 (xi s1) s2)) rfl ?_
  obtain ⟨h11, h⟩ := cond_some h
  refine ev_bald rfl rfl h11 ?_
  obtain ⟨h12, h⟩ := cond_some h
  cases h
  exact ev_iret rfl (end_u (by show _ ≤ 1; omega) (by show _ ≤ 6; omega)) rfl (Or.inr ⟨rfl, h12⟩)
def gm64 (a1 : Int32) (x : Hs) : Option ((Int32 ⊕ Nat) × Hs) := (gm95 a1 x).bind fun w1 => match w1 with | (.inl _, x5) => (cond (aIn a1 24) (if x5.1 57 (xi a1) = 0 then (gm64_30 a1 a1 1 x5) else (gm64_30 a1 a1 0 x5)) none) | (.inr k4, x5) => (cond (Nat.blt k4 3) (some (.inr k4, x5)) none)
theorem em64 {N : Nat} {u1 u2 : Nat} (a1 : Int32) (hu1 : u1 + 1 ≤ 1) (hu2 : u2 + 6 ≤ 6) (x : Hs) (r : (Int32 ⊕ Nat) × Hs) (h : gm64 a1 x = some r) : Ev 64 (u1, u2) (0, aPad [.ref 1, .int a1] 2, []) (hp N x) (cvXi N r) := by
  show Ev 64 (u1, u2) (0, [some (.ref 1), some (.int a1)], []) (hp N x) _
  unfold gm64 at h
  refine ev_run (n := 2) (u' := (u1, u2)) (f' := (2, [some (.ref 1), some (.int a1)], [.int a1, .ref 1])) (h' := hp N x) rfl ?_
  obtain ⟨w1, h2, h⟩ := bind_ok h
  obtain ⟨w1, x5⟩ := w1
  cases w1 with
  | inl v3 =>
    refine ev_call (v := none) (h1 := hp N x5) rfl rfl rfl (ok_u rfl (by show u1 + 1 ≤ 1; omega) (by show u2 + 6 ≤ 6; omega)) (em95 a1 (by decide) (by decide) x _ h2) ?_
    show Ev 64 (u1 + 1, u2 + 6) (5, [some (.ref 1), some (.int a1)], []) (hp N x5) _
    refine ev_run (n := 8) (u' := (u1 + 1, u2 + 6)) (f' := (21, [some (.ref 1), some (.int a1)], [.int a1, .ref 57, .int a1, .ref 57])) (h' := hp N x5) rfl ?_
    obtain ⟨h6, h⟩ := cond_some h
    refine ev_bald rfl rfl h6 ?_
    rcases ite_or h with ⟨h7, h⟩ | ⟨h7, h⟩
    · refine ev_iff rfl (decide_eq_false (fun w => w h7)) ?_
      refine ev_run (n := 2) (u' := (u1 + 1, u2 + 6)) (f' := (30, [some (.ref 1), some (.int a1)], [.int 1, .int a1, .ref 57])) (h' := hp N x5) rfl ?_
      exact em64_30 a1 a1 1 (by omega) (by omega) x5 _ h
    · refine ev_ift rfl (decide_eq_true h7) ?_
      refine ev_run (n := 1) (u' := (u1 + 1, u2 + 6)) (f' := (30, [some (.ref 1), some (.int a1)], [.int 0, .int a1, .ref 57])) (h' := hp N x5) rfl ?_
      exact em64_30 a1 a1 0 (by omega) (by omega) x5 _ h
  | inr k4 =>
    obtain ⟨h8, h⟩ := cond_some h
    cases h
    exact ev_callX (h1 := hp N x5) rfl rfl rfl (ok_u rfl (by show u1 + 1 ≤ 1; omega) (by show u2 + 6 ≤ 6; omega)) h8 rfl (em95 a1 (by decide) (by decide) x _ h2)
def gm105_35 (k2 : Int32 → Int32 → Hs → Option (Int32)) (a1 : Int32) (a2 : Int32) (x : Hs) : Option (Int32) := k2 a1 (a2 + 1) x
theorem em105_35 {N : Nat} (k2 : Int32 → Int32 → Hs → Option (Int32)) (q2 : ∀ (a1 : Int32) (a2 : Int32) (x : Hs) (r : Int32), k2 a1 a2 x = some r → Ev 105 (0, 0) (2, [some (.ref 1), some (.int a1), some (.int a2)], []) (hp N x) (cvPi N x r)) (a1 : Int32) (a2 : Int32) (x : Hs) (r : Int32) (h : gm105_35 k2 a1 a2 x = some r) : Ev 105 (0, 0) (35, [some (.ref 1), some (.int a1), some (.int a2)], []) (hp N x) (cvPi N x r) := by
  unfold gm105_35 at h
  refine ev_run (n := 2) (u' := (0, 0)) (f' := (2, [some (.ref 1), some (.int a1), some (.int (a2 + 1))], [])) (h' := hp N x) rfl ?_
  exact q2 a1 (a2 + 1) x _ h
def gm105_2 : Nat → Int32 → Int32 → Hs → Option (Int32)
  | 0, _, _, _ => none
  | n + 1, a1, a2, x => if a2 ≥ x.1 2 1 then (some 0) else ((gm11 a2 a1 x).bind fun w1 => (if w1 = 0 then (gm105_35 (gm105_2 n) a1 a2 x) else ((gm104 a2 x).bind fun w3 => (if w3 = 0 then (gm105_35 (gm105_2 n) a1 a2 x) else (some 1)))))
theorem em105_2 {N : Nat} : ∀ (n : Nat) (a1 : Int32) (a2 : Int32) (x : Hs) (r : Int32), gm105_2 n a1 a2 x = some r → Ev 105 (0, 0) (2, [some (.ref 1), some (.int a1), some (.int a2)], []) (hp N x) (cvPi N x r)
  | 0, a1, a2, x, r, h => by
    have e9 : (none : Option (Int32)) = some r := h
    cases e9
  | n + 1, a1, a2, x, r, h => by
    have q2 := em105_2 (N := N) n
    rw [gm105_2] at h
    refine ev_run (n := 4) (u' := (0, 0)) (f' := (10, [some (.ref 1), some (.int a1), some (.int a2)], [.int (x.1 2 1), .int a2])) (h' := hp N x) rfl ?_
    rcases ite_or h with ⟨h7, h⟩ | ⟨h7, h⟩
    · refine ev_ict rfl (decide_eq_true h7) ?_
      refine ev_run (n := 1) (u' := (0, 0)) (f' := (42, [none, none, none], [.int 0])) (h' := hp N x) rfl ?_
      cases h
      exact ev_iret rfl rfl rfl (Or.inr ⟨rfl, rfl⟩)
    · refine ev_icf rfl (decide_eq_false h7) ?_
      refine ev_run (n := 4) (u' := (0, 0)) (f' := (19, [some (.ref 1), some (.int a1), some (.int a2)], [.int a1, .int a2, .ref 2])) (h' := hp N x) rfl ?_
      obtain ⟨w1, h2, h⟩ := bind_ok h
      refine ev_call (v := some (.int w1)) (h1 := hp N x) rfl rfl rfl rfl (em11 a2 a1 x _ h2) ?_
      show Ev 105 (0, 0) (22, [some (.ref 1), some (.int a1), some (.int a2)], [.int w1]) (hp N x) _
      rcases ite_or h with ⟨h6, h⟩ | ⟨h6, h⟩
      · refine ev_ift rfl (decide_eq_true h6) ?_
        exact em105_35 (gm105_2 n) q2 a1 a2 x _ h
      · refine ev_iff rfl (decide_eq_false h6) ?_
        refine ev_run (n := 2) (u' := (0, 0)) (f' := (27, [some (.ref 1), some (.int a1), some (.int a2)], [.int a2, .ref 1])) (h' := hp N x) rfl ?_
        obtain ⟨w3, h4, h⟩ := bind_ok h
        refine ev_call (v := some (.int w3)) (h1 := hp N x) rfl rfl rfl rfl (em104 a2 x _ h4) ?_
        show Ev 105 (0, 0) (30, [some (.ref 1), some (.int a1), some (.int a2)], [.int w3]) (hp N x) _
        rcases ite_or h with ⟨h5, h⟩ | ⟨h5, h⟩
        · refine ev_ift rfl (decide_eq_true h5) ?_
          exact em105_35 (gm105_2 n) q2 a1 a2 x _ h
        · refine ev_iff rfl (decide_eq_false h5) ?_
          refine ev_run (n := 1) (u' := (0, 0)) (f' := (34, [some (.ref 1), some (.int a1), some (.int a2)], [.int 1])) (h' := hp N x) rfl ?_
          cases h
          exact ev_iret rfl rfl rfl (Or.inr ⟨rfl, rfl⟩)
def gm105 (a1 : Int32) (x : Hs) : Option (Int32) := gm105_2 FU a1 0 x
theorem em105 {N : Nat} (a1 : Int32) (x : Hs) (r : Int32) (h : gm105 a1 x = some r) : Ev 105 (0, 0) (0, aPad [.ref 1, .int a1] 3, []) (hp N x) (cvPi N x r) := by
  show Ev 105 (0, 0) (0, [some (.ref 1), some (.int a1), none], []) (hp N x) _
  unfold gm105 at h
  refine ev_run (n := 2) (u' := (0, 0)) (f' := (2, [some (.ref 1), some (.int a1), some (.int 0)], [])) (h' := hp N x) rfl ?_
  exact em105_2 FU a1 0 x _ h
def gm65_124 (a1 : Int32) (x : Hs) : Option ((Int32 ⊕ Nat) × Hs) := cond (aIn a1 5) (some (.inl (x.1 58 (xi a1)), x)) none
theorem em65_124 {N : Nat} {u1 u2 : Nat} (a1 : Int32) (hu1 : u1 + 0 ≤ 4) (hu2 : u2 + 0 ≤ 24) (x : Hs) (r : (Int32 ⊕ Nat) × Hs) (h : gm65_124 a1 x = some r) : Ev 65 (u1, u2) (124, [some (.ref 1), some (.int a1), none, none], []) (hp N x) (cvXi N r) := by
  unfold gm65_124 at h
  refine ev_run (n := 4) (u' := (u1, u2)) (f' := (132, [some (.ref 1), some (.int a1), none, none], [.int a1, .ref 58])) (h' := hp N x) rfl ?_
  obtain ⟨h41, h⟩ := cond_some h
  refine ev_iald rfl rfl h41 ?_
  cases h
  exact ev_iret rfl (end_u (by show _ ≤ 4; omega) (by show _ ≤ 24; omega)) rfl (Or.inl rfl)
theorem em65_124_k1 {N : Nat} {u1 u2 : Nat} (a1 : Int32) (a2 : Int32) (a3 : Int32) (hu1 : u1 + 0 ≤ 4) (hu2 : u2 + 0 ≤ 24) (x : Hs) (r : (Int32 ⊕ Nat) × Hs) (h : gm65_124 a1 x = some r) : Ev 65 (u1, u2) (124, [some (.ref 1), some (.int a1), some (.int a2), some (.int a3)], []) (hp N x) (cvXi N r) := by
  unfold gm65_124 at h
  refine ev_run (n := 4) (u' := (u1, u2)) (f' := (132, [some (.ref 1), some (.int a1), some (.int a2), some (.int a3)], [.int a1, .ref 58])) (h' := hp N x) rfl ?_
  obtain ⟨h42, h⟩ := cond_some h
  refine ev_iald rfl rfl h42 ?_
  cases h
  exact ev_iret rfl (end_u (by show _ ≤ 4; omega) (by show _ ≤ 24; omega)) rfl (Or.inl rfl)
def gm65_62 (a1 : Int32) (s0 : Int32) (x : Hs) : Option ((Int32 ⊕ Nat) × Hs) := (gm93 s0 x).bind fun w32 => match w32 with | (.inl _, x36) => (cond (aIn a1 5) (gm65_124 a1 (wI x36 58 (xi a1) (-1))) none) | (.inr k35, x36) => (cond (Nat.blt k35 3) (some (.inr k35, x36)) none)
theorem em65_62 {N : Nat} {u1 u2 : Nat} (a1 : Int32) (s0 : Int32) (hu1 : u1 + 1 ≤ 4) (hu2 : u2 + 6 ≤ 24) (x : Hs) (r : (Int32 ⊕ Nat) × Hs) (h : gm65_62 a1 s0 x = some r) : Ev 65 (u1, u2) (62, [some (.ref 1), some (.int a1), none, none], [.int s0]) (hp N x) (cvXi N r) := by
  unfold gm65_62 at h
  obtain ⟨w32, h33, h⟩ := bind_ok h
  obtain ⟨w32, x36⟩ := w32
  cases w32 with
  | inl v34 =>
    refine ev_call (v := none) (h1 := hp N x36) rfl rfl rfl (ok_u rfl (by show u1 + 1 ≤ 4; omega) (by show u2 + 6 ≤ 24; omega)) (em93 s0 (by decide) (by decide) x _ h33) ?_
    show Ev 65 (u1 + 1, u2 + 6) (65, [some (.ref 1), some (.int a1), none, none], []) (hp N x36) _
    refine ev_run (n := 5) (u' := (u1 + 1, u2 + 6)) (f' := (74, [some (.ref 1), some (.int a1), none, none], [.int (-1), .int a1, .ref 58])) (h' := hp N x36) rfl ?_
    obtain ⟨h37, h⟩ := cond_some h
    refine ev_iast rfl rfl h37 ?_
    show Ev 65 (u1 + 1, u2 + 6) (75, [some (.ref 1), some (.int a1), none, none], []) (hp N (wI x36 58 (xi a1) (-1))) _
    refine ev_run (n := 1) (u' := (u1 + 1, u2 + 6)) (f' := (124, [some (.ref 1), some (.int a1), none, none], [])) (h' := hp N (wI x36 58 (xi a1) (-1))) rfl ?_
    exact em65_124 a1 (by omega) (by omega) (wI x36 58 (xi a1) (-1)) _ h
  | inr k35 =>
    obtain ⟨h38, h⟩ := cond_some h
    cases h
    exact ev_callX (h1 := hp N x36) rfl rfl rfl (ok_u rfl (by show u1 + 1 ≤ 4; omega) (by show u2 + 6 ≤ 24; omega)) h38 rfl (em93 s0 (by decide) (by decide) x _ h33)
def gm65_61 (a1 : Int32) (x : Hs) : Option ((Int32 ⊕ Nat) × Hs) := gm65_62 a1 0 x
theorem em65_61 {N : Nat} {u1 u2 : Nat} (a1 : Int32) (hu1 : u1 + 1 ≤ 4) (hu2 : u2 + 6 ≤ 24) (x : Hs) (r : (Int32 ⊕ Nat) × Hs) (h : gm65_61 a1 x = some r) : Ev 65 (u1, u2) (61, [some (.ref 1), some (.int a1), none, none], []) (hp N x) (cvXi N r) := by
  unfold gm65_61 at h
  refine ev_run (n := 1) (u' := (u1, u2)) (f' := (62, [some (.ref 1), some (.int a1), none, none], [.int 0])) (h' := hp N x) rfl ?_
  exact em65_62 a1 0 (by omega) (by omega) x _ h
def gm65_123 (a1 : Int32) (s1 : Int32) (s2 : Int32) (x : Hs) : Option ((Int32 ⊕ Nat) × Hs) := cond (aIn s1 5) (gm65_124 a1 (wI x 58 (xi s1) s2)) none
theorem em65_123 {N : Nat} {u1 u2 : Nat} (a1 : Int32) (a2 : Int32) (a3 : Int32) (s1 : Int32) (s2 : Int32) (hu1 : u1 + 0 ≤ 4) (hu2 : u2 + 0 ≤ 24) (x : Hs) (r : (Int32 ⊕ Nat) × Hs) (h : gm65_123 a1 s1 s2 x = some r) : Ev 65 (u1, u2) (123, [some (.ref 1), some (.int a1), some (.int a2), some (.int a3)], [.int s2, .int s1, .ref 58]) (hp N x) (cvXi N r) := by
  unfold gm65_123 at h
  obtain ⟨h39, h⟩ := cond_some h
  refine ev_iast rfl rfl h39 ?_
  show Ev 65 (u1, u2) (124, [some (.ref 1), some (.int a1), some (.int a2), some (.int a3)], []) (hp N (wI x 58 (xi s1) s2)) _
  exact em65_124_k1 a1 a2 a3 (by omega) (by omega) (wI x 58 (xi s1) s2) _ h
theorem em65_123_k1 {N : Nat} {u1 u2 : Nat} (a1 : Int32) (s1 : Int32) (s2 : Int32) (hu1 : u1 + 0 ≤ 4) (hu2 : u2 + 0 ≤ 24) (x : Hs) (r : (Int32 ⊕ Nat) × Hs) (h : gm65_123 a1 s1 s2 x = some r) : Ev 65 (u1, u2) (123, [some (.ref 1), some (.int a1), none, none], [.int s2, .int s1, .ref 58]) (hp N x) (cvXi N r) := by
  unfold gm65_123 at h
  obtain ⟨h40, h⟩ := cond_some h
  refine ev_iast rfl rfl h40 ?_
  show Ev 65 (u1, u2) (124, [some (.ref 1), some (.int a1), none, none], []) (hp N (wI x 58 (xi s1) s2)) _
  exact em65_124 a1 (by omega) (by omega) (wI x 58 (xi s1) s2) _ h
def gm65_94 (a1 : Int32) (a2 : Int32) (a3 : Int32) (s0 : Int32) (x : Hs) : Option ((Int32 ⊕ Nat) × Hs) := (gm93 s0 x).bind fun w25 => match w25 with | (.inl _, x29) => (if a3 = (-2) then (gm65_123 a1 a1 0 x29) else (gm65_123 a1 a1 (if (a3 + a2) < 100 then (a3 + a2) else 100) x29)) | (.inr k28, x29) => (cond (Nat.blt k28 3) (some (.inr k28, x29)) none)
theorem em65_94 {N : Nat} {u1 u2 : Nat} (a1 : Int32) (a2 : Int32) (a3 : Int32) (s0 : Int32) (hu1 : u1 + 1 ≤ 4) (hu2 : u2 + 6 ≤ 24) (x : Hs) (r : (Int32 ⊕ Nat) × Hs) (h : gm65_94 a1 a2 a3 s0 x = some r) : Ev 65 (u1, u2) (94, [some (.ref 1), some (.int a1), some (.int a2), some (.int a3)], [.int s0]) (hp N x) (cvXi N r) := by
  unfold gm65_94 at h
  obtain ⟨w25, h26, h⟩ := bind_ok h
  obtain ⟨w25, x29⟩ := w25
  cases w25 with
  | inl v27 =>
    refine ev_call (v := none) (h1 := hp N x29) rfl rfl rfl (ok_u rfl (by show u1 + 1 ≤ 4; omega) (by show u2 + 6 ≤ 24; omega)) (em93 s0 (by decide) (by decide) x _ h26) ?_
    show Ev 65 (u1 + 1, u2 + 6) (97, [some (.ref 1), some (.int a1), some (.int a2), some (.int a3)], []) (hp N x29) _
    refine ev_run (n := 6) (u' := (u1 + 1, u2 + 6)) (f' := (108, [some (.ref 1), some (.int a1), some (.int a2), some (.int a3)], [.int (-2), .int a3, .int a1, .ref 58])) (h' := hp N x29) rfl ?_
    rcases ite_or h with ⟨h30, h⟩ | ⟨h30, h⟩
    · refine ev_icf rfl (decide_eq_false (fun w => w h30)) ?_
      refine ev_run (n := 2) (u' := (u1 + 1, u2 + 6)) (f' := (123, [some (.ref 1), some (.int a1), none, none], [.int 0, .int a1, .ref 58])) (h' := hp N x29) rfl ?_
      exact em65_123_k1 a1 a1 0 (by omega) (by omega) x29 _ h
    · refine ev_ict rfl (decide_eq_true h30) ?_
      refine ev_run (n := 4) (u' := (u1 + 1, u2 + 6)) (f' := (120, [some (.ref 1), some (.int a1), some (.int a2), some (.int a3)], [.int (a3 + a2), .int 100, .int a1, .ref 58])) (h' := hp N x29) rfl ?_
      refine ev_mm rfl rfl rfl (by show _ ≤ 4; omega) (by show _ ≤ 24; omega) ?_
      show Ev 65 (u1 + 1, u2 + 6) (123, [some (.ref 1), some (.int a1), some (.int a2), some (.int a3)], [.int (if (a3 + a2) < 100 then (a3 + a2) else 100), .int a1, .ref 58]) (hp N x29) _
      exact em65_123 a1 a2 a3 a1 (if (a3 + a2) < 100 then (a3 + a2) else 100) (by omega) (by omega) x29 _ h
  | inr k28 =>
    obtain ⟨h31, h⟩ := cond_some h
    cases h
    exact ev_callX (h1 := hp N x29) rfl rfl rfl (ok_u rfl (by show u1 + 1 ≤ 4; omega) (by show u2 + 6 ≤ 24; omega)) h31 rfl (em93 s0 (by decide) (by decide) x _ h26)
def gm65_93 (a1 : Int32) (a2 : Int32) (a3 : Int32) (x : Hs) : Option ((Int32 ⊕ Nat) × Hs) := gm65_94 a1 a2 a3 0 x
theorem em65_93 {N : Nat} {u1 u2 : Nat} (a1 : Int32) (a2 : Int32) (a3 : Int32) (hu1 : u1 + 1 ≤ 4) (hu2 : u2 + 6 ≤ 24) (x : Hs) (r : (Int32 ⊕ Nat) × Hs) (h : gm65_93 a1 a2 a3 x = some r) : Ev 65 (u1, u2) (93, [some (.ref 1), some (.int a1), some (.int a2), some (.int a3)], []) (hp N x) (cvXi N r) := by
  unfold gm65_93 at h
  refine ev_run (n := 1) (u' := (u1, u2)) (f' := (94, [some (.ref 1), some (.int a1), some (.int a2), some (.int a3)], [.int 0])) (h' := hp N x) rfl ?_
  exact em65_94 a1 a2 a3 0 (by omega) (by omega) x _ h
def gm65_25 (a1 : Int32) (a2 : Int32) (s0 : Int32) (x : Hs) : Option ((Int32 ⊕ Nat) × Hs) := (gm92 s0 x).bind fun w11 => match w11 with | (.inl _, x15) => (cond (aIn a1 5) (if a2 = (-1) then (if x15.1 58 (xi a1) = 100 then ((gm105 a1 x15).bind fun w19 => (if w19 = 0 then (gm65_62 a1 1 x15) else (gm65_61 a1 x15))) else (gm65_61 a1 x15)) else (if x15.1 58 (xi a1) = (-1) then (gm65_93 a1 a2 (x15.1 58 (xi a1)) x15) else (if x15.1 58 (xi a1) = 100 then (gm65_93 a1 a2 (x15.1 58 (xi a1)) x15) else (gm65_94 a1 a2 (x15.1 58 (xi a1)) 1 x15)))) none) | (.inr k14, x15) => (cond (Nat.blt k14 3) (some (.inr k14, x15)) none)
theorem em65_25 {N : Nat} {u1 u2 : Nat} (a1 : Int32) (a2 : Int32) (s0 : Int32) (hu1 : u1 + 2 ≤ 4) (hu2 : u2 + 12 ≤ 24) (x : Hs) (r : (Int32 ⊕ Nat) × Hs) (h : gm65_25 a1 a2 s0 x = some r) : Ev 65 (u1, u2) (25, [some (.ref 1), some (.int a1), some (.int a2), none], [.int s0]) (hp N x) (cvXi N r) := by
  unfold gm65_25 at h
  obtain ⟨w11, h12, h⟩ := bind_ok h
  obtain ⟨w11, x15⟩ := w11
  cases w11 with
  | inl v13 =>
    refine ev_call (v := none) (h1 := hp N x15) rfl rfl rfl (ok_u rfl (by show u1 + 1 ≤ 4; omega) (by show u2 + 6 ≤ 24; omega)) (em92 s0 (by decide) (by decide) x _ h12) ?_
    show Ev 65 (u1 + 1, u2 + 6) (28, [some (.ref 1), some (.int a1), some (.int a2), none], []) (hp N x15) _
    refine ev_run (n := 4) (u' := (u1 + 1, u2 + 6)) (f' := (36, [some (.ref 1), some (.int a1), some (.int a2), none], [.int a1, .ref 58])) (h' := hp N x15) rfl ?_
    obtain ⟨h16, h⟩ := cond_some h
    refine ev_iald rfl rfl h16 ?_
    refine ev_run (n := 3) (u' := (u1 + 1, u2 + 6)) (f' := (40, [some (.ref 1), some (.int a1), some (.int a2), some (.int (x15.1 58 (xi a1)))], [.int (-1), .int a2])) (h' := hp N x15) rfl ?_
    rcases ite_or h with ⟨h23, h⟩ | ⟨h23, h⟩
    · refine ev_icf rfl (decide_eq_false (fun w => w h23)) ?_
      refine ev_run (n := 2) (u' := (u1 + 1, u2 + 6)) (f' := (46, [some (.ref 1), some (.int a1), some (.int a2), some (.int (x15.1 58 (xi a1)))], [.int 100, .int (x15.1 58 (xi a1))])) (h' := hp N x15) rfl ?_
      rcases ite_or h with ⟨h22, h⟩ | ⟨h22, h⟩
      · refine ev_icf rfl (decide_eq_false (fun w => w h22)) ?_
        refine ev_run (n := 2) (u' := (u1 + 1, u2 + 6)) (f' := (51, [some (.ref 1), some (.int a1), some (.int a2), some (.int (x15.1 58 (xi a1)))], [.int a1, .ref 1])) (h' := hp N x15) rfl ?_
        obtain ⟨w19, h20, h⟩ := bind_ok h
        refine ev_call (v := some (.int w19)) (h1 := hp N x15) rfl rfl rfl (ok_u rfl (by show u1 + 1 + 0 ≤ 4; omega) (by show u2 + 6 + 0 ≤ 24; omega)) (em105 a1 x15 _ h20) ?_
        show Ev 65 (u1 + 1, u2 + 6) (54, [some (.ref 1), some (.int a1), some (.int a2), some (.int (x15.1 58 (xi a1)))], [.int w19]) (hp N x15) _
        rcases ite_or h with ⟨h21, h⟩ | ⟨h21, h⟩
        · refine ev_iff rfl (decide_eq_false (fun w => w h21)) ?_
          refine ev_run (n := 2) (u' := (u1 + 1, u2 + 6)) (f' := (62, [some (.ref 1), some (.int a1), none, none], [.int 1])) (h' := hp N x15) rfl ?_
          exact em65_62 a1 1 (by omega) (by omega) x15 _ h
        · refine ev_ift rfl (decide_eq_true h21) ?_
          exact em65_61 a1 (by omega) (by omega) x15 _ h
      · refine ev_ict rfl (decide_eq_true h22) ?_
        exact em65_61 a1 (by omega) (by omega) x15 _ h
    · refine ev_ict rfl (decide_eq_true h23) ?_
      refine ev_run (n := 2) (u' := (u1 + 1, u2 + 6)) (f' := (80, [some (.ref 1), some (.int a1), some (.int a2), some (.int (x15.1 58 (xi a1)))], [.int (-1), .int (x15.1 58 (xi a1))])) (h' := hp N x15) rfl ?_
      rcases ite_or h with ⟨h18, h⟩ | ⟨h18, h⟩
      · refine ev_ict rfl (decide_eq_true h18) ?_
        exact em65_93 a1 a2 (x15.1 58 (xi a1)) (by omega) (by omega) x15 _ h
      · refine ev_icf rfl (decide_eq_false h18) ?_
        refine ev_run (n := 2) (u' := (u1 + 1, u2 + 6)) (f' := (86, [some (.ref 1), some (.int a1), some (.int a2), some (.int (x15.1 58 (xi a1)))], [.int 100, .int (x15.1 58 (xi a1))])) (h' := hp N x15) rfl ?_
        rcases ite_or h with ⟨h17, h⟩ | ⟨h17, h⟩
        · refine ev_ict rfl (decide_eq_true h17) ?_
          exact em65_93 a1 a2 (x15.1 58 (xi a1)) (by omega) (by omega) x15 _ h
        · refine ev_icf rfl (decide_eq_false h17) ?_
          refine ev_run (n := 2) (u' := (u1 + 1, u2 + 6)) (f' := (94, [some (.ref 1), some (.int a1), some (.int a2), some (.int (x15.1 58 (xi a1)))], [.int 1])) (h' := hp N x15) rfl ?_
          exact em65_94 a1 a2 (x15.1 58 (xi a1)) 1 (by omega) (by omega) x15 _ h
  | inr k14 =>
    obtain ⟨h24, h⟩ := cond_some h
    cases h
    exact ev_callX (h1 := hp N x15) rfl rfl rfl (ok_u rfl (by show u1 + 1 ≤ 4; omega) (by show u2 + 6 ≤ 24; omega)) h24 rfl (em92 s0 (by decide) (by decide) x _ h12)
def gm65_20 (a1 : Int32) (a2 : Int32) (x : Hs) : Option ((Int32 ⊕ Nat) × Hs) := gm65_25 a1 a2 1 x
theorem em65_20 {N : Nat} {u1 u2 : Nat} (a1 : Int32) (a2 : Int32) (hu1 : u1 + 2 ≤ 4) (hu2 : u2 + 12 ≤ 24) (x : Hs) (r : (Int32 ⊕ Nat) × Hs) (h : gm65_20 a1 a2 x = some r) : Ev 65 (u1, u2) (20, [some (.ref 1), some (.int a1), some (.int a2), none], []) (hp N x) (cvXi N r) := by
  unfold gm65_20 at h
  refine ev_run (n := 2) (u' := (u1, u2)) (f' := (25, [some (.ref 1), some (.int a1), some (.int a2), none], [.int 1])) (h' := hp N x) rfl ?_
  exact em65_25 a1 a2 1 (by omega) (by omega) x _ h
def gm65 (a1 : Int32) (a2 : Int32) (x : Hs) : Option ((Int32 ⊕ Nat) × Hs) := (gm91 a1 5 x).bind fun w1 => match w1 with | (.inl _, x5) => (if a2 = (-1) then (gm65_20 a1 a2 x5) else ((gm99 a2 1 100 x5).bind fun w6 => (if w6 = 0 then (gm65_25 a1 a2 0 x5) else (gm65_20 a1 a2 x5)))) | (.inr k4, x5) => (cond (Nat.blt k4 3) (some (.inr k4, x5)) none)
theorem em65 {N : Nat} {u1 u2 : Nat} (a1 : Int32) (a2 : Int32) (hu1 : u1 + 3 ≤ 4) (hu2 : u2 + 18 ≤ 24) (x : Hs) (r : (Int32 ⊕ Nat) × Hs) (h : gm65 a1 a2 x = some r) : Ev 65 (u1, u2) (0, aPad [.ref 1, .int a1, .int a2] 4, []) (hp N x) (cvXi N r) := by
  show Ev 65 (u1, u2) (0, [some (.ref 1), some (.int a1), some (.int a2), none], []) (hp N x) _
  unfold gm65 at h
  refine ev_run (n := 2) (u' := (u1, u2)) (f' := (2, [some (.ref 1), some (.int a1), some (.int a2), none], [.int 5, .int a1])) (h' := hp N x) rfl ?_
  obtain ⟨w1, h2, h⟩ := bind_ok h
  obtain ⟨w1, x5⟩ := w1
  cases w1 with
  | inl v3 =>
    refine ev_call (v := none) (h1 := hp N x5) rfl rfl rfl (ok_u rfl (by show u1 + 1 ≤ 4; omega) (by show u2 + 6 ≤ 24; omega)) (em91 a1 5 (by decide) (by decide) x _ h2) ?_
    show Ev 65 (u1 + 1, u2 + 6) (5, [some (.ref 1), some (.int a1), some (.int a2), none], []) (hp N x5) _
    refine ev_run (n := 2) (u' := (u1 + 1, u2 + 6)) (f' := (7, [some (.ref 1), some (.int a1), some (.int a2), none], [.int (-1), .int a2])) (h' := hp N x5) rfl ?_
    rcases ite_or h with ⟨h9, h⟩ | ⟨h9, h⟩
    · refine ev_ict rfl (decide_eq_true h9) ?_
      exact em65_20 a1 a2 (by omega) (by omega) x5 _ h
    · refine ev_icf rfl (decide_eq_false h9) ?_
      refine ev_run (n := 3) (u' := (u1 + 1, u2 + 6)) (f' := (14, [some (.ref 1), some (.int a1), some (.int a2), none], [.int 100, .int 1, .int a2])) (h' := hp N x5) rfl ?_
      obtain ⟨w6, h7, h⟩ := bind_ok h
      refine ev_call (v := some (.int w6)) (h1 := hp N x5) rfl rfl rfl (ok_u rfl (by show u1 + 1 + 0 ≤ 4; omega) (by show u2 + 6 + 0 ≤ 24; omega)) (em99 a2 1 100 x5 _ h7) ?_
      show Ev 65 (u1 + 1, u2 + 6) (17, [some (.ref 1), some (.int a1), some (.int a2), none], [.int w6]) (hp N x5) _
      rcases ite_or h with ⟨h8, h⟩ | ⟨h8, h⟩
      · refine ev_ift rfl (decide_eq_true h8) ?_
        refine ev_run (n := 1) (u' := (u1 + 1, u2 + 6)) (f' := (25, [some (.ref 1), some (.int a1), some (.int a2), none], [.int 0])) (h' := hp N x5) rfl ?_
        exact em65_25 a1 a2 0 (by omega) (by omega) x5 _ h
      · refine ev_iff rfl (decide_eq_false h8) ?_
        exact em65_20 a1 a2 (by omega) (by omega) x5 _ h
  | inr k4 =>
    obtain ⟨h10, h⟩ := cond_some h
    cases h
    exact ev_callX (h1 := hp N x5) rfl rfl rfl (ok_u rfl (by show u1 + 1 ≤ 4; omega) (by show u2 + 6 ≤ 24; omega)) h10 rfl (em91 a1 5 (by decide) (by decide) x _ h2)
def gm66_53 (a1 : Int32) (a2 : Int32) (s0 : Int32) (x : Hs) : Option ((Int32 ⊕ Nat) × Hs) := (gm93 s0 x).bind fun w15 => match w15 with | (.inl _, x19) => (cond (aIn a2 5) ((gm57 (93 + xi a2) a1 x19).bind fun w21 => (some (.inl a2, w21))) none) | (.inr k18, x19) => (cond (Nat.blt k18 3) (some (.inr k18, x19)) none)
theorem em66_53 {N : Nat} {u1 u2 : Nat} (a1 : Int32) (a2 : Int32) (s0 : Int32) (hu1 : u1 + 1 ≤ 2) (hu2 : u2 + 6 ≤ 12) (x : Hs) (r : (Int32 ⊕ Nat) × Hs) (h : gm66_53 a1 a2 s0 x = some r) : Ev 66 (u1, u2) (53, [some (.ref 1), some (.int a1), some (.int a2)], [.int s0]) (hp N x) (cvXi N r) := by
  unfold gm66_53 at h
  obtain ⟨w15, h16, h⟩ := bind_ok h
  obtain ⟨w15, x19⟩ := w15
  cases w15 with
  | inl v17 =>
    refine ev_call (v := none) (h1 := hp N x19) rfl rfl rfl (ok_u rfl (by show u1 + 1 ≤ 2; omega) (by show u2 + 6 ≤ 12; omega)) (em93 s0 (by decide) (by decide) x _ h16) ?_
    show Ev 66 (u1 + 1, u2 + 6) (56, [some (.ref 1), some (.int a1), some (.int a2)], []) (hp N x19) _
    refine ev_run (n := 3) (u' := (u1 + 1, u2 + 6)) (f' := (61, [some (.ref 1), some (.int a1), some (.int a2)], [.int a2, .ref 92])) (h' := hp N x19) rfl ?_
    obtain ⟨h20, h⟩ := cond_some h
    refine ev_aald rfl rfl h20 (rf_92 h20) ?_
    refine ev_run (n := 1) (u' := (u1 + 1, u2 + 6)) (f' := (63, [some (.ref 1), some (.int a1), some (.int a2)], [.int a1, .ref (93 + xi a2)])) (h' := hp N x19) rfl ?_
    obtain ⟨w21, h22, h⟩ := bind_ok h
    refine ev_call (v := none) (h1 := hp N w21) rfl rfl rfl (ok_q (q0 := 93) (h0 := hp N (x0 (fun _ => 0))) (RO_lt N _ (lt_of_aIn h20)) (ok_u rfl (by show u1 + 1 + 0 ≤ 2; omega) (by show u2 + 6 + 0 ≤ 12; omega))) (em57 (93 + xi a2) a1 (RO_lt N _ (lt_of_aIn h20)) x19 _ h22) ?_
    show Ev 66 (u1 + 1, u2 + 6) (66, [some (.ref 1), some (.int a1), some (.int a2)], []) (hp N w21) _
    refine ev_run (n := 1) (u' := (u1 + 1, u2 + 6)) (f' := (67, [some (.ref 1), some (.int a1), some (.int a2)], [.int a2])) (h' := hp N w21) rfl ?_
    cases h
    exact ev_iret rfl (end_u (by show _ ≤ 2; omega) (by show _ ≤ 12; omega)) rfl (Or.inl rfl)
  | inr k18 =>
    obtain ⟨h23, h⟩ := cond_some h
    cases h
    exact ev_callX (h1 := hp N x19) rfl rfl rfl (ok_u rfl (by show u1 + 1 ≤ 2; omega) (by show u2 + 6 ≤ 12; omega)) h23 rfl (em93 s0 (by decide) (by decide) x _ h16)
def gm66_52 (a1 : Int32) (a2 : Int32) (x : Hs) : Option ((Int32 ⊕ Nat) × Hs) := gm66_53 a1 a2 0 x
theorem em66_52 {N : Nat} {u1 u2 : Nat} (a1 : Int32) (a2 : Int32) (hu1 : u1 + 1 ≤ 2) (hu2 : u2 + 6 ≤ 12) (x : Hs) (r : (Int32 ⊕ Nat) × Hs) (h : gm66_52 a1 a2 x = some r) : Ev 66 (u1, u2) (52, [some (.ref 1), some (.int a1), some (.int a2)], []) (hp N x) (cvXi N r) := by
  unfold gm66_52 at h
  refine ev_run (n := 1) (u' := (u1, u2)) (f' := (53, [some (.ref 1), some (.int a1), some (.int a2)], [.int 0])) (h' := hp N x) rfl ?_
  exact em66_53 a1 a2 0 (by omega) (by omega) x _ h
def gm66 (a1 : Int32) (x : Hs) : Option ((Int32 ⊕ Nat) × Hs) := (gm95 a1 x).bind fun w1 => match w1 with | (.inl _, x5) => (cond (aIn a1 24) (cond (aIn (x5.1 4 (xi a1)) 5) (if x5.1 (93 + xi (x5.1 4 (xi a1))) 0 = (-1) then ((gm102 a1 x5).bind fun w8 => (if w8 = 0 then (cond (aIn a1 24) (if x5.1 57 (xi a1) = 0 then (gm66_53 a1 (x5.1 4 (xi a1)) 1 x5) else (gm66_52 a1 (x5.1 4 (xi a1)) x5)) none) else (gm66_52 a1 (x5.1 4 (xi a1)) x5))) else (gm66_52 a1 (x5.1 4 (xi a1)) x5)) none) none) | (.inr k4, x5) => (cond (Nat.blt k4 3) (some (.inr k4, x5)) none)
theorem em66 {N : Nat} {u1 u2 : Nat} (a1 : Int32) (hu1 : u1 + 2 ≤ 2) (hu2 : u2 + 12 ≤ 12) (x : Hs) (r : (Int32 ⊕ Nat) × Hs) (h : gm66 a1 x = some r) : Ev 66 (u1, u2) (0, aPad [.ref 1, .int a1] 3, []) (hp N x) (cvXi N r) := by
  show Ev 66 (u1, u2) (0, [some (.ref 1), some (.int a1), none], []) (hp N x) _
  unfold gm66 at h
  refine ev_run (n := 2) (u' := (u1, u2)) (f' := (2, [some (.ref 1), some (.int a1), none], [.int a1, .ref 1])) (h' := hp N x) rfl ?_
  obtain ⟨w1, h2, h⟩ := bind_ok h
  obtain ⟨w1, x5⟩ := w1
  cases w1 with
  | inl v3 =>
    refine ev_call (v := none) (h1 := hp N x5) rfl rfl rfl (ok_u rfl (by show u1 + 1 ≤ 2; omega) (by show u2 + 6 ≤ 12; omega)) (em95 a1 (by decide) (by decide) x _ h2) ?_
    show Ev 66 (u1 + 1, u2 + 6) (5, [some (.ref 1), some (.int a1), none], []) (hp N x5) _
    refine ev_run (n := 4) (u' := (u1 + 1, u2 + 6)) (f' := (13, [some (.ref 1), some (.int a1), none], [.int a1, .ref 4])) (h' := hp N x5) rfl ?_
    obtain ⟨h6, h⟩ := cond_some h
    refine ev_iald rfl rfl h6 ?_
    refine ev_run (n := 4) (u' := (u1 + 1, u2 + 6)) (f' := (20, [some (.ref 1), some (.int a1), some (.int (x5.1 4 (xi a1)))], [.int (x5.1 4 (xi a1)), .ref 92])) (h' := hp N x5) rfl ?_
    obtain ⟨h7, h⟩ := cond_some h
    refine ev_aald rfl rfl h7 (rf_92 h7) ?_
    refine ev_gfi rfl rfl (RO_lt N _ (lt_of_aIn h7)) ?_
    refine ev_run (n := 1) (u' := (u1 + 1, u2 + 6)) (f' := (25, [some (.ref 1), some (.int a1), some (.int (x5.1 4 (xi a1)))], [.int (-1), .int (x5.1 (93 + xi (x5.1 4 (xi a1))) 0)])) (h' := hp N x5) rfl ?_
    rcases ite_or h with ⟨h13, h⟩ | ⟨h13, h⟩
    · refine ev_icf rfl (decide_eq_false (fun w => w h13)) ?_
      refine ev_run (n := 2) (u' := (u1 + 1, u2 + 6)) (f' := (30, [some (.ref 1), some (.int a1), some (.int (x5.1 4 (xi a1)))], [.int a1, .ref 1])) (h' := hp N x5) rfl ?_
      obtain ⟨w8, h9, h⟩ := bind_ok h
      refine ev_call (v := some (.int w8)) (h1 := hp N x5) rfl rfl rfl (ok_u rfl (by show u1 + 1 + 0 ≤ 2; omega) (by show u2 + 6 + 0 ≤ 12; omega)) (em102 a1 x5 _ h9) ?_
      show Ev 66 (u1 + 1, u2 + 6) (33, [some (.ref 1), some (.int a1), some (.int (x5.1 4 (xi a1)))], [.int w8]) (hp N x5) _
      rcases ite_or h with ⟨h12, h⟩ | ⟨h12, h⟩
      · refine ev_iff rfl (decide_eq_false (fun w => w h12)) ?_
        refine ev_run (n := 4) (u' := (u1 + 1, u2 + 6)) (f' := (44, [some (.ref 1), some (.int a1), some (.int (x5.1 4 (xi a1)))], [.int a1, .ref 57])) (h' := hp N x5) rfl ?_
        obtain ⟨h10, h⟩ := cond_some h
        refine ev_bald rfl rfl h10 ?_
        rcases ite_or h with ⟨h11, h⟩ | ⟨h11, h⟩
        · refine ev_iff rfl (decide_eq_false (fun w => w h11)) ?_
          refine ev_run (n := 2) (u' := (u1 + 1, u2 + 6)) (f' := (53, [some (.ref 1), some (.int a1), some (.int (x5.1 4 (xi a1)))], [.int 1])) (h' := hp N x5) rfl ?_
          exact em66_53 a1 (x5.1 4 (xi a1)) 1 (by omega) (by omega) x5 _ h
        · refine ev_ift rfl (decide_eq_true h11) ?_
          exact em66_52 a1 (x5.1 4 (xi a1)) (by omega) (by omega) x5 _ h
      · refine ev_ift rfl (decide_eq_true h12) ?_
        exact em66_52 a1 (x5.1 4 (xi a1)) (by omega) (by omega) x5 _ h
    · refine ev_ict rfl (decide_eq_true h13) ?_
      exact em66_52 a1 (x5.1 4 (xi a1)) (by omega) (by omega) x5 _ h
  | inr k4 =>
    obtain ⟨h14, h⟩ := cond_some h
    cases h
    exact ev_callX (h1 := hp N x5) rfl rfl rfl (ok_u rfl (by show u1 + 1 ≤ 2; omega) (by show u2 + 6 ≤ 12; omega)) h14 rfl (em95 a1 (by decide) (by decide) x _ h2)
def gm107_46 (s0 : Int32) (x : Hs) : Option (Int32 × Hs) := if s0 = 0 then (some (6, x)) else (some (0, x))
theorem em107_46 {N : Nat} (s0 : Int32) (x : Hs) (r : Int32 × Hs) (h : gm107_46 s0 x = some r) : Ev 107 (0, 0) (46, [none, none, none, none, none], [.int s0]) (hp N x) (cvMi N r) := by
  unfold gm107_46 at h
  refine ev_run (n := 2) (u' := (0, 0)) (f' := (50, [none, none, none, none, some (.int s0)], [.int s0])) (h' := hp N x) rfl ?_
  rcases ite_or h with ⟨h7, h⟩ | ⟨h7, h⟩
  · refine ev_ift rfl (decide_eq_true h7) ?_
    refine ev_run (n := 1) (u' := (0, 0)) (f' := (59, [none, none, none, none, none], [.int 6])) (h' := hp N x) rfl ?_
    cases h
    exact ev_iret rfl rfl rfl (Or.inl rfl)
  · refine ev_iff rfl (decide_eq_false h7) ?_
    refine ev_run (n := 2) (u' := (0, 0)) (f' := (59, [none, none, none, none, none], [.int 0])) (h' := hp N x) rfl ?_
    cases h
    exact ev_iret rfl rfl rfl (Or.inl rfl)
def gm107_41 (x : Hs) : Option (Int32 × Hs) := gm107_46 1 x
theorem em107_41 {N : Nat} (x : Hs) (r : Int32 × Hs) (h : gm107_41 x = some r) : Ev 107 (0, 0) (41, [none, none, none, none, none], []) (hp N x) (cvMi N r) := by
  unfold gm107_41 at h
  refine ev_run (n := 2) (u' := (0, 0)) (f' := (46, [none, none, none, none, none], [.int 1])) (h' := hp N x) rfl ?_
  exact em107_46 1 x _ h
theorem em107_41_k1 {N : Nat} (a2 : Nat) (fa2 : RO N a2) (x : Hs) (r : Int32 × Hs) (h : gm107_41 x = some r) : Ev 107 (0, 0) (41, [some (.ref 1), none, some (.ref a2), none, none], []) (hp N x) (cvMi N r) := by
  unfold gm107_41 at h
  refine ev_run (n := 2) (u' := (0, 0)) (f' := (46, [none, none, none, none, none], [.int 1])) (h' := hp N x) rfl ?_
  exact em107_46 1 x _ h
def gm107 (a1 : Int32) (a2 : Nat) (a3 : Nat) (x : Hs) : Option (Int32 × Hs) := cond (aIn a1 5) ((gm48 a3 a1 (x.1 (a3 + 1) (xi a1)) (x.1 a2 0) x).bind fun w2 => (if w2.1 = 0 then (some (5, w2.2)) else (if w2.2.1 a2 1 = 0 then (gm107_41 w2.2) else (if (w2.2.1 1 8 - w2.2.1 a2 2) < 30 then (gm107_46 0 w2.2) else (gm107_41 w2.2))))) none
theorem em107 {N : Nat} (a1 : Int32) (a2 : Nat) (a3 : Nat) (fa2 : RO N a2) (fa3 : RG N a3) (x : Hs) (r : Int32 × Hs) (h : gm107 a1 a2 a3 x = some r) : Ev 107 (0, 0) (0, aPad [.ref 1, .int a1, .ref a2, .ref a3] 5, []) (hp N x) (cvMi N r) := by
  show Ev 107 (0, 0) (0, [some (.ref 1), some (.int a1), some (.ref a2), some (.ref a3), none], []) (hp N x) _
  unfold gm107 at h
  refine ev_run (n := 3) (u' := (0, 0)) (f' := (3, [some (.ref 1), some (.int a1), some (.ref a2), some (.ref a3), none], [.ref a3, .int a1, .ref a3])) (h' := hp N x) rfl ?_
  refine ev_gfr rfl rfl fa3.1 (fa3.fd (by decide) (by decide)) ?_
  refine ev_run (n := 1) (u' := (0, 0)) (f' := (7, [some (.ref 1), some (.int a1), some (.ref a2), some (.ref a3), none], [.int a1, .ref (a3 + 1), .int a1, .ref a3])) (h' := hp N x) rfl ?_
  obtain ⟨h1, h⟩ := cond_some h
  refine ev_iald rfl fa3.2.2.1.kd (fa3.2.2.1.ln h1) ?_
  refine ev_run (n := 1) (u' := (0, 0)) (f' := (9, [some (.ref 1), some (.int a1), some (.ref a2), some (.ref a3), none], [.ref a2, .int (x.1 (a3 + 1) (xi a1)), .int a1, .ref a3])) (h' := hp N x) rfl ?_
  refine ev_gfi rfl rfl fa2 ?_
  obtain ⟨w2, h3, h⟩ := bind_ok h
  refine ev_call (v := some (.int w2.1)) (h1 := hp N w2.2) rfl rfl rfl (ok_q (q0 := 60) (h0 := hp N (x0 (fun _ => 0))) fa3.1 rfl) (em48 a3 a1 (x.1 (a3 + 1) (xi a1)) (x.1 a2 0) fa3 x _ h3) ?_
  show Ev 107 (0, 0) (15, [some (.ref 1), some (.int a1), some (.ref a2), some (.ref a3), none], [.int w2.1]) (hp N w2.2) _
  rcases ite_or h with ⟨h6, h⟩ | ⟨h6, h⟩
  · refine ev_iff rfl (decide_eq_false (fun w => w h6)) ?_
    refine ev_run (n := 1) (u' := (0, 0)) (f' := (19, [some (.ref 1), some (.int a1), some (.ref a2), some (.ref a3), none], [.int 5])) (h' := hp N w2.2) rfl ?_
    cases h
    exact ev_iret rfl rfl rfl (Or.inl rfl)
  · refine ev_ift rfl (decide_eq_true h6) ?_
    refine ev_run (n := 1) (u' := (0, 0)) (f' := (21, [some (.ref 1), none, some (.ref a2), none, none], [.ref a2])) (h' := hp N w2.2) rfl ?_
    refine ev_gfi rfl rfl fa2 ?_
    rcases ite_or h with ⟨h5, h⟩ | ⟨h5, h⟩
    · refine ev_ift rfl (decide_eq_true h5) ?_
      exact em107_41 w2.2 _ h
    · refine ev_iff rfl (decide_eq_false h5) ?_
      refine ev_run (n := 3) (u' := (0, 0)) (f' := (32, [some (.ref 1), none, some (.ref a2), none, none], [.ref a2, .int (w2.2.1 1 8)])) (h' := hp N w2.2) rfl ?_
      refine ev_gfi rfl rfl fa2 ?_
      refine ev_run (n := 2) (u' := (0, 0)) (f' := (38, [some (.ref 1), none, some (.ref a2), none, none], [.int 30, .int (w2.2.1 1 8 - w2.2.1 a2 2)])) (h' := hp N w2.2) rfl ?_
      rcases ite_or h with ⟨h4, h⟩ | ⟨h4, h⟩
      · refine ev_ict rfl (decide_eq_true h4) ?_
        refine ev_run (n := 1) (u' := (0, 0)) (f' := (46, [none, none, none, none, none], [.int 0])) (h' := hp N w2.2) rfl ?_
        exact em107_46 0 w2.2 _ h
      · refine ev_icf rfl (decide_eq_false h4) ?_
        exact em107_41_k1 a2 fa2 w2.2 _ h
def gm108 (a1 : Int32) (a2 : Nat) (a3 : Nat) (x : Hs) : Option (Int32 × Hs) := (gm48 a3 a1 (x.1 a2 0) (-1) x).bind fun w1 => (if w1.1 = 0 then (some (5, w1.2)) else ((gm54 a3 a1 w1.2).bind fun w3 => (if w3 = 0 then ((gm55 a3 a1 w1.2).bind fun w5 => (if w5 = 0 then (some (0, w1.2)) else (some (8, w1.2)))) else (some (7, w1.2)))))
theorem em108 {N : Nat} (a1 : Int32) (a2 : Nat) (a3 : Nat) (fa2 : RO N a2) (fa3 : RG N a3) (x : Hs) (r : Int32 × Hs) (h : gm108 a1 a2 a3 x = some r) : Ev 108 (0, 0) (0, aPad [.ref 1, .int a1, .ref a2, .ref a3] 4, []) (hp N x) (cvMi N r) := by
  show Ev 108 (0, 0) (0, [some (.ref 1), some (.int a1), some (.ref a2), some (.ref a3)], []) (hp N x) _
  unfold gm108 at h
  refine ev_run (n := 3) (u' := (0, 0)) (f' := (3, [some (.ref 1), some (.int a1), some (.ref a2), some (.ref a3)], [.ref a2, .int a1, .ref a3])) (h' := hp N x) rfl ?_
  refine ev_gfi rfl rfl fa2 ?_
  refine ev_run (n := 1) (u' := (0, 0)) (f' := (7, [some (.ref 1), some (.int a1), some (.ref a2), some (.ref a3)], [.int (-1), .int (x.1 a2 0), .int a1, .ref a3])) (h' := hp N x) rfl ?_
  obtain ⟨w1, h2, h⟩ := bind_ok h
  refine ev_call (v := some (.int w1.1)) (h1 := hp N w1.2) rfl rfl rfl (ok_q (q0 := 60) (h0 := hp N (x0 (fun _ => 0))) fa3.1 rfl) (em48 a3 a1 (x.1 a2 0) (-1) fa3 x _ h2) ?_
  show Ev 108 (0, 0) (10, [some (.ref 1), some (.int a1), some (.ref a2), some (.ref a3)], [.int w1.1]) (hp N w1.2) _
  rcases ite_or h with ⟨h9, h⟩ | ⟨h9, h⟩
  · refine ev_iff rfl (decide_eq_false (fun w => w h9)) ?_
    refine ev_run (n := 1) (u' := (0, 0)) (f' := (14, [some (.ref 1), some (.int a1), some (.ref a2), some (.ref a3)], [.int 5])) (h' := hp N w1.2) rfl ?_
    cases h
    exact ev_iret rfl rfl rfl (Or.inl rfl)
  · refine ev_ift rfl (decide_eq_true h9) ?_
    refine ev_run (n := 2) (u' := (0, 0)) (f' := (17, [none, some (.int a1), none, some (.ref a3)], [.int a1, .ref a3])) (h' := hp N w1.2) rfl ?_
    obtain ⟨w3, h4, h⟩ := bind_ok h
    refine ev_call (v := some (.int w3)) (h1 := hp N w1.2) rfl rfl rfl (ok_q (q0 := 60) (h0 := hp N (x0 (fun _ => 0))) fa3.1 rfl) (em54 a3 a1 fa3 w1.2 _ h4) ?_
    show Ev 108 (0, 0) (20, [none, some (.int a1), none, some (.ref a3)], [.int w3]) (hp N w1.2) _
    rcases ite_or h with ⟨h8, h⟩ | ⟨h8, h⟩
    · refine ev_ift rfl (decide_eq_true h8) ?_
      refine ev_run (n := 2) (u' := (0, 0)) (f' := (28, [none, some (.int a1), none, some (.ref a3)], [.int a1, .ref a3])) (h' := hp N w1.2) rfl ?_
      obtain ⟨w5, h6, h⟩ := bind_ok h
      refine ev_call (v := some (.int w5)) (h1 := hp N w1.2) rfl rfl rfl (ok_q (q0 := 60) (h0 := hp N (x0 (fun _ => 0))) fa3.1 rfl) (em55 a3 a1 fa3 w1.2 _ h6) ?_
      show Ev 108 (0, 0) (31, [none, some (.int a1), none, some (.ref a3)], [.int w5]) (hp N w1.2) _
      rcases ite_or h with ⟨h7, h⟩ | ⟨h7, h⟩
      · refine ev_ift rfl (decide_eq_true h7) ?_
        refine ev_run (n := 1) (u' := (0, 0)) (f' := (40, [none, none, none, none], [.int 0])) (h' := hp N w1.2) rfl ?_
        cases h
        exact ev_iret rfl rfl rfl (Or.inl rfl)
      · refine ev_iff rfl (decide_eq_false h7) ?_
        refine ev_run (n := 2) (u' := (0, 0)) (f' := (40, [none, none, none, none], [.int 8])) (h' := hp N w1.2) rfl ?_
        cases h
        exact ev_iret rfl rfl rfl (Or.inl rfl)
    · refine ev_iff rfl (decide_eq_false h8) ?_
      refine ev_run (n := 1) (u' := (0, 0)) (f' := (25, [none, some (.int a1), none, some (.ref a3)], [.int 7])) (h' := hp N w1.2) rfl ?_
      cases h
      exact ev_iret rfl rfl rfl (Or.inl rfl)
def gm106_29 (a1 : Int32) (a2 : Nat) (x : Hs) : Option (Int32 × Hs) := cond (aIn a1 5) ((gm20 (x.1 3 (xi a1) ||| (1 <<< (a1 &&& 31))) x).bind fun w7 => (if w7 = 0 then ((gm3 a1 x).bind fun w9 => (if w9 = 0 then ((gm12 (x.1 a2 0) x).bind fun w11 => (if w11 = 0 then (some (4, x)) else (cond (aIn (x.1 a2 1) 4) (cond (aIn a1 5) (if x.1 ((60 + 8 * xi (x.1 a2 1)) + 2) (xi a1) = (-1) then ((gm107 a1 a2 (60 + 8 * xi (x.1 a2 1)) x).bind fun w17 => (some (w17.1, w17.2))) else ((gm108 a1 a2 (60 + 8 * xi (x.1 a2 1)) x).bind fun w15 => (some (w15.1, w15.2)))) none) none))) else (some (3, x)))) else (some (2, x)))) none
theorem em106_29 {N : Nat} (a1 : Int32) (a2 : Nat) (fa2 : RO N a2) (x : Hs) (r : Int32 × Hs) (h : gm106_29 a1 a2 x = some r) : Ev 106 (0, 0) (29, [some (.ref 1), some (.int a1), some (.ref a2), none], []) (hp N x) (cvMi N r) := by
  unfold gm106_29 at h
  refine ev_run (n := 6) (u' := (0, 0)) (f' := (41, [some (.ref 1), some (.int a1), some (.ref a2), none], [.int a1, .ref 3, .ref 115])) (h' := hp N x) rfl ?_
  obtain ⟨h6, h⟩ := cond_some h
  refine ev_iald rfl rfl h6 ?_
  refine ev_run (n := 4) (u' := (0, 0)) (f' := (46, [some (.ref 1), some (.int a1), some (.ref a2), none], [.int (x.1 3 (xi a1) ||| (1 <<< (a1 &&& 31))), .ref 115])) (h' := hp N x) rfl ?_
  obtain ⟨w7, h8, h⟩ := bind_ok h
  refine ev_call (v := some (.int w7)) (h1 := hp N x) rfl rfl rfl rfl (em20 (x.1 3 (xi a1) ||| (1 <<< (a1 &&& 31))) x _ h8) ?_
  show Ev 106 (0, 0) (49, [some (.ref 1), some (.int a1), some (.ref a2), none], [.int w7]) (hp N x) _
  rcases ite_or h with ⟨h22, h⟩ | ⟨h22, h⟩
  · refine ev_ift rfl (decide_eq_true h22) ?_
    refine ev_run (n := 3) (u' := (0, 0)) (f' := (59, [some (.ref 1), some (.int a1), some (.ref a2), none], [.int a1, .ref 103])) (h' := hp N x) rfl ?_
    obtain ⟨w9, h10, h⟩ := bind_ok h
    refine ev_call (v := some (.int w9)) (h1 := hp N x) rfl rfl rfl rfl (em3 a1 x _ h10) ?_
    show Ev 106 (0, 0) (62, [some (.ref 1), some (.int a1), some (.ref a2), none], [.int w9]) (hp N x) _
    rcases ite_or h with ⟨h21, h⟩ | ⟨h21, h⟩
    · refine ev_ift rfl (decide_eq_true h21) ?_
      refine ev_run (n := 3) (u' := (0, 0)) (f' := (72, [some (.ref 1), some (.int a1), some (.ref a2), none], [.ref a2, .ref 2])) (h' := hp N x) rfl ?_
      refine ev_gfi rfl rfl fa2 ?_
      obtain ⟨w11, h12, h⟩ := bind_ok h
      refine ev_call (v := some (.int w11)) (h1 := hp N x) rfl rfl rfl rfl (em12 (x.1 a2 0) x _ h12) ?_
      show Ev 106 (0, 0) (78, [some (.ref 1), some (.int a1), some (.ref a2), none], [.int w11]) (hp N x) _
      rcases ite_or h with ⟨h20, h⟩ | ⟨h20, h⟩
      · refine ev_iff rfl (decide_eq_false (fun w => w h20)) ?_
        refine ev_run (n := 1) (u' := (0, 0)) (f' := (82, [some (.ref 1), some (.int a1), some (.ref a2), none], [.int 4])) (h' := hp N x) rfl ?_
        cases h
        exact ev_iret rfl rfl rfl (Or.inl rfl)
      · refine ev_ift rfl (decide_eq_true h20) ?_
        refine ev_run (n := 3) (u' := (0, 0)) (f' := (88, [some (.ref 1), some (.int a1), some (.ref a2), none], [.ref a2, .ref 59])) (h' := hp N x) rfl ?_
        refine ev_gfi rfl rfl fa2 ?_
        obtain ⟨h13, h⟩ := cond_some h
        refine ev_aald rfl rfl h13 (rf_59 h13) ?_
        refine ev_run (n := 2) (u' := (0, 0)) (f' := (94, [some (.ref 1), some (.int a1), some (.ref a2), some (.ref (60 + 8 * xi (x.1 a2 1)))], [.ref (60 + 8 * xi (x.1 a2 1))])) (h' := hp N x) rfl ?_
        refine ev_gfr rfl rfl (RG_lt N _ (lt_of_aIn h13)).1 ((RG_lt N _ (lt_of_aIn h13)).fd (by decide) (by decide)) ?_
        refine ev_run (n := 1) (u' := (0, 0)) (f' := (98, [some (.ref 1), some (.int a1), some (.ref a2), some (.ref (60 + 8 * xi (x.1 a2 1)))], [.int a1, .ref ((60 + 8 * xi (x.1 a2 1)) + 2)])) (h' := hp N x) rfl ?_
        obtain ⟨h14, h⟩ := cond_some h
        refine ev_iald rfl ((RG_lt N _ (lt_of_aIn h13)).2.2.2.1).kd (((RG_lt N _ (lt_of_aIn h13)).2.2.2.1).ln h14) ?_
        refine ev_run (n := 1) (u' := (0, 0)) (f' := (100, [some (.ref 1), some (.int a1), some (.ref a2), some (.ref (60 + 8 * xi (x.1 a2 1)))], [.int (-1), .int (x.1 ((60 + 8 * xi (x.1 a2 1)) + 2) (xi a1))])) (h' := hp N x) rfl ?_
        rcases ite_or h with ⟨h19, h⟩ | ⟨h19, h⟩
        · refine ev_icf rfl (decide_eq_false (fun w => w h19)) ?_
          refine ev_run (n := 4) (u' := (0, 0)) (f' := (107, [some (.ref 1), some (.int a1), some (.ref a2), some (.ref (60 + 8 * xi (x.1 a2 1)))], [.ref (60 + 8 * xi (x.1 a2 1)), .ref a2, .int a1, .ref 1])) (h' := hp N x) rfl ?_
          obtain ⟨w17, h18, h⟩ := bind_ok h
          refine ev_call (v := some (.int w17.1)) (h1 := hp N w17.2) rfl rfl rfl rfl (em107 a1 a2 (60 + 8 * xi (x.1 a2 1)) fa2 (RG_lt N _ (lt_of_aIn h13)) x _ h18) ?_
          show Ev 106 (0, 0) (110, [some (.ref 1), some (.int a1), some (.ref a2), some (.ref (60 + 8 * xi (x.1 a2 1)))], [.int w17.1]) (hp N w17.2) _
          refine ev_run (n := 1) (u' := (0, 0)) (f' := (120, [none, none, none, none], [.int w17.1])) (h' := hp N w17.2) rfl ?_
          cases h
          exact ev_iret rfl rfl rfl (Or.inl rfl)
        · refine ev_ict rfl (decide_eq_true h19) ?_
          refine ev_run (n := 4) (u' := (0, 0)) (f' := (117, [some (.ref 1), some (.int a1), some (.ref a2), some (.ref (60 + 8 * xi (x.1 a2 1)))], [.ref (60 + 8 * xi (x.1 a2 1)), .ref a2, .int a1, .ref 1])) (h' := hp N x) rfl ?_
          obtain ⟨w15, h16, h⟩ := bind_ok h
          refine ev_call (v := some (.int w15.1)) (h1 := hp N w15.2) rfl rfl rfl rfl (em108 a1 a2 (60 + 8 * xi (x.1 a2 1)) fa2 (RG_lt N _ (lt_of_aIn h13)) x _ h16) ?_
          show Ev 106 (0, 0) (120, [some (.ref 1), some (.int a1), some (.ref a2), some (.ref (60 + 8 * xi (x.1 a2 1)))], [.int w15.1]) (hp N w15.2) _
          cases h
          exact ev_iret rfl rfl rfl (Or.inl rfl)
    · refine ev_iff rfl (decide_eq_false h21) ?_
      refine ev_run (n := 1) (u' := (0, 0)) (f' := (66, [some (.ref 1), some (.int a1), some (.ref a2), none], [.int 3])) (h' := hp N x) rfl ?_
      cases h
      exact ev_iret rfl rfl rfl (Or.inl rfl)
  · refine ev_iff rfl (decide_eq_false h22) ?_
    refine ev_run (n := 1) (u' := (0, 0)) (f' := (53, [some (.ref 1), some (.int a1), some (.ref a2), none], [.int 2])) (h' := hp N x) rfl ?_
    cases h
    exact ev_iret rfl rfl rfl (Or.inl rfl)
def gm106 (a1 : Int32) (a2 : Nat) (x : Hs) : Option (Int32 × Hs) := (gm31 a1 (x.1 1 8) x).bind fun w1 => (if w1 = 0 then (gm106_29 a1 a2 x) else (cond (aIn a1 5) (if x.1 99 (xi a1) = 0 then (some (1, x)) else (gm106_29 a1 a2 x)) none))
theorem em106 {N : Nat} (a1 : Int32) (a2 : Nat) (fa2 : RO N a2) (x : Hs) (r : Int32 × Hs) (h : gm106 a1 a2 x = some r) : Ev 106 (0, 0) (0, aPad [.ref 1, .int a1, .ref a2] 4, []) (hp N x) (cvMi N r) := by
  show Ev 106 (0, 0) (0, [some (.ref 1), some (.int a1), some (.ref a2), none], []) (hp N x) _
  unfold gm106 at h
  refine ev_run (n := 5) (u' := (0, 0)) (f' := (9, [some (.ref 1), some (.int a1), some (.ref a2), none], [.int (x.1 1 8), .int a1, .ref 98])) (h' := hp N x) rfl ?_
  obtain ⟨w1, h2, h⟩ := bind_ok h
  refine ev_call (v := some (.int w1)) (h1 := hp N x) rfl rfl rfl rfl (em31 a1 (x.1 1 8) x _ h2) ?_
  show Ev 106 (0, 0) (12, [some (.ref 1), some (.int a1), some (.ref a2), none], [.int w1]) (hp N x) _
  rcases ite_or h with ⟨h5, h⟩ | ⟨h5, h⟩
  · refine ev_ift rfl (decide_eq_true h5) ?_
    exact em106_29 a1 a2 fa2 x _ h
  · refine ev_iff rfl (decide_eq_false h5) ?_
    refine ev_run (n := 4) (u' := (0, 0)) (f' := (23, [some (.ref 1), some (.int a1), some (.ref a2), none], [.int a1, .ref 99])) (h' := hp N x) rfl ?_
    obtain ⟨h3, h⟩ := cond_some h
    refine ev_iald rfl rfl h3 ?_
    rcases ite_or h with ⟨h4, h⟩ | ⟨h4, h⟩
    · refine ev_iff rfl (decide_eq_false (fun w => w h4)) ?_
      refine ev_run (n := 1) (u' := (0, 0)) (f' := (28, [some (.ref 1), some (.int a1), some (.ref a2), none], [.int 1])) (h' := hp N x) rfl ?_
      cases h
      exact ev_iret rfl rfl rfl (Or.inl rfl)
    · refine ev_ift rfl (decide_eq_true h4) ?_
      exact em106_29 a1 a2 fa2 x _ h
def gm109 (a1 : Int32) (a2 : Nat) (x : Hs) : Option (Hs) := cond (aIn (x.1 a2 1) 4) (cond (aIn a1 5) (if x.1 ((60 + 8 * xi (x.1 a2 1)) + 2) (xi a1) = (-1) then ((gm49 (60 + 8 * xi (x.1 a2 1)) a1 (x.1 a2 0) x).bind fun w6 => (some w6)) else ((gm50 (60 + 8 * xi (x.1 a2 1)) a1 x).bind fun w3 => (if (wI w3 a2 2 (w3.1 1 8)).1 a2 1 = 3 then (some (wI (wI w3 a2 2 (w3.1 1 8)) a2 0 (-1))) else (some (wI (wI w3 a2 2 (w3.1 1 8)) a2 1 ((wI w3 a2 2 (w3.1 1 8)).1 a2 1 + 1)))))) none) none
theorem em109 {N : Nat} (a1 : Int32) (a2 : Nat) (fa2 : RO N a2) (x : Hs) (r : Hs) (h : gm109 a1 a2 x = some r) : Ev 109 (0, 0) (0, aPad [.ref 1, .int a1, .ref a2] 4, []) (hp N x) (cvMv N r) := by
  show Ev 109 (0, 0) (0, [some (.ref 1), some (.int a1), some (.ref a2), none], []) (hp N x) _
  unfold gm109 at h
  refine ev_run (n := 3) (u' := (0, 0)) (f' := (5, [some (.ref 1), some (.int a1), some (.ref a2), none], [.ref a2, .ref 59])) (h' := hp N x) rfl ?_
  refine ev_gfi rfl rfl fa2 ?_
  obtain ⟨h1, h⟩ := cond_some h
  refine ev_aald rfl rfl h1 (rf_59 h1) ?_
  refine ev_run (n := 2) (u' := (0, 0)) (f' := (11, [some (.ref 1), some (.int a1), some (.ref a2), some (.ref (60 + 8 * xi (x.1 a2 1)))], [.ref (60 + 8 * xi (x.1 a2 1))])) (h' := hp N x) rfl ?_
  refine ev_gfr rfl rfl (RG_lt N _ (lt_of_aIn h1)).1 ((RG_lt N _ (lt_of_aIn h1)).fd (by decide) (by decide)) ?_
  refine ev_run (n := 1) (u' := (0, 0)) (f' := (15, [some (.ref 1), some (.int a1), some (.ref a2), some (.ref (60 + 8 * xi (x.1 a2 1)))], [.int a1, .ref ((60 + 8 * xi (x.1 a2 1)) + 2)])) (h' := hp N x) rfl ?_
  obtain ⟨h2, h⟩ := cond_some h
  refine ev_iald rfl ((RG_lt N _ (lt_of_aIn h1)).2.2.2.1).kd (((RG_lt N _ (lt_of_aIn h1)).2.2.2.1).ln h2) ?_
  refine ev_run (n := 1) (u' := (0, 0)) (f' := (17, [some (.ref 1), some (.int a1), some (.ref a2), some (.ref (60 + 8 * xi (x.1 a2 1)))], [.int (-1), .int (x.1 ((60 + 8 * xi (x.1 a2 1)) + 2) (xi a1))])) (h' := hp N x) rfl ?_
  rcases ite_or h with ⟨h8, h⟩ | ⟨h8, h⟩
  · refine ev_icf rfl (decide_eq_false (fun w => w h8)) ?_
    refine ev_run (n := 3) (u' := (0, 0)) (f' := (23, [some (.ref 1), some (.int a1), some (.ref a2), some (.ref (60 + 8 * xi (x.1 a2 1)))], [.ref a2, .int a1, .ref (60 + 8 * xi (x.1 a2 1))])) (h' := hp N x) rfl ?_
    refine ev_gfi rfl rfl fa2 ?_
    obtain ⟨w6, h7, h⟩ := bind_ok h
    refine ev_call (v := none) (h1 := hp N w6) rfl rfl rfl (ok_q (q0 := 60) (h0 := hp N (x0 (fun _ => 0))) (RG_lt N _ (lt_of_aIn h1)).1 rfl) (em49 (60 + 8 * xi (x.1 a2 1)) a1 (x.1 a2 0) (RG_lt N _ (lt_of_aIn h1)) x _ h7) ?_
    show Ev 109 (0, 0) (29, [some (.ref 1), some (.int a1), some (.ref a2), some (.ref (60 + 8 * xi (x.1 a2 1)))], []) (hp N w6) _
    cases h
    exact ev_vret rfl rfl rfl
  · refine ev_ict rfl (decide_eq_true h8) ?_
    refine ev_run (n := 2) (u' := (0, 0)) (f' := (32, [some (.ref 1), some (.int a1), some (.ref a2), some (.ref (60 + 8 * xi (x.1 a2 1)))], [.int a1, .ref (60 + 8 * xi (x.1 a2 1))])) (h' := hp N x) rfl ?_
    obtain ⟨w3, h4, h⟩ := bind_ok h
    refine ev_call (v := none) (h1 := hp N w3) rfl rfl rfl (ok_q (q0 := 60) (h0 := hp N (x0 (fun _ => 0))) (RG_lt N _ (lt_of_aIn h1)).1 rfl) (em50 (60 + 8 * xi (x.1 a2 1)) a1 (RG_lt N _ (lt_of_aIn h1)) x _ h4) ?_
    show Ev 109 (0, 0) (35, [some (.ref 1), some (.int a1), some (.ref a2), some (.ref (60 + 8 * xi (x.1 a2 1)))], []) (hp N w3) _
    refine ev_run (n := 3) (u' := (0, 0)) (f' := (40, [some (.ref 1), some (.int a1), some (.ref a2), some (.ref (60 + 8 * xi (x.1 a2 1)))], [.int (w3.1 1 8), .ref a2])) (h' := hp N w3) rfl ?_
    refine ev_pfi rfl fa2 rfl ?_
    show Ev 109 (0, 0) (43, [some (.ref 1), some (.int a1), some (.ref a2), some (.ref (60 + 8 * xi (x.1 a2 1)))], []) (hp N (wI w3 a2 2 (w3.1 1 8))) _
    refine ev_run (n := 1) (u' := (0, 0)) (f' := (44, [some (.ref 1), some (.int a1), some (.ref a2), some (.ref (60 + 8 * xi (x.1 a2 1)))], [.ref a2])) (h' := hp N (wI w3 a2 2 (w3.1 1 8))) rfl ?_
    refine ev_gfi rfl rfl fa2 ?_
    refine ev_run (n := 1) (u' := (0, 0)) (f' := (48, [some (.ref 1), some (.int a1), some (.ref a2), some (.ref (60 + 8 * xi (x.1 a2 1)))], [.int 3, .int ((wI w3 a2 2 (w3.1 1 8)).1 a2 1)])) (h' := hp N (wI w3 a2 2 (w3.1 1 8))) rfl ?_
    rcases ite_or h with ⟨h5, h⟩ | ⟨h5, h⟩
    · refine ev_icf rfl (decide_eq_false (fun w => w h5)) ?_
      refine ev_run (n := 2) (u' := (0, 0)) (f' := (53, [some (.ref 1), some (.int a1), some (.ref a2), some (.ref (60 + 8 * xi (x.1 a2 1)))], [.int (-1), .ref a2])) (h' := hp N (wI w3 a2 2 (w3.1 1 8))) rfl ?_
      refine ev_pfi rfl fa2 rfl ?_
      show Ev 109 (0, 0) (56, [some (.ref 1), some (.int a1), some (.ref a2), some (.ref (60 + 8 * xi (x.1 a2 1)))], []) (hp N (wI (wI w3 a2 2 (w3.1 1 8)) a2 0 (-1))) _
      refine ev_run (n := 1) (u' := (0, 0)) (f' := (69, [none, none, none, none], [])) (h' := hp N (wI (wI w3 a2 2 (w3.1 1 8)) a2 0 (-1))) rfl ?_
      cases h
      exact ev_vret rfl rfl rfl
    · refine ev_ict rfl (decide_eq_true h5) ?_
      refine ev_run (n := 2) (u' := (0, 0)) (f' := (61, [none, none, some (.ref a2), none], [.ref a2, .ref a2])) (h' := hp N (wI w3 a2 2 (w3.1 1 8))) rfl ?_
      refine ev_gfi rfl rfl fa2 ?_
      refine ev_run (n := 2) (u' := (0, 0)) (f' := (66, [none, none, some (.ref a2), none], [.int ((wI w3 a2 2 (w3.1 1 8)).1 a2 1 + 1), .ref a2])) (h' := hp N (wI w3 a2 2 (w3.1 1 8))) rfl ?_
      refine ev_pfi rfl fa2 rfl ?_
      show Ev 109 (0, 0) (69, [none, none, some (.ref a2), none], []) (hp N (wI (wI w3 a2 2 (w3.1 1 8)) a2 1 ((wI w3 a2 2 (w3.1 1 8)).1 a2 1 + 1))) _
      cases h
      exact ev_vret rfl rfl rfl
def gm67_74 (a1 : Int32) (a2 : Nat) (a3 : Int32) (x : Hs) : Option ((Int32 ⊕ Nat) × Hs) := (gm109 a1 a2 x).bind fun w24 => (some (.inl a3, w24))
theorem em67_74 {N : Nat} {u1 u2 : Nat} (a1 : Int32) (a2 : Nat) (a3 : Int32) (fa2 : RO N a2) (hu1 : u1 + 0 ≤ 2) (hu2 : u2 + 0 ≤ 12) (x : Hs) (r : (Int32 ⊕ Nat) × Hs) (h : gm67_74 a1 a2 a3 x = some r) : Ev 67 (u1, u2) (74, [some (.ref 1), some (.int a1), some (.ref a2), some (.int a3)], []) (hp N x) (cvXi N r) := by
  unfold gm67_74 at h
  refine ev_run (n := 3) (u' := (u1, u2)) (f' := (77, [some (.ref 1), some (.int a1), some (.ref a2), some (.int a3)], [.ref a2, .int a1, .ref 1])) (h' := hp N x) rfl ?_
  obtain ⟨w24, h25, h⟩ := bind_ok h
  refine ev_call (v := none) (h1 := hp N w24) rfl rfl rfl (ok_u rfl (by show u1 + 0 ≤ 2; omega) (by show u2 + 0 ≤ 12; omega)) (em109 a1 a2 fa2 x _ h25) ?_
  show Ev 67 (u1, u2) (80, [some (.ref 1), some (.int a1), some (.ref a2), some (.int a3)], []) (hp N w24) _
  refine ev_run (n := 1) (u' := (u1, u2)) (f' := (81, [some (.ref 1), some (.int a1), some (.ref a2), some (.int a3)], [.int a3])) (h' := hp N w24) rfl ?_
  cases h
  exact ev_iret rfl (end_u (by show _ ≤ 2; omega) (by show _ ≤ 12; omega)) rfl (Or.inl rfl)
def gm67_32 (a1 : Int32) (a2 : Nat) (s0 : Int32) (x : Hs) : Option ((Int32 ⊕ Nat) × Hs) := (gm93 s0 x).bind fun w10 => match w10 with | (.inl _, x14) => ((gm106 a1 a2 x14).bind fun w15 => (if w15.1 = 0 then ((gm31 a1 (w15.2.1 1 8) w15.2).bind fun w17 => (if w17 = 0 then (gm67_74 a1 a2 w15.1 w15.2) else (cond (aIn a1 5) (cond (aIn a1 5) (gm67_74 a1 a2 w15.1 (wI w15.2 99 (xi a1) (w15.2.1 99 (xi a1) - 1))) none) none))) else (some (.inl w15.1, w15.2)))) | (.inr k13, x14) => (cond (Nat.blt k13 3) (some (.inr k13, x14)) none)
theorem em67_32 {N : Nat} {u1 u2 : Nat} (a1 : Int32) (a2 : Nat) (s0 : Int32) (fa2 : RO N a2) (hu1 : u1 + 1 ≤ 2) (hu2 : u2 + 6 ≤ 12) (x : Hs) (r : (Int32 ⊕ Nat) × Hs) (h : gm67_32 a1 a2 s0 x = some r) : Ev 67 (u1, u2) (32, [some (.ref 1), some (.int a1), some (.ref a2), none], [.int s0]) (hp N x) (cvXi N r) := by
  unfold gm67_32 at h
  obtain ⟨w10, h11, h⟩ := bind_ok h
  obtain ⟨w10, x14⟩ := w10
  cases w10 with
  | inl v12 =>
    refine ev_call (v := none) (h1 := hp N x14) rfl rfl rfl (ok_u rfl (by show u1 + 1 ≤ 2; omega) (by show u2 + 6 ≤ 12; omega)) (em93 s0 (by decide) (by decide) x _ h11) ?_
    show Ev 67 (u1 + 1, u2 + 6) (35, [some (.ref 1), some (.int a1), some (.ref a2), none], []) (hp N x14) _
    refine ev_run (n := 3) (u' := (u1 + 1, u2 + 6)) (f' := (38, [some (.ref 1), some (.int a1), some (.ref a2), none], [.ref a2, .int a1, .ref 1])) (h' := hp N x14) rfl ?_
    obtain ⟨w15, h16, h⟩ := bind_ok h
    refine ev_call (v := some (.int w15.1)) (h1 := hp N w15.2) rfl rfl rfl (ok_u rfl (by show u1 + 1 + 0 ≤ 2; omega) (by show u2 + 6 + 0 ≤ 12; omega)) (em106 a1 a2 fa2 x14 _ h16) ?_
    show Ev 67 (u1 + 1, u2 + 6) (41, [some (.ref 1), some (.int a1), some (.ref a2), none], [.int w15.1]) (hp N w15.2) _
    refine ev_run (n := 2) (u' := (u1 + 1, u2 + 6)) (f' := (43, [some (.ref 1), some (.int a1), some (.ref a2), some (.int w15.1)], [.int w15.1])) (h' := hp N w15.2) rfl ?_
    rcases ite_or h with ⟨h22, h⟩ | ⟨h22, h⟩
    · refine ev_iff rfl (decide_eq_false (fun w => w h22)) ?_
      refine ev_run (n := 5) (u' := (u1 + 1, u2 + 6)) (f' := (55, [some (.ref 1), some (.int a1), some (.ref a2), some (.int w15.1)], [.int (w15.2.1 1 8), .int a1, .ref 98])) (h' := hp N w15.2) rfl ?_
      obtain ⟨w17, h18, h⟩ := bind_ok h
      refine ev_call (v := some (.int w17)) (h1 := hp N w15.2) rfl rfl rfl (ok_u rfl (by show u1 + 1 + 0 ≤ 2; omega) (by show u2 + 6 + 0 ≤ 12; omega)) (em31 a1 (w15.2.1 1 8) w15.2 _ h18) ?_
      show Ev 67 (u1 + 1, u2 + 6) (58, [some (.ref 1), some (.int a1), some (.ref a2), some (.int w15.1)], [.int w17]) (hp N w15.2) _
      rcases ite_or h with ⟨h21, h⟩ | ⟨h21, h⟩
      · refine ev_ift rfl (decide_eq_true h21) ?_
        exact em67_74 a1 a2 w15.1 fa2 (by omega) (by omega) w15.2 _ h
      · refine ev_iff rfl (decide_eq_false h21) ?_
        refine ev_run (n := 5) (u' := (u1 + 1, u2 + 6)) (f' := (70, [some (.ref 1), some (.int a1), some (.ref a2), some (.int w15.1)], [.int a1, .ref 99, .int a1, .ref 99])) (h' := hp N w15.2) rfl ?_
        obtain ⟨h19, h⟩ := cond_some h
        refine ev_iald rfl rfl h19 ?_
        refine ev_run (n := 2) (u' := (u1 + 1, u2 + 6)) (f' := (73, [some (.ref 1), some (.int a1), some (.ref a2), some (.int w15.1)], [.int (w15.2.1 99 (xi a1) - 1), .int a1, .ref 99])) (h' := hp N w15.2) rfl ?_
        obtain ⟨h20, h⟩ := cond_some h
        refine ev_iast rfl rfl h20 ?_
        show Ev 67 (u1 + 1, u2 + 6) (74, [some (.ref 1), some (.int a1), some (.ref a2), some (.int w15.1)], []) (hp N (wI w15.2 99 (xi a1) (w15.2.1 99 (xi a1) - 1))) _
        exact em67_74 a1 a2 w15.1 fa2 (by omega) (by omega) (wI w15.2 99 (xi a1) (w15.2.1 99 (xi a1) - 1)) _ h
    · refine ev_ift rfl (decide_eq_true h22) ?_
      refine ev_run (n := 1) (u' := (u1 + 1, u2 + 6)) (f' := (81, [none, none, none, some (.int w15.1)], [.int w15.1])) (h' := hp N w15.2) rfl ?_
      cases h
      exact ev_iret rfl (end_u (by show _ ≤ 2; omega) (by show _ ≤ 12; omega)) rfl (Or.inl rfl)
  | inr k13 =>
    obtain ⟨h23, h⟩ := cond_some h
    cases h
    exact ev_callX (h1 := hp N x14) rfl rfl rfl (ok_u rfl (by show u1 + 1 ≤ 2; omega) (by show u2 + 6 ≤ 12; omega)) h23 rfl (em93 s0 (by decide) (by decide) x _ h11)
def gm67_31 (a1 : Int32) (a2 : Nat) (x : Hs) : Option ((Int32 ⊕ Nat) × Hs) := gm67_32 a1 a2 0 x
theorem em67_31 {N : Nat} {u1 u2 : Nat} (a1 : Int32) (a2 : Nat) (fa2 : RO N a2) (hu1 : u1 + 1 ≤ 2) (hu2 : u2 + 6 ≤ 12) (x : Hs) (r : (Int32 ⊕ Nat) × Hs) (h : gm67_31 a1 a2 x = some r) : Ev 67 (u1, u2) (31, [some (.ref 1), some (.int a1), some (.ref a2), none], []) (hp N x) (cvXi N r) := by
  unfold gm67_31 at h
  refine ev_run (n := 1) (u' := (u1, u2)) (f' := (32, [some (.ref 1), some (.int a1), some (.ref a2), none], [.int 0])) (h' := hp N x) rfl ?_
  exact em67_32 a1 a2 0 fa2 (by omega) (by omega) x _ h
def gm67 (a1 : Int32) (x : Hs) : Option ((Int32 ⊕ Nat) × Hs) := (gm94 a1 x).bind fun w1 => match w1 with | (.inl _, x5) => (cond (aIn a1 5) (if x5.1 (93 + xi a1) 0 = (-1) then (gm67_31 a1 (93 + xi a1) x5) else (if x5.1 (93 + xi a1) 3 = 0 then (gm67_32 a1 (93 + xi a1) 1 x5) else (gm67_31 a1 (93 + xi a1) x5))) none) | (.inr k4, x5) => (cond (Nat.blt k4 3) (some (.inr k4, x5)) none)
theorem em67 {N : Nat} {u1 u2 : Nat} (a1 : Int32) (hu1 : u1 + 2 ≤ 2) (hu2 : u2 + 12 ≤ 12) (x : Hs) (r : (Int32 ⊕ Nat) × Hs) (h : gm67 a1 x = some r) : Ev 67 (u1, u2) (0, aPad [.ref 1, .int a1] 4, []) (hp N x) (cvXi N r) := by
  show Ev 67 (u1, u2) (0, [some (.ref 1), some (.int a1), none, none], []) (hp N x) _
  unfold gm67 at h
  refine ev_run (n := 2) (u' := (u1, u2)) (f' := (2, [some (.ref 1), some (.int a1), none, none], [.int a1, .ref 1])) (h' := hp N x) rfl ?_
  obtain ⟨w1, h2, h⟩ := bind_ok h
  obtain ⟨w1, x5⟩ := w1
  cases w1 with
  | inl v3 =>
    refine ev_call (v := none) (h1 := hp N x5) rfl rfl rfl (ok_u rfl (by show u1 + 1 ≤ 2; omega) (by show u2 + 6 ≤ 12; omega)) (em94 a1 (by decide) (by decide) x _ h2) ?_
    show Ev 67 (u1 + 1, u2 + 6) (5, [some (.ref 1), some (.int a1), none, none], []) (hp N x5) _
    refine ev_run (n := 3) (u' := (u1 + 1, u2 + 6)) (f' := (10, [some (.ref 1), some (.int a1), none, none], [.int a1, .ref 92])) (h' := hp N x5) rfl ?_
    obtain ⟨h6, h⟩ := cond_some h
    refine ev_aald rfl rfl h6 (rf_92 h6) ?_
    refine ev_run (n := 2) (u' := (u1 + 1, u2 + 6)) (f' := (13, [some (.ref 1), some (.int a1), some (.ref (93 + xi a1)), none], [.ref (93 + xi a1)])) (h' := hp N x5) rfl ?_
    refine ev_gfi rfl rfl (RO_lt N _ (lt_of_aIn h6)) ?_
    refine ev_run (n := 1) (u' := (u1 + 1, u2 + 6)) (f' := (17, [some (.ref 1), some (.int a1), some (.ref (93 + xi a1)), none], [.int (-1), .int (x5.1 (93 + xi a1) 0)])) (h' := hp N x5) rfl ?_
    rcases ite_or h with ⟨h8, h⟩ | ⟨h8, h⟩
    · refine ev_ict rfl (decide_eq_true h8) ?_
      exact em67_31 a1 (93 + xi a1) (RO_lt N _ (lt_of_aIn h6)) (by omega) (by omega) x5 _ h
    · refine ev_icf rfl (decide_eq_false h8) ?_
      refine ev_run (n := 1) (u' := (u1 + 1, u2 + 6)) (f' := (21, [some (.ref 1), some (.int a1), some (.ref (93 + xi a1)), none], [.ref (93 + xi a1)])) (h' := hp N x5) rfl ?_
      refine ev_gfi rfl rfl (RO_lt N _ (lt_of_aIn h6)) ?_
      rcases ite_or h with ⟨h7, h⟩ | ⟨h7, h⟩
      · refine ev_iff rfl (decide_eq_false (fun w => w h7)) ?_
        refine ev_run (n := 2) (u' := (u1 + 1, u2 + 6)) (f' := (32, [some (.ref 1), some (.int a1), some (.ref (93 + xi a1)), none], [.int 1])) (h' := hp N x5) rfl ?_
        exact em67_32 a1 (93 + xi a1) 1 (RO_lt N _ (lt_of_aIn h6)) (by omega) (by omega) x5 _ h
      · refine ev_ift rfl (decide_eq_true h7) ?_
        exact em67_31 a1 (93 + xi a1) (RO_lt N _ (lt_of_aIn h6)) (by omega) (by omega) x5 _ h
  | inr k4 =>
    obtain ⟨h9, h⟩ := cond_some h
    cases h
    exact ev_callX (h1 := hp N x5) rfl rfl rfl (ok_u rfl (by show u1 + 1 ≤ 2; omega) (by show u2 + 6 ≤ 12; omega)) h9 rfl (em94 a1 (by decide) (by decide) x _ h2)
def gm110_23 (a1 : Int32) (a2 : Nat) (a3 : Int32) (x : Hs) : Option (Int32 × Hs) := cond (aIn a1 5) ((gm48 a2 a1 a3 (x.1 (a2 + 2) (xi a1)) x).bind fun w7 => (if w7.1 = 0 then (some (0, w7.2)) else (some (1, w7.2)))) none
theorem em110_23 {N : Nat} (a1 : Int32) (a2 : Nat) (a3 : Int32) (fa2 : RG N a2) (x : Hs) (r : Int32 × Hs) (h : gm110_23 a1 a2 a3 x = some r) : Ev 110 (0, 0) (23, [none, some (.int a1), some (.ref a2), some (.int a3)], []) (hp N x) (cvMi N r) := by
  unfold gm110_23 at h
  refine ev_run (n := 4) (u' := (0, 0)) (f' := (27, [none, some (.int a1), some (.ref a2), some (.int a3)], [.ref a2, .int a3, .int a1, .ref a2])) (h' := hp N x) rfl ?_
  refine ev_gfr rfl rfl fa2.1 (fa2.fd (by decide) (by decide)) ?_
  refine ev_run (n := 1) (u' := (0, 0)) (f' := (31, [none, some (.int a1), some (.ref a2), some (.int a3)], [.int a1, .ref (a2 + 2), .int a3, .int a1, .ref a2])) (h' := hp N x) rfl ?_
  obtain ⟨h6, h⟩ := cond_some h
  refine ev_iald rfl fa2.2.2.2.1.kd (fa2.2.2.2.1.ln h6) ?_
  obtain ⟨w7, h8, h⟩ := bind_ok h
  refine ev_call (v := some (.int w7.1)) (h1 := hp N w7.2) rfl rfl rfl (ok_q (q0 := 60) (h0 := hp N (x0 (fun _ => 0))) fa2.1 rfl) (em48 a2 a1 a3 (x.1 (a2 + 2) (xi a1)) fa2 x _ h8) ?_
  show Ev 110 (0, 0) (35, [none, some (.int a1), some (.ref a2), some (.int a3)], [.int w7.1]) (hp N w7.2) _
  rcases ite_or h with ⟨h9, h⟩ | ⟨h9, h⟩
  · refine ev_ift rfl (decide_eq_true h9) ?_
    refine ev_run (n := 1) (u' := (0, 0)) (f' := (43, [none, none, none, none], [.int 0])) (h' := hp N w7.2) rfl ?_
    cases h
    exact ev_iret rfl rfl rfl (Or.inr ⟨rfl, rfl⟩)
  · refine ev_iff rfl (decide_eq_false h9) ?_
    refine ev_run (n := 2) (u' := (0, 0)) (f' := (43, [none, none, none, none], [.int 1])) (h' := hp N w7.2) rfl ?_
    cases h
    exact ev_iret rfl rfl rfl (Or.inr ⟨rfl, rfl⟩)
theorem em110_23_k1 {N : Nat} (a1 : Int32) (a2 : Nat) (a3 : Int32) (fa2 : RG N a2) (x : Hs) (r : Int32 × Hs) (h : gm110_23 a1 a2 a3 x = some r) : Ev 110 (0, 0) (23, [some (.ref 1), some (.int a1), some (.ref a2), some (.int a3)], []) (hp N x) (cvMi N r) := by
  unfold gm110_23 at h
  refine ev_run (n := 4) (u' := (0, 0)) (f' := (27, [some (.ref 1), some (.int a1), some (.ref a2), some (.int a3)], [.ref a2, .int a3, .int a1, .ref a2])) (h' := hp N x) rfl ?_
  refine ev_gfr rfl rfl fa2.1 (fa2.fd (by decide) (by decide)) ?_
  refine ev_run (n := 1) (u' := (0, 0)) (f' := (31, [some (.ref 1), some (.int a1), some (.ref a2), some (.int a3)], [.int a1, .ref (a2 + 2), .int a3, .int a1, .ref a2])) (h' := hp N x) rfl ?_
  obtain ⟨h10, h⟩ := cond_some h
  refine ev_iald rfl fa2.2.2.2.1.kd (fa2.2.2.2.1.ln h10) ?_
  obtain ⟨w11, h12, h⟩ := bind_ok h
  refine ev_call (v := some (.int w11.1)) (h1 := hp N w11.2) rfl rfl rfl (ok_q (q0 := 60) (h0 := hp N (x0 (fun _ => 0))) fa2.1 rfl) (em48 a2 a1 a3 (x.1 (a2 + 2) (xi a1)) fa2 x _ h12) ?_
  show Ev 110 (0, 0) (35, [some (.ref 1), some (.int a1), some (.ref a2), some (.int a3)], [.int w11.1]) (hp N w11.2) _
  rcases ite_or h with ⟨h13, h⟩ | ⟨h13, h⟩
  · refine ev_ift rfl (decide_eq_true h13) ?_
    refine ev_run (n := 1) (u' := (0, 0)) (f' := (43, [none, none, none, none], [.int 0])) (h' := hp N w11.2) rfl ?_
    cases h
    exact ev_iret rfl rfl rfl (Or.inr ⟨rfl, rfl⟩)
  · refine ev_iff rfl (decide_eq_false h13) ?_
    refine ev_run (n := 2) (u' := (0, 0)) (f' := (43, [none, none, none, none], [.int 1])) (h' := hp N w11.2) rfl ?_
    cases h
    exact ev_iret rfl rfl rfl (Or.inr ⟨rfl, rfl⟩)
def gm110 (a1 : Int32) (a2 : Nat) (x : Hs) : Option (Int32 × Hs) := cond (aIn a1 5) (if x.1 (a2 + 3) (xi a1) = (-1) then (gm110_23 a1 a2 (x.1 (a2 + 3) (xi a1)) x) else ((gm12 (x.1 (a2 + 3) (xi a1)) x).bind fun w2 => (if w2 = 0 then (some (0, x)) else (gm110_23 a1 a2 (x.1 (a2 + 3) (xi a1)) x)))) none
theorem em110 {N : Nat} (a1 : Int32) (a2 : Nat) (fa2 : RG N a2) (x : Hs) (r : Int32 × Hs) (h : gm110 a1 a2 x = some r) : Ev 110 (0, 0) (0, aPad [.ref 1, .int a1, .ref a2] 4, []) (hp N x) (cvMi N r) := by
  show Ev 110 (0, 0) (0, [some (.ref 1), some (.int a1), some (.ref a2), none], []) (hp N x) _
  unfold gm110 at h
  refine ev_run (n := 1) (u' := (0, 0)) (f' := (1, [some (.ref 1), some (.int a1), some (.ref a2), none], [.ref a2])) (h' := hp N x) rfl ?_
  refine ev_gfr rfl rfl fa2.1 (fa2.fd (by decide) (by decide)) ?_
  refine ev_run (n := 1) (u' := (0, 0)) (f' := (5, [some (.ref 1), some (.int a1), some (.ref a2), none], [.int a1, .ref (a2 + 3)])) (h' := hp N x) rfl ?_
  obtain ⟨h1, h⟩ := cond_some h
  refine ev_iald rfl fa2.2.2.2.2.1.kd (fa2.2.2.2.2.1.ln h1) ?_
  refine ev_run (n := 3) (u' := (0, 0)) (f' := (9, [some (.ref 1), some (.int a1), some (.ref a2), some (.int (x.1 (a2 + 3) (xi a1)))], [.int (-1), .int (x.1 (a2 + 3) (xi a1))])) (h' := hp N x) rfl ?_
  rcases ite_or h with ⟨h5, h⟩ | ⟨h5, h⟩
  · refine ev_ict rfl (decide_eq_true h5) ?_
    exact em110_23 a1 a2 (x.1 (a2 + 3) (xi a1)) fa2 x _ h
  · refine ev_icf rfl (decide_eq_false h5) ?_
    refine ev_run (n := 3) (u' := (0, 0)) (f' := (17, [some (.ref 1), some (.int a1), some (.ref a2), some (.int (x.1 (a2 + 3) (xi a1)))], [.int (x.1 (a2 + 3) (xi a1)), .ref 2])) (h' := hp N x) rfl ?_
    obtain ⟨w2, h3, h⟩ := bind_ok h
    refine ev_call (v := some (.int w2)) (h1 := hp N x) rfl rfl rfl rfl (em12 (x.1 (a2 + 3) (xi a1)) x _ h3) ?_
    show Ev 110 (0, 0) (20, [some (.ref 1), some (.int a1), some (.ref a2), some (.int (x.1 (a2 + 3) (xi a1)))], [.int w2]) (hp N x) _
    rcases ite_or h with ⟨h4, h⟩ | ⟨h4, h⟩
    · refine ev_ift rfl (decide_eq_true h4) ?_
      refine ev_run (n := 1) (u' := (0, 0)) (f' := (43, [none, none, none, none], [.int 0])) (h' := hp N x) rfl ?_
      cases h
      exact ev_iret rfl rfl rfl (Or.inr ⟨rfl, rfl⟩)
    · refine ev_iff rfl (decide_eq_false h4) ?_
      exact em110_23_k1 a1 a2 (x.1 (a2 + 3) (xi a1)) fa2 x _ h
def gm68_103 (k55 : Int32 → Nat → Int32 → Hs → Option ((Int32 ⊕ Nat) × Hs)) (a1 : Int32) (a2 : Nat) (a3 : Int32) (x : Hs) : Option ((Int32 ⊕ Nat) × Hs) := k55 a1 a2 (a3 + (-1)) x
theorem em68_103 {N : Nat} (k55 : Int32 → Nat → Int32 → Hs → Option ((Int32 ⊕ Nat) × Hs)) (q55 : ∀ {u1 u2 : Nat} (a1 : Int32) (a2 : Nat) (a3 : Int32) (fa2 : RO N a2) (hu1 : u1 + 0 ≤ 2) (hu2 : u2 + 0 ≤ 12) (x : Hs) (r : (Int32 ⊕ Nat) × Hs), k55 a1 a2 a3 x = some r → Ev 68 (u1, u2) (55, [some (.ref 1), some (.int a1), some (.ref a2), some (.int a3)], []) (hp N x) (cvXi N r)) {u1 u2 : Nat} (a1 : Int32) (a2 : Nat) (a3 : Int32) (fa2 : RO N a2) (hu1 : u1 + 0 ≤ 2) (hu2 : u2 + 0 ≤ 12) (x : Hs) (r : (Int32 ⊕ Nat) × Hs) (h : gm68_103 k55 a1 a2 a3 x = some r) : Ev 68 (u1, u2) (103, [some (.ref 1), some (.int a1), some (.ref a2), some (.int a3)], []) (hp N x) (cvXi N r) := by
  unfold gm68_103 at h
  refine ev_run (n := 2) (u' := (u1, u2)) (f' := (55, [some (.ref 1), some (.int a1), some (.ref a2), some (.int (a3 + (-1)))], [])) (h' := hp N x) rfl ?_
  exact q55 a1 a2 (a3 + (-1)) fa2 (by omega) (by omega) x _ h
def gm68_121 (a2 : Nat) (x : Hs) : Option ((Int32 ⊕ Nat) × Hs) := some (.inl (x.1 a2 1), x)
theorem em68_121 {N : Nat} {u1 u2 : Nat} (a2 : Nat) (fa2 : RO N a2) (hu1 : u1 + 0 ≤ 2) (hu2 : u2 + 0 ≤ 12) (x : Hs) (r : (Int32 ⊕ Nat) × Hs) (h : gm68_121 a2 x = some r) : Ev 68 (u1, u2) (121, [none, none, some (.ref a2), none], []) (hp N x) (cvXi N r) := by
  unfold gm68_121 at h
  refine ev_run (n := 1) (u' := (u1, u2)) (f' := (122, [none, none, some (.ref a2), none], [.ref a2])) (h' := hp N x) rfl ?_
  refine ev_gfi rfl rfl fa2 ?_
  cases h
  exact ev_iret rfl (end_u (by show _ ≤ 2; omega) (by show _ ≤ 12; omega)) rfl (Or.inl rfl)
def gm68_109 (a2 : Nat) (x : Hs) : Option ((Int32 ⊕ Nat) × Hs) := if x.1 a2 3 = 0 then (gm68_121 a2 (wI x a2 0 (-1))) else (gm68_121 a2 x)
theorem em68_109 {N : Nat} {u1 u2 : Nat} (a2 : Nat) (fa2 : RO N a2) (hu1 : u1 + 0 ≤ 2) (hu2 : u2 + 0 ≤ 12) (x : Hs) (r : (Int32 ⊕ Nat) × Hs) (h : gm68_109 a2 x = some r) : Ev 68 (u1, u2) (109, [none, none, some (.ref a2), none], []) (hp N x) (cvXi N r) := by
  unfold gm68_109 at h
  refine ev_run (n := 1) (u' := (u1, u2)) (f' := (110, [none, none, some (.ref a2), none], [.ref a2])) (h' := hp N x) rfl ?_
  refine ev_gfi rfl rfl fa2 ?_
  rcases ite_or h with ⟨h26, h⟩ | ⟨h26, h⟩
  · refine ev_iff rfl (decide_eq_false (fun w => w h26)) ?_
    refine ev_run (n := 2) (u' := (u1, u2)) (f' := (118, [none, none, some (.ref a2), none], [.int (-1), .ref a2])) (h' := hp N x) rfl ?_
    refine ev_pfi rfl fa2 rfl ?_
    show Ev 68 (u1, u2) (121, [none, none, some (.ref a2), none], []) (hp N (wI x a2 0 (-1))) _
    exact em68_121 a2 fa2 (by omega) (by omega) (wI x a2 0 (-1)) _ h
  · refine ev_ift rfl (decide_eq_true h26) ?_
    exact em68_121 a2 fa2 (by omega) (by omega) x _ h
def gm68_55 : Nat → Int32 → Nat → Int32 → Hs → Option ((Int32 ⊕ Nat) × Hs)
  | 0, _, _, _, _ => none
  | n + 1, a1, a2, a3, x => if a3 < 0 then (gm68_109 a2 x) else (if x.1 a2 3 = 0 then (cond (aIn a3 4) ((gm110 a1 (60 + 8 * xi a3) x).bind fun w18 => (if w18.1 = 0 then (gm68_103 (gm68_55 n) a1 a2 a3 (wI w18.2 a2 3 1)) else (cond (aIn a3 4) ((gm51 (60 + 8 * xi a3) a1 w18.2).bind fun w21 => (gm68_103 (gm68_55 n) a1 a2 a3 (wI w21 a2 1 a3))) none))) none) else (gm68_109 a2 x))
theorem em68_55 {N : Nat} : ∀ (n u1 u2 : Nat) (a1 : Int32) (a2 : Nat) (a3 : Int32) (fa2 : RO N a2) (hu1 : u1 + 0 ≤ 2) (hu2 : u2 + 0 ≤ 12) (x : Hs) (r : (Int32 ⊕ Nat) × Hs), gm68_55 n a1 a2 a3 x = some r → Ev 68 (u1, u2) (55, [some (.ref 1), some (.int a1), some (.ref a2), some (.int a3)], []) (hp N x) (cvXi N r)
  | 0, u1, u2, a1, a2, a3, fa2, hu1, hu2, x, r, h => by
    have e9 : (none : Option ((Int32 ⊕ Nat) × Hs)) = some r := h
    cases e9
  | n + 1, u1, u2, a1, a2, a3, fa2, hu1, hu2, x, r, h => by
    have q55 := fun {u1 u2 : Nat} => em68_55 (N := N) n u1 u2
    rw [gm68_55] at h
    refine ev_run (n := 1) (u' := (u1, u2)) (f' := (56, [some (.ref 1), some (.int a1), some (.ref a2), some (.int a3)], [.int a3])) (h' := hp N x) rfl ?_
    rcases ite_or h with ⟨h25, h⟩ | ⟨h25, h⟩
    · refine ev_ift rfl (decide_eq_true h25) ?_
      exact em68_109 a2 fa2 (by omega) (by omega) x _ h
    · refine ev_iff rfl (decide_eq_false h25) ?_
      refine ev_run (n := 1) (u' := (u1, u2)) (f' := (60, [some (.ref 1), some (.int a1), some (.ref a2), some (.int a3)], [.ref a2])) (h' := hp N x) rfl ?_
      refine ev_gfi rfl rfl fa2 ?_
      rcases ite_or h with ⟨h24, h⟩ | ⟨h24, h⟩
      · refine ev_iff rfl (decide_eq_false (fun w => w h24)) ?_
        refine ev_run (n := 5) (u' := (u1, u2)) (f' := (73, [some (.ref 1), some (.int a1), some (.ref a2), some (.int a3)], [.int a3, .ref 59, .int a1, .ref 1])) (h' := hp N x) rfl ?_
        obtain ⟨h17, h⟩ := cond_some h
        refine ev_aald rfl rfl h17 (rf_59 h17) ?_
        obtain ⟨w18, h19, h⟩ := bind_ok h
        refine ev_call (v := some (.int w18.1)) (h1 := hp N w18.2) rfl rfl rfl (ok_u rfl (by show u1 + 0 ≤ 2; omega) (by show u2 + 0 ≤ 12; omega)) (em110 a1 (60 + 8 * xi a3) (RG_lt N _ (lt_of_aIn h17)) x _ h19) ?_
        show Ev 68 (u1, u2) (77, [some (.ref 1), some (.int a1), some (.ref a2), some (.int a3)], [.int w18.1]) (hp N w18.2) _
        rcases ite_or h with ⟨h23, h⟩ | ⟨h23, h⟩
        · refine ev_ift rfl (decide_eq_true h23) ?_
          refine ev_run (n := 2) (u' := (u1, u2)) (f' := (100, [some (.ref 1), some (.int a1), some (.ref a2), some (.int a3)], [.int 1, .ref a2])) (h' := hp N w18.2) rfl ?_
          refine ev_pfi rfl fa2 rfl ?_
          show Ev 68 (u1, u2) (103, [some (.ref 1), some (.int a1), some (.ref a2), some (.int a3)], []) (hp N (wI w18.2 a2 3 1)) _
          exact em68_103 (gm68_55 n) q55 a1 a2 a3 fa2 (by omega) (by omega) (wI w18.2 a2 3 1) _ h
        · refine ev_iff rfl (decide_eq_false h23) ?_
          refine ev_run (n := 3) (u' := (u1, u2)) (f' := (85, [some (.ref 1), some (.int a1), some (.ref a2), some (.int a3)], [.int a3, .ref 59])) (h' := hp N w18.2) rfl ?_
          obtain ⟨h20, h⟩ := cond_some h
          refine ev_aald rfl rfl h20 (rf_59 h20) ?_
          refine ev_run (n := 1) (u' := (u1, u2)) (f' := (87, [some (.ref 1), some (.int a1), some (.ref a2), some (.int a3)], [.int a1, .ref (60 + 8 * xi a3)])) (h' := hp N w18.2) rfl ?_
          obtain ⟨w21, h22, h⟩ := bind_ok h
          refine ev_call (v := none) (h1 := hp N w21) rfl rfl rfl (ok_q (q0 := 60) (h0 := hp N (x0 (fun _ => 0))) (RG_lt N _ (lt_of_aIn h20)).1 (ok_u rfl (by show u1 + 0 ≤ 2; omega) (by show u2 + 0 ≤ 12; omega))) (em51 (60 + 8 * xi a3) a1 (RG_lt N _ (lt_of_aIn h20)) w18.2 _ h22) ?_
          show Ev 68 (u1, u2) (90, [some (.ref 1), some (.int a1), some (.ref a2), some (.int a3)], []) (hp N w21) _
          refine ev_run (n := 2) (u' := (u1, u2)) (f' := (92, [some (.ref 1), some (.int a1), some (.ref a2), some (.int a3)], [.int a3, .ref a2])) (h' := hp N w21) rfl ?_
          refine ev_pfi rfl fa2 rfl ?_
          show Ev 68 (u1, u2) (95, [some (.ref 1), some (.int a1), some (.ref a2), some (.int a3)], []) (hp N (wI w21 a2 1 a3)) _
          refine ev_run (n := 1) (u' := (u1, u2)) (f' := (103, [some (.ref 1), some (.int a1), some (.ref a2), some (.int a3)], [])) (h' := hp N (wI w21 a2 1 a3)) rfl ?_
          exact em68_103 (gm68_55 n) q55 a1 a2 a3 fa2 (by omega) (by omega) (wI w21 a2 1 a3) _ h
      · refine ev_ift rfl (decide_eq_true h24) ?_
        exact em68_109 a2 fa2 (by omega) (by omega) x _ h
