/-! The methods as functions; printed by dec.py -/
def gm68_25 (a1 : Int32) (a2 : Nat) (s0 : Int32) (x : Hs) : Option ((Int32 ⊕ Nat) × Hs) := (gm93 s0 x).bind fun w9 => match w9 with | (.inl _, x13) => (cond (aIn (x13.1 a2 1) 4) (cond (aIn a1 5) (gm68_55 FU a1 a2 ((wI (wI x13 ((60 + 8 * xi (x13.1 a2 1)) + 2) (xi a1) (-1)) a2 3 0).1 a2 1 - 1) (wI (wI x13 ((60 + 8 * xi (x13.1 a2 1)) + 2) (xi a1) (-1)) a2 3 0)) none) none) | (.inr k12, x13) => (cond (Nat.blt k12 3) (some (.inr k12, x13)) none)
theorem em68_25 {N : Nat} {u1 u2 : Nat} (a1 : Int32) (a2 : Nat) (s0 : Int32) (fa2 : RO N a2) (hu1 : u1 + 1 ≤ 2) (hu2 : u2 + 6 ≤ 12) (x : Hs) (r : (Int32 ⊕ Nat) × Hs) (h : gm68_25 a1 a2 s0 x = some r) : Ev 68 (u1, u2) (25, [some (.ref 1), some (.int a1), some (.ref a2), none], [.int s0]) (hp N x) (cvXi N r) := by
  unfold gm68_25 at h
  obtain ⟨w9, h10, h⟩ := bind_ok h
  obtain ⟨w9, x13⟩ := w9
  cases w9 with
  | inl v11 =>
    refine ev_call (v := none) (h1 := hp N x13) rfl rfl rfl (ok_u rfl (by show u1 + 1 ≤ 2; omega) (by show u2 + 6 ≤ 12; omega)) (em93 s0 (by decide) (by decide) x _ h10) ?_
    show Ev 68 (u1 + 1, u2 + 6) (28, [some (.ref 1), some (.int a1), some (.ref a2), none], []) (hp N x13) _
    refine ev_run (n := 3) (u' := (u1 + 1, u2 + 6)) (f' := (33, [some (.ref 1), some (.int a1), some (.ref a2), none], [.ref a2, .ref 59])) (h' := hp N x13) rfl ?_
    refine ev_gfi rfl rfl fa2 ?_
    obtain ⟨h14, h⟩ := cond_some h
    refine ev_aald rfl rfl h14 (rf_59 h14) ?_
    refine ev_gfr rfl rfl (RG_lt N _ (lt_of_aIn h14)).1 ((RG_lt N _ (lt_of_aIn h14)).fd (by decide) (by decide)) ?_
    refine ev_run (n := 2) (u' := (u1 + 1, u2 + 6)) (f' := (42, [some (.ref 1), some (.int a1), some (.ref a2), none], [.int (-1), .int a1, .ref ((60 + 8 * xi (x13.1 a2 1)) + 2)])) (h' := hp N x13) rfl ?_
    obtain ⟨h15, h⟩ := cond_some h
    refine ev_iast rfl ((RG_lt N _ (lt_of_aIn h14)).2.2.2.1).1 (((RG_lt N _ (lt_of_aIn h14)).2.2.2.1).ln h15) ?_
    show Ev 68 (u1 + 1, u2 + 6) (43, [some (.ref 1), some (.int a1), some (.ref a2), none], []) (hp N (wI x13 ((60 + 8 * xi (x13.1 a2 1)) + 2) (xi a1) (-1))) _
    refine ev_run (n := 2) (u' := (u1 + 1, u2 + 6)) (f' := (45, [some (.ref 1), some (.int a1), some (.ref a2), none], [.int 0, .ref a2])) (h' := hp N (wI x13 ((60 + 8 * xi (x13.1 a2 1)) + 2) (xi a1) (-1))) rfl ?_
    refine ev_pfi rfl fa2 rfl ?_
    show Ev 68 (u1 + 1, u2 + 6) (48, [some (.ref 1), some (.int a1), some (.ref a2), none], []) (hp N (wI (wI x13 ((60 + 8 * xi (x13.1 a2 1)) + 2) (xi a1) (-1)) a2 3 0)) _
    refine ev_run (n := 1) (u' := (u1 + 1, u2 + 6)) (f' := (49, [some (.ref 1), some (.int a1), some (.ref a2), none], [.ref a2])) (h' := hp N (wI (wI x13 ((60 + 8 * xi (x13.1 a2 1)) + 2) (xi a1) (-1)) a2 3 0)) rfl ?_
    refine ev_gfi rfl rfl fa2 ?_
    refine ev_run (n := 3) (u' := (u1 + 1, u2 + 6)) (f' := (55, [some (.ref 1), some (.int a1), some (.ref a2), some (.int ((wI (wI x13 ((60 + 8 * xi (x13.1 a2 1)) + 2) (xi a1) (-1)) a2 3 0).1 a2 1 - 1))], [])) (h' := hp N (wI (wI x13 ((60 + 8 * xi (x13.1 a2 1)) + 2) (xi a1) (-1)) a2 3 0)) rfl ?_
    exact em68_55 FU _ _ a1 a2 ((wI (wI x13 ((60 + 8 * xi (x13.1 a2 1)) + 2) (xi a1) (-1)) a2 3 0).1 a2 1 - 1) fa2 (by omega) (by omega) (wI (wI x13 ((60 + 8 * xi (x13.1 a2 1)) + 2) (xi a1) (-1)) a2 3 0) _ h
  | inr k12 =>
    obtain ⟨h16, h⟩ := cond_some h
    cases h
    exact ev_callX (h1 := hp N x13) rfl rfl rfl (ok_u rfl (by show u1 + 1 ≤ 2; omega) (by show u2 + 6 ≤ 12; omega)) h16 rfl (em93 s0 (by decide) (by decide) x _ h10)
def gm68 (a1 : Int32) (x : Hs) : Option ((Int32 ⊕ Nat) × Hs) := (gm94 a1 x).bind fun w1 => match w1 with | (.inl _, x5) => (cond (aIn a1 5) (if x5.1 (93 + xi a1) 0 = (-1) then (gm68_25 a1 (93 + xi a1) 0 x5) else (gm68_25 a1 (93 + xi a1) 1 x5)) none) | (.inr k4, x5) => (cond (Nat.blt k4 3) (some (.inr k4, x5)) none)
theorem em68 {N : Nat} {u1 u2 : Nat} (a1 : Int32) (hu1 : u1 + 2 ≤ 2) (hu2 : u2 + 12 ≤ 12) (x : Hs) (r : (Int32 ⊕ Nat) × Hs) (h : gm68 a1 x = some r) : Ev 68 (u1, u2) (0, aPad [.ref 1, .int a1] 4, []) (hp N x) (cvXi N r) := by
  show Ev 68 (u1, u2) (0, [some (.ref 1), some (.int a1), none, none], []) (hp N x) _
  unfold gm68 at h
  refine ev_run (n := 2) (u' := (u1, u2)) (f' := (2, [some (.ref 1), some (.int a1), none, none], [.int a1, .ref 1])) (h' := hp N x) rfl ?_
  obtain ⟨w1, h2, h⟩ := bind_ok h
  obtain ⟨w1, x5⟩ := w1
  cases w1 with
  | inl v3 =>
    refine ev_call (v := none) (h1 := hp N x5) rfl rfl rfl (ok_u rfl (by show u1 + 1 ≤ 2; omega) (by show u2 + 6 ≤ 12; omega)) (em94 a1 (by decide) (by decide) x _ h2) ?_
    show Ev 68 (u1 + 1, u2 + 6) (5, [some (.ref 1), some (.int a1), none, none], []) (hp N x5) _
    refine ev_run (n := 3) (u' := (u1 + 1, u2 + 6)) (f' := (10, [some (.ref 1), some (.int a1), none, none], [.int a1, .ref 92])) (h' := hp N x5) rfl ?_
    obtain ⟨h6, h⟩ := cond_some h
    refine ev_aald rfl rfl h6 (rf_92 h6) ?_
    refine ev_run (n := 2) (u' := (u1 + 1, u2 + 6)) (f' := (13, [some (.ref 1), some (.int a1), some (.ref (93 + xi a1)), none], [.ref (93 + xi a1)])) (h' := hp N x5) rfl ?_
    refine ev_gfi rfl rfl (RO_lt N _ (lt_of_aIn h6)) ?_
    refine ev_run (n := 1) (u' := (u1 + 1, u2 + 6)) (f' := (17, [some (.ref 1), some (.int a1), some (.ref (93 + xi a1)), none], [.int (-1), .int (x5.1 (93 + xi a1) 0)])) (h' := hp N x5) rfl ?_
    rcases ite_or h with ⟨h7, h⟩ | ⟨h7, h⟩
    · refine ev_ict rfl (decide_eq_true h7) ?_
      refine ev_run (n := 1) (u' := (u1 + 1, u2 + 6)) (f' := (25, [some (.ref 1), some (.int a1), some (.ref (93 + xi a1)), none], [.int 0])) (h' := hp N x5) rfl ?_
      exact em68_25 a1 (93 + xi a1) 0 (RO_lt N _ (lt_of_aIn h6)) (by omega) (by omega) x5 _ h
    · refine ev_icf rfl (decide_eq_false h7) ?_
      refine ev_run (n := 2) (u' := (u1 + 1, u2 + 6)) (f' := (25, [some (.ref 1), some (.int a1), some (.ref (93 + xi a1)), none], [.int 1])) (h' := hp N x5) rfl ?_
      exact em68_25 a1 (93 + xi a1) 1 (RO_lt N _ (lt_of_aIn h6)) (by omega) (by omega) x5 _ h
  | inr k4 =>
    obtain ⟨h8, h⟩ := cond_some h
    cases h
    exact ev_callX (h1 := hp N x5) rfl rfl rfl (ok_u rfl (by show u1 + 1 ≤ 2; omega) (by show u2 + 6 ≤ 12; omega)) h8 rfl (em94 a1 (by decide) (by decide) x _ h2)
def gm96 (a1 : Int32) (x : Hs) : Option ((Unit ⊕ Nat) × Hs) := (gm91 a1 4 x).bind fun w1 => match w1 with | (.inl _, x5) => (some (.inl (), x5)) | (.inr k4, x5) => (cond (Nat.blt k4 3) (some (.inr k4, x5)) none)
theorem em96 {N : Nat} {u1 u2 : Nat} (a1 : Int32) (hu1 : u1 + 1 ≤ 1) (hu2 : u2 + 6 ≤ 6) (x : Hs) (r : (Unit ⊕ Nat) × Hs) (h : gm96 a1 x = some r) : Ev 96 (u1, u2) (0, aPad [.ref 1, .int a1] 2, []) (hp N x) (cvXv N r) := by
  show Ev 96 (u1, u2) (0, [some (.ref 1), some (.int a1)], []) (hp N x) _
  unfold gm96 at h
  refine ev_run (n := 2) (u' := (u1, u2)) (f' := (2, [some (.ref 1), some (.int a1)], [.int 4, .int a1])) (h' := hp N x) rfl ?_
  obtain ⟨w1, h2, h⟩ := bind_ok h
  obtain ⟨w1, x5⟩ := w1
  cases w1 with
  | inl v3 =>
    refine ev_call (v := none) (h1 := hp N x5) rfl rfl rfl (ok_u rfl (by show u1 + 1 ≤ 1; omega) (by show u2 + 6 ≤ 6; omega)) (em91 a1 4 (by decide) (by decide) x _ h2) ?_
    show Ev 96 (u1 + 1, u2 + 6) (5, [some (.ref 1), some (.int a1)], []) (hp N x5) _
    cases h
    exact ev_vret rfl (end_u (by show _ ≤ 1; omega) (by show _ ≤ 6; omega)) rfl
  | inr k4 =>
    obtain ⟨h6, h⟩ := cond_some h
    cases h
    exact ev_callX (h1 := hp N x5) rfl rfl rfl (ok_u rfl (by show u1 + 1 ≤ 1; omega) (by show u2 + 6 ≤ 6; omega)) h6 rfl (em91 a1 4 (by decide) (by decide) x _ h2)
def gm69_80 (a1 : Int32) (a3 : Int32) (a4 : Int32) (a5 : Int32) (a6 : Nat) (s0 : Int32) (x : Hs) : Option ((Int32 ⊕ Nat) × Hs) := (gm93 s0 x).bind fun w30 => match w30 with | (.inl _, x34) => ((gm2 a1 (a4 + a5) a5 x34).bind fun w35 => (if a3 = 0 then ((gm53 a6 a1 (a4 + a5) a5 w35).bind fun w37 => (some (.inl w37.1, w37.2))) else ((gm52 a6 a1 (a4 + a5) a5 w35).bind fun w39 => (some (.inl w39.1, w39.2))))) | (.inr k33, x34) => (cond (Nat.blt k33 3) (some (.inr k33, x34)) none)
theorem em69_80 {N : Nat} {u1 u2 : Nat} (a1 : Int32) (a3 : Int32) (a4 : Int32) (a5 : Int32) (a6 : Nat) (s0 : Int32) (fa6 : RG N a6) (hu1 : u1 + 1 ≤ 4) (hu2 : u2 + 6 ≤ 24) (x : Hs) (r : (Int32 ⊕ Nat) × Hs) (h : gm69_80 a1 a3 a4 a5 a6 s0 x = some r) : Ev 69 (u1, u2) (80, [some (.ref 1), some (.int a1), none, some (.int a3), some (.int a4), some (.int a5), some (.ref a6)], [.int s0]) (hp N x) (cvXi N r) := by
  unfold gm69_80 at h
  obtain ⟨w30, h31, h⟩ := bind_ok h
  obtain ⟨w30, x34⟩ := w30
  cases w30 with
  | inl v32 =>
    refine ev_call (v := none) (h1 := hp N x34) rfl rfl rfl (ok_u rfl (by show u1 + 1 ≤ 4; omega) (by show u2 + 6 ≤ 24; omega)) (em93 s0 (by decide) (by decide) x _ h31) ?_
    show Ev 69 (u1 + 1, u2 + 6) (83, [some (.ref 1), some (.int a1), none, some (.int a3), some (.int a4), some (.int a5), some (.ref a6)], []) (hp N x34) _
    refine ev_run (n := 7) (u' := (u1 + 1, u2 + 6)) (f' := (95, [some (.ref 1), some (.int a1), none, some (.int a3), some (.int a4), some (.int a5), some (.ref a6)], [.int a5, .int (a4 + a5), .int a1, .ref 103])) (h' := hp N x34) rfl ?_
    obtain ⟨w35, h36, h⟩ := bind_ok h
    refine ev_call (v := none) (h1 := hp N w35) rfl rfl rfl (ok_u rfl (by show u1 + 1 + 0 ≤ 4; omega) (by show u2 + 6 + 0 ≤ 24; omega)) (em2 a1 (a4 + a5) a5 x34 _ h36) ?_
    show Ev 69 (u1 + 1, u2 + 6) (98, [some (.ref 1), some (.int a1), none, some (.int a3), some (.int a4), some (.int a5), some (.ref a6)], []) (hp N w35) _
    refine ev_run (n := 1) (u' := (u1 + 1, u2 + 6)) (f' := (99, [some (.ref 1), some (.int a1), none, some (.int a3), some (.int a4), some (.int a5), some (.ref a6)], [.int a3])) (h' := hp N w35) rfl ?_
    rcases ite_or h with ⟨h41, h⟩ | ⟨h41, h⟩
    · refine ev_ift rfl (decide_eq_true h41) ?_
      refine ev_run (n := 6) (u' := (u1 + 1, u2 + 6)) (f' := (128, [none, some (.int a1), none, none, some (.int a4), some (.int a5), some (.ref a6)], [.int a5, .int (a4 + a5), .int a1, .ref a6])) (h' := hp N w35) rfl ?_
      obtain ⟨w37, h38, h⟩ := bind_ok h
      refine ev_call (v := some (.int w37.1)) (h1 := hp N w37.2) rfl rfl rfl (ok_q (q0 := 60) (h0 := hp N (x0 (fun _ => 0))) fa6.1 (ok_u rfl (by show u1 + 1 + 0 ≤ 4; omega) (by show u2 + 6 + 0 ≤ 24; omega))) (em53 a6 a1 (a4 + a5) a5 fa6 w35 _ h38) ?_
      show Ev 69 (u1 + 1, u2 + 6) (131, [none, some (.int a1), none, none, some (.int a4), some (.int a5), some (.ref a6)], [.int w37.1]) (hp N w37.2) _
      cases h
      exact ev_iret rfl (end_u (by show _ ≤ 4; omega) (by show _ ≤ 24; omega)) rfl (Or.inl rfl)
    · refine ev_iff rfl (decide_eq_false h41) ?_
      refine ev_run (n := 6) (u' := (u1 + 1, u2 + 6)) (f' := (112, [some (.ref 1), some (.int a1), none, some (.int a3), some (.int a4), some (.int a5), some (.ref a6)], [.int a5, .int (a4 + a5), .int a1, .ref a6])) (h' := hp N w35) rfl ?_
      obtain ⟨w39, h40, h⟩ := bind_ok h
      refine ev_call (v := some (.int w39.1)) (h1 := hp N w39.2) rfl rfl rfl (ok_q (q0 := 60) (h0 := hp N (x0 (fun _ => 0))) fa6.1 (ok_u rfl (by show u1 + 1 + 0 ≤ 4; omega) (by show u2 + 6 + 0 ≤ 24; omega))) (em52 a6 a1 (a4 + a5) a5 fa6 w35 _ h40) ?_
      show Ev 69 (u1 + 1, u2 + 6) (115, [some (.ref 1), some (.int a1), none, some (.int a3), some (.int a4), some (.int a5), some (.ref a6)], [.int w39.1]) (hp N w39.2) _
      refine ev_run (n := 1) (u' := (u1 + 1, u2 + 6)) (f' := (131, [none, none, none, none, none, none, none], [.int w39.1])) (h' := hp N w39.2) rfl ?_
      cases h
      exact ev_iret rfl (end_u (by show _ ≤ 4; omega) (by show _ ≤ 24; omega)) rfl (Or.inl rfl)
  | inr k33 =>
    obtain ⟨h42, h⟩ := cond_some h
    cases h
    exact ev_callX (h1 := hp N x34) rfl rfl rfl (ok_u rfl (by show u1 + 1 ≤ 4; omega) (by show u2 + 6 ≤ 24; omega)) h42 rfl (em93 s0 (by decide) (by decide) x _ h31)
def gm69_71 (a1 : Int32) (a3 : Int32) (a4 : Int32) (a5 : Int32) (a6 : Nat) (s0 : Int32) (x : Hs) : Option ((Int32 ⊕ Nat) × Hs) := if s0 = (-1) then (gm69_80 a1 a3 a4 a5 a6 0 x) else (gm69_80 a1 a3 a4 a5 a6 1 x)
theorem em69_71 {N : Nat} {u1 u2 : Nat} (a1 : Int32) (a3 : Int32) (a4 : Int32) (a5 : Int32) (a6 : Nat) (s0 : Int32) (fa6 : RG N a6) (hu1 : u1 + 1 ≤ 4) (hu2 : u2 + 6 ≤ 24) (x : Hs) (r : (Int32 ⊕ Nat) × Hs) (h : gm69_71 a1 a3 a4 a5 a6 s0 x = some r) : Ev 69 (u1, u2) (71, [some (.ref 1), some (.int a1), none, some (.int a3), some (.int a4), some (.int a5), some (.ref a6)], [.int s0]) (hp N x) (cvXi N r) := by
  unfold gm69_71 at h
  refine ev_run (n := 1) (u' := (u1, u2)) (f' := (72, [some (.ref 1), some (.int a1), none, some (.int a3), some (.int a4), some (.int a5), some (.ref a6)], [.int (-1), .int s0])) (h' := hp N x) rfl ?_
  rcases ite_or h with ⟨h29, h⟩ | ⟨h29, h⟩
  · refine ev_ict rfl (decide_eq_true h29) ?_
    refine ev_run (n := 1) (u' := (u1, u2)) (f' := (80, [some (.ref 1), some (.int a1), none, some (.int a3), some (.int a4), some (.int a5), some (.ref a6)], [.int 0])) (h' := hp N x) rfl ?_
    exact em69_80 a1 a3 a4 a5 a6 0 fa6 (by omega) (by omega) x _ h
  · refine ev_icf rfl (decide_eq_false h29) ?_
    refine ev_run (n := 2) (u' := (u1, u2)) (f' := (80, [some (.ref 1), some (.int a1), none, some (.int a3), some (.int a4), some (.int a5), some (.ref a6)], [.int 1])) (h' := hp N x) rfl ?_
    exact em69_80 a1 a3 a4 a5 a6 1 fa6 (by omega) (by omega) x _ h
def gm69_39 (a1 : Int32) (a2 : Int32) (a3 : Int32) (a4 : Int32) (a5 : Int32) (s0 : Int32) (x : Hs) : Option ((Int32 ⊕ Nat) × Hs) := (gm92 s0 x).bind fun w19 => match w19 with | (.inl _, x23) => (cond (aIn a2 4) (if a3 = 0 then (cond (aIn a1 5) (gm69_71 a1 a3 a4 a5 (60 + 8 * xi a2) (x23.1 ((60 + 8 * xi a2) + 1) (xi a1)) x23) none) else (cond (aIn a1 5) (gm69_71 a1 a3 a4 a5 (60 + 8 * xi a2) (x23.1 ((60 + 8 * xi a2) + 2) (xi a1)) x23) none)) none) | (.inr k22, x23) => (cond (Nat.blt k22 3) (some (.inr k22, x23)) none)
theorem em69_39 {N : Nat} {u1 u2 : Nat} (a1 : Int32) (a2 : Int32) (a3 : Int32) (a4 : Int32) (a5 : Int32) (s0 : Int32) (hu1 : u1 + 2 ≤ 4) (hu2 : u2 + 12 ≤ 24) (x : Hs) (r : (Int32 ⊕ Nat) × Hs) (h : gm69_39 a1 a2 a3 a4 a5 s0 x = some r) : Ev 69 (u1, u2) (39, [some (.ref 1), some (.int a1), some (.int a2), some (.int a3), some (.int a4), some (.int a5), none], [.int s0]) (hp N x) (cvXi N r) := by
  unfold gm69_39 at h
  obtain ⟨w19, h20, h⟩ := bind_ok h
  obtain ⟨w19, x23⟩ := w19
  cases w19 with
  | inl v21 =>
    refine ev_call (v := none) (h1 := hp N x23) rfl rfl rfl (ok_u rfl (by show u1 + 1 ≤ 4; omega) (by show u2 + 6 ≤ 24; omega)) (em92 s0 (by decide) (by decide) x _ h20) ?_
    show Ev 69 (u1 + 1, u2 + 6) (42, [some (.ref 1), some (.int a1), some (.int a2), some (.int a3), some (.int a4), some (.int a5), none], []) (hp N x23) _
    refine ev_run (n := 3) (u' := (u1 + 1, u2 + 6)) (f' := (47, [some (.ref 1), some (.int a1), some (.int a2), some (.int a3), some (.int a4), some (.int a5), none], [.int a2, .ref 59])) (h' := hp N x23) rfl ?_
    obtain ⟨h24, h⟩ := cond_some h
    refine ev_aald rfl rfl h24 (rf_59 h24) ?_
    refine ev_run (n := 2) (u' := (u1 + 1, u2 + 6)) (f' := (51, [some (.ref 1), some (.int a1), some (.int a2), some (.int a3), some (.int a4), some (.int a5), some (.ref (60 + 8 * xi a2))], [.int a3])) (h' := hp N x23) rfl ?_
    rcases ite_or h with ⟨h27, h⟩ | ⟨h27, h⟩
    · refine ev_ift rfl (decide_eq_true h27) ?_
      refine ev_run (n := 1) (u' := (u1 + 1, u2 + 6)) (f' := (66, [some (.ref 1), some (.int a1), none, some (.int a3), some (.int a4), some (.int a5), some (.ref (60 + 8 * xi a2))], [.ref (60 + 8 * xi a2)])) (h' := hp N x23) rfl ?_
      refine ev_gfr rfl rfl (RG_lt N _ (lt_of_aIn h24)).1 ((RG_lt N _ (lt_of_aIn h24)).fd (by decide) (by decide)) ?_
      refine ev_run (n := 1) (u' := (u1 + 1, u2 + 6)) (f' := (70, [some (.ref 1), some (.int a1), none, some (.int a3), some (.int a4), some (.int a5), some (.ref (60 + 8 * xi a2))], [.int a1, .ref ((60 + 8 * xi a2) + 1)])) (h' := hp N x23) rfl ?_
      obtain ⟨h25, h⟩ := cond_some h
      refine ev_iald rfl ((RG_lt N _ (lt_of_aIn h24)).2.2.1).kd (((RG_lt N _ (lt_of_aIn h24)).2.2.1).ln h25) ?_
      exact em69_71 a1 a3 a4 a5 (60 + 8 * xi a2) (x23.1 ((60 + 8 * xi a2) + 1) (xi a1)) (RG_lt N _ (lt_of_aIn h24)) (by omega) (by omega) x23 _ h
    · refine ev_iff rfl (decide_eq_false h27) ?_
      refine ev_run (n := 1) (u' := (u1 + 1, u2 + 6)) (f' := (56, [some (.ref 1), some (.int a1), some (.int a2), some (.int a3), some (.int a4), some (.int a5), some (.ref (60 + 8 * xi a2))], [.ref (60 + 8 * xi a2)])) (h' := hp N x23) rfl ?_
      refine ev_gfr rfl rfl (RG_lt N _ (lt_of_aIn h24)).1 ((RG_lt N _ (lt_of_aIn h24)).fd (by decide) (by decide)) ?_
      refine ev_run (n := 1) (u' := (u1 + 1, u2 + 6)) (f' := (60, [some (.ref 1), some (.int a1), some (.int a2), some (.int a3), some (.int a4), some (.int a5), some (.ref (60 + 8 * xi a2))], [.int a1, .ref ((60 + 8 * xi a2) + 2)])) (h' := hp N x23) rfl ?_
      obtain ⟨h26, h⟩ := cond_some h
      refine ev_iald rfl ((RG_lt N _ (lt_of_aIn h24)).2.2.2.1).kd (((RG_lt N _ (lt_of_aIn h24)).2.2.2.1).ln h26) ?_
      refine ev_run (n := 1) (u' := (u1 + 1, u2 + 6)) (f' := (71, [some (.ref 1), some (.int a1), none, some (.int a3), some (.int a4), some (.int a5), some (.ref (60 + 8 * xi a2))], [.int (x23.1 ((60 + 8 * xi a2) + 2) (xi a1))])) (h' := hp N x23) rfl ?_
      exact em69_71 a1 a3 a4 a5 (60 + 8 * xi a2) (x23.1 ((60 + 8 * xi a2) + 2) (xi a1)) (RG_lt N _ (lt_of_aIn h24)) (by omega) (by omega) x23 _ h
  | inr k22 =>
    obtain ⟨h28, h⟩ := cond_some h
    cases h
    exact ev_callX (h1 := hp N x23) rfl rfl rfl (ok_u rfl (by show u1 + 1 ≤ 4; omega) (by show u2 + 6 ≤ 24; omega)) h28 rfl (em92 s0 (by decide) (by decide) x _ h20)
def gm69_38 (a1 : Int32) (a2 : Int32) (a3 : Int32) (a4 : Int32) (a5 : Int32) (x : Hs) : Option ((Int32 ⊕ Nat) × Hs) := gm69_39 a1 a2 a3 a4 a5 0 x
theorem em69_38 {N : Nat} {u1 u2 : Nat} (a1 : Int32) (a2 : Int32) (a3 : Int32) (a4 : Int32) (a5 : Int32) (hu1 : u1 + 2 ≤ 4) (hu2 : u2 + 12 ≤ 24) (x : Hs) (r : (Int32 ⊕ Nat) × Hs) (h : gm69_38 a1 a2 a3 a4 a5 x = some r) : Ev 69 (u1, u2) (38, [some (.ref 1), some (.int a1), some (.int a2), some (.int a3), some (.int a4), some (.int a5), none], []) (hp N x) (cvXi N r) := by
  unfold gm69_38 at h
  refine ev_run (n := 1) (u' := (u1, u2)) (f' := (39, [some (.ref 1), some (.int a1), some (.int a2), some (.int a3), some (.int a4), some (.int a5), none], [.int 0])) (h' := hp N x) rfl ?_
  exact em69_39 a1 a2 a3 a4 a5 0 (by omega) (by omega) x _ h
def gm69 (a1 : Int32) (a2 : Int32) (a3 : Int32) (a4 : Int32) (a5 : Int32) (x : Hs) : Option ((Int32 ⊕ Nat) × Hs) := (gm94 a1 x).bind fun w1 => match w1 with | (.inl _, x5) => ((gm96 a2 x5).bind fun w6 => match w6 with | (.inl _, x10) => ((gm99 a4 0 1000 x10).bind fun w11 => (if w11 = 0 then (gm69_38 a1 a2 a3 a4 a5 x10) else ((gm99 a5 0 1000 x10).bind fun w13 => (if w13 = 0 then (gm69_38 a1 a2 a3 a4 a5 x10) else (gm69_39 a1 a2 a3 a4 a5 1 x10))))) | (.inr k9, x10) => (cond (Nat.blt k9 3) (some (.inr k9, x10)) none)) | (.inr k4, x5) => (cond (Nat.blt k4 3) (some (.inr k4, x5)) none)
theorem em69 {N : Nat} {u1 u2 : Nat} (a1 : Int32) (a2 : Int32) (a3 : Int32) (a4 : Int32) (a5 : Int32) (hu1 : u1 + 4 ≤ 4) (hu2 : u2 + 24 ≤ 24) (x : Hs) (r : (Int32 ⊕ Nat) × Hs) (h : gm69 a1 a2 a3 a4 a5 x = some r) : Ev 69 (u1, u2) (0, aPad [.ref 1, .int a1, .int a2, .int a3, .int a4, .int a5] 7, []) (hp N x) (cvXi N r) := by
  show Ev 69 (u1, u2) (0, [some (.ref 1), some (.int a1), some (.int a2), some (.int a3), some (.int a4), some (.int a5), none], []) (hp N x) _
  unfold gm69 at h
  refine ev_run (n := 2) (u' := (u1, u2)) (f' := (2, [some (.ref 1), some (.int a1), some (.int a2), some (.int a3), some (.int a4), some (.int a5), none], [.int a1, .ref 1])) (h' := hp N x) rfl ?_
  obtain ⟨w1, h2, h⟩ := bind_ok h
  obtain ⟨w1, x5⟩ := w1
  cases w1 with
  | inl v3 =>
    refine ev_call (v := none) (h1 := hp N x5) rfl rfl rfl (ok_u rfl (by show u1 + 1 ≤ 4; omega) (by show u2 + 6 ≤ 24; omega)) (em94 a1 (by decide) (by decide) x _ h2) ?_
    show Ev 69 (u1 + 1, u2 + 6) (5, [some (.ref 1), some (.int a1), some (.int a2), some (.int a3), some (.int a4), some (.int a5), none], []) (hp N x5) _
    refine ev_run (n := 2) (u' := (u1 + 1, u2 + 6)) (f' := (7, [some (.ref 1), some (.int a1), some (.int a2), some (.int a3), some (.int a4), some (.int a5), none], [.int a2, .ref 1])) (h' := hp N x5) rfl ?_
    obtain ⟨w6, h7, h⟩ := bind_ok h
    obtain ⟨w6, x10⟩ := w6
    cases w6 with
    | inl v8 =>
      refine ev_call (v := none) (h1 := hp N x10) rfl rfl rfl (ok_u rfl (by show u1 + 1 + 1 ≤ 4; omega) (by show u2 + 6 + 6 ≤ 24; omega)) (em96 a2 (by decide) (by decide) x5 _ h7) ?_
      show Ev 69 (u1 + 2, u2 + 12) (10, [some (.ref 1), some (.int a1), some (.int a2), some (.int a3), some (.int a4), some (.int a5), none], []) (hp N x10) _
      refine ev_run (n := 3) (u' := (u1 + 2, u2 + 12)) (f' := (16, [some (.ref 1), some (.int a1), some (.int a2), some (.int a3), some (.int a4), some (.int a5), none], [.int 1000, .int 0, .int a4])) (h' := hp N x10) rfl ?_
      obtain ⟨w11, h12, h⟩ := bind_ok h
      refine ev_call (v := some (.int w11)) (h1 := hp N x10) rfl rfl rfl (ok_u rfl (by show u1 + 2 + 0 ≤ 4; omega) (by show u2 + 12 + 0 ≤ 24; omega)) (em99 a4 0 1000 x10 _ h12) ?_
      show Ev 69 (u1 + 2, u2 + 12) (19, [some (.ref 1), some (.int a1), some (.int a2), some (.int a3), some (.int a4), some (.int a5), none], [.int w11]) (hp N x10) _
      rcases ite_or h with ⟨h16, h⟩ | ⟨h16, h⟩
      · refine ev_ift rfl (decide_eq_true h16) ?_
        exact em69_38 a1 a2 a3 a4 a5 (by omega) (by omega) x10 _ h
      · refine ev_iff rfl (decide_eq_false h16) ?_
        refine ev_run (n := 3) (u' := (u1 + 2, u2 + 12)) (f' := (28, [some (.ref 1), some (.int a1), some (.int a2), some (.int a3), some (.int a4), some (.int a5), none], [.int 1000, .int 0, .int a5])) (h' := hp N x10) rfl ?_
        obtain ⟨w13, h14, h⟩ := bind_ok h
        refine ev_call (v := some (.int w13)) (h1 := hp N x10) rfl rfl rfl (ok_u rfl (by show u1 + 2 + 0 ≤ 4; omega) (by show u2 + 12 + 0 ≤ 24; omega)) (em99 a5 0 1000 x10 _ h14) ?_
        show Ev 69 (u1 + 2, u2 + 12) (31, [some (.ref 1), some (.int a1), some (.int a2), some (.int a3), some (.int a4), some (.int a5), none], [.int w13]) (hp N x10) _
        rcases ite_or h with ⟨h15, h⟩ | ⟨h15, h⟩
        · refine ev_ift rfl (decide_eq_true h15) ?_
          exact em69_38 a1 a2 a3 a4 a5 (by omega) (by omega) x10 _ h
        · refine ev_iff rfl (decide_eq_false h15) ?_
          refine ev_run (n := 2) (u' := (u1 + 2, u2 + 12)) (f' := (39, [some (.ref 1), some (.int a1), some (.int a2), some (.int a3), some (.int a4), some (.int a5), none], [.int 1])) (h' := hp N x10) rfl ?_
          exact em69_39 a1 a2 a3 a4 a5 1 (by omega) (by omega) x10 _ h
    | inr k9 =>
      obtain ⟨h17, h⟩ := cond_some h
      cases h
      exact ev_callX (h1 := hp N x10) rfl rfl rfl (ok_u rfl (by show u1 + 1 + 1 ≤ 4; omega) (by show u2 + 6 + 6 ≤ 24; omega)) h17 rfl (em96 a2 (by decide) (by decide) x5 _ h7)
  | inr k4 =>
    obtain ⟨h18, h⟩ := cond_some h
    cases h
    exact ev_callX (h1 := hp N x5) rfl rfl rfl (ok_u rfl (by show u1 + 1 ≤ 4; omega) (by show u2 + 6 ≤ 24; omega)) h18 rfl (em94 a1 (by decide) (by decide) x _ h2)
def gm70_59 (a1 : Int32) (a2 : Int32) (a3 : Int32) (s0 : Int32) (x : Hs) : Option ((Int32 ⊕ Nat) × Hs) := (gm93 s0 x).bind fun w21 => match w21 with | (.inl _, x25) => ((gm30 a1 a2 a3 x25).bind fun w26 => (some (.inl w26.1, w26.2))) | (.inr k24, x25) => (cond (Nat.blt k24 3) (some (.inr k24, x25)) none)
theorem em70_59 {N : Nat} {u1 u2 : Nat} (a1 : Int32) (a2 : Int32) (a3 : Int32) (s0 : Int32) (hu1 : u1 + 1 ≤ 3) (hu2 : u2 + 6 ≤ 18) (x : Hs) (r : (Int32 ⊕ Nat) × Hs) (h : gm70_59 a1 a2 a3 s0 x = some r) : Ev 70 (u1, u2) (59, [some (.ref 1), some (.int a1), some (.int a2), some (.int a3)], [.int s0]) (hp N x) (cvXi N r) := by
  unfold gm70_59 at h
  obtain ⟨w21, h22, h⟩ := bind_ok h
  obtain ⟨w21, x25⟩ := w21
  cases w21 with
  | inl v23 =>
    refine ev_call (v := none) (h1 := hp N x25) rfl rfl rfl (ok_u rfl (by show u1 + 1 ≤ 3; omega) (by show u2 + 6 ≤ 18; omega)) (em93 s0 (by decide) (by decide) x _ h22) ?_
    show Ev 70 (u1 + 1, u2 + 6) (62, [some (.ref 1), some (.int a1), some (.int a2), some (.int a3)], []) (hp N x25) _
    refine ev_run (n := 5) (u' := (u1 + 1, u2 + 6)) (f' := (69, [some (.ref 1), some (.int a1), some (.int a2), some (.int a3)], [.int a3, .int a2, .int a1, .ref 98])) (h' := hp N x25) rfl ?_
    obtain ⟨w26, h27, h⟩ := bind_ok h
    refine ev_call (v := some (.int w26.1)) (h1 := hp N w26.2) rfl rfl rfl (ok_u rfl (by show u1 + 1 + 0 ≤ 3; omega) (by show u2 + 6 + 0 ≤ 18; omega)) (em30 a1 a2 a3 x25 _ h27) ?_
    show Ev 70 (u1 + 1, u2 + 6) (72, [some (.ref 1), some (.int a1), some (.int a2), some (.int a3)], [.int w26.1]) (hp N w26.2) _
    cases h
    exact ev_iret rfl (end_u (by show _ ≤ 3; omega) (by show _ ≤ 18; omega)) rfl (Or.inl rfl)
  | inr k24 =>
    obtain ⟨h28, h⟩ := cond_some h
    cases h
    exact ev_callX (h1 := hp N x25) rfl rfl rfl (ok_u rfl (by show u1 + 1 ≤ 3; omega) (by show u2 + 6 ≤ 18; omega)) h28 rfl (em93 s0 (by decide) (by decide) x _ h22)
def gm70_39 (a1 : Int32) (a2 : Int32) (a3 : Int32) (s0 : Int32) (x : Hs) : Option ((Int32 ⊕ Nat) × Hs) := (gm92 s0 x).bind fun w14 => match w14 with | (.inl _, x18) => (if x18.1 98 0 ≥ 8 then (gm70_59 a1 a2 a3 0 x18) else (gm70_59 a1 a2 a3 1 x18)) | (.inr k17, x18) => (cond (Nat.blt k17 3) (some (.inr k17, x18)) none)
theorem em70_39 {N : Nat} {u1 u2 : Nat} (a1 : Int32) (a2 : Int32) (a3 : Int32) (s0 : Int32) (hu1 : u1 + 2 ≤ 3) (hu2 : u2 + 12 ≤ 18) (x : Hs) (r : (Int32 ⊕ Nat) × Hs) (h : gm70_39 a1 a2 a3 s0 x = some r) : Ev 70 (u1, u2) (39, [some (.ref 1), some (.int a1), some (.int a2), some (.int a3)], [.int s0]) (hp N x) (cvXi N r) := by
  unfold gm70_39 at h
  obtain ⟨w14, h15, h⟩ := bind_ok h
  obtain ⟨w14, x18⟩ := w14
  cases w14 with
  | inl v16 =>
    refine ev_call (v := none) (h1 := hp N x18) rfl rfl rfl (ok_u rfl (by show u1 + 1 ≤ 3; omega) (by show u2 + 6 ≤ 18; omega)) (em92 s0 (by decide) (by decide) x _ h15) ?_
    show Ev 70 (u1 + 1, u2 + 6) (42, [some (.ref 1), some (.int a1), some (.int a2), some (.int a3)], []) (hp N x18) _
    refine ev_run (n := 4) (u' := (u1 + 1, u2 + 6)) (f' := (51, [some (.ref 1), some (.int a1), some (.int a2), some (.int a3)], [.int 8, .int (x18.1 98 0)])) (h' := hp N x18) rfl ?_
    rcases ite_or h with ⟨h19, h⟩ | ⟨h19, h⟩
    · refine ev_ict rfl (decide_eq_true h19) ?_
      refine ev_run (n := 1) (u' := (u1 + 1, u2 + 6)) (f' := (59, [some (.ref 1), some (.int a1), some (.int a2), some (.int a3)], [.int 0])) (h' := hp N x18) rfl ?_
      exact em70_59 a1 a2 a3 0 (by omega) (by omega) x18 _ h
    · refine ev_icf rfl (decide_eq_false h19) ?_
      refine ev_run (n := 2) (u' := (u1 + 1, u2 + 6)) (f' := (59, [some (.ref 1), some (.int a1), some (.int a2), some (.int a3)], [.int 1])) (h' := hp N x18) rfl ?_
      exact em70_59 a1 a2 a3 1 (by omega) (by omega) x18 _ h
  | inr k17 =>
    obtain ⟨h20, h⟩ := cond_some h
    cases h
    exact ev_callX (h1 := hp N x18) rfl rfl rfl (ok_u rfl (by show u1 + 1 ≤ 3; omega) (by show u2 + 6 ≤ 18; omega)) h20 rfl (em92 s0 (by decide) (by decide) x _ h15)
def gm70_38 (a1 : Int32) (a2 : Int32) (a3 : Int32) (x : Hs) : Option ((Int32 ⊕ Nat) × Hs) := gm70_39 a1 a2 a3 0 x
theorem em70_38 {N : Nat} {u1 u2 : Nat} (a1 : Int32) (a2 : Int32) (a3 : Int32) (hu1 : u1 + 2 ≤ 3) (hu2 : u2 + 12 ≤ 18) (x : Hs) (r : (Int32 ⊕ Nat) × Hs) (h : gm70_38 a1 a2 a3 x = some r) : Ev 70 (u1, u2) (38, [some (.ref 1), some (.int a1), some (.int a2), some (.int a3)], []) (hp N x) (cvXi N r) := by
  unfold gm70_38 at h
  refine ev_run (n := 1) (u' := (u1, u2)) (f' := (39, [some (.ref 1), some (.int a1), some (.int a2), some (.int a3)], [.int 0])) (h' := hp N x) rfl ?_
  exact em70_39 a1 a2 a3 0 (by omega) (by omega) x _ h
def gm70_10 (a1 : Int32) (a2 : Int32) (a3 : Int32) (x : Hs) : Option ((Int32 ⊕ Nat) × Hs) := (gm99 a2 0 9999 x).bind fun w8 => (if w8 = 0 then (gm70_38 a1 a2 a3 x) else ((gm99 a3 (a2 + 1) 9999 x).bind fun w10 => (if w10 = 0 then (gm70_38 a1 a2 a3 x) else (gm70_39 a1 a2 a3 1 x))))
theorem em70_10 {N : Nat} {u1 u2 : Nat} (a1 : Int32) (a2 : Int32) (a3 : Int32) (hu1 : u1 + 2 ≤ 3) (hu2 : u2 + 12 ≤ 18) (x : Hs) (r : (Int32 ⊕ Nat) × Hs) (h : gm70_10 a1 a2 a3 x = some r) : Ev 70 (u1, u2) (10, [some (.ref 1), some (.int a1), some (.int a2), some (.int a3)], []) (hp N x) (cvXi N r) := by
  unfold gm70_10 at h
  refine ev_run (n := 3) (u' := (u1, u2)) (f' := (15, [some (.ref 1), some (.int a1), some (.int a2), some (.int a3)], [.int 9999, .int 0, .int a2])) (h' := hp N x) rfl ?_
  obtain ⟨w8, h9, h⟩ := bind_ok h
  refine ev_call (v := some (.int w8)) (h1 := hp N x) rfl rfl rfl (ok_u rfl (by show u1 + 0 ≤ 3; omega) (by show u2 + 0 ≤ 18; omega)) (em99 a2 0 9999 x _ h9) ?_
  show Ev 70 (u1, u2) (18, [some (.ref 1), some (.int a1), some (.int a2), some (.int a3)], [.int w8]) (hp N x) _
  rcases ite_or h with ⟨h13, h⟩ | ⟨h13, h⟩
  · refine ev_ift rfl (decide_eq_true h13) ?_
    exact em70_38 a1 a2 a3 (by omega) (by omega) x _ h
  · refine ev_iff rfl (decide_eq_false h13) ?_
    refine ev_run (n := 5) (u' := (u1, u2)) (f' := (28, [some (.ref 1), some (.int a1), some (.int a2), some (.int a3)], [.int 9999, .int (a2 + 1), .int a3])) (h' := hp N x) rfl ?_
    obtain ⟨w10, h11, h⟩ := bind_ok h
    refine ev_call (v := some (.int w10)) (h1 := hp N x) rfl rfl rfl (ok_u rfl (by show u1 + 0 ≤ 3; omega) (by show u2 + 0 ≤ 18; omega)) (em99 a3 (a2 + 1) 9999 x _ h11) ?_
    show Ev 70 (u1, u2) (31, [some (.ref 1), some (.int a1), some (.int a2), some (.int a3)], [.int w10]) (hp N x) _
    rcases ite_or h with ⟨h12, h⟩ | ⟨h12, h⟩
    · refine ev_ift rfl (decide_eq_true h12) ?_
      exact em70_38 a1 a2 a3 (by omega) (by omega) x _ h
    · refine ev_iff rfl (decide_eq_false h12) ?_
      refine ev_run (n := 2) (u' := (u1, u2)) (f' := (39, [some (.ref 1), some (.int a1), some (.int a2), some (.int a3)], [.int 1])) (h' := hp N x) rfl ?_
      exact em70_39 a1 a2 a3 1 (by omega) (by omega) x _ h
def gm70 (a1 : Int32) (a2 : Int32) (a3 : Int32) (x : Hs) : Option ((Int32 ⊕ Nat) × Hs) := if a1 = (-1) then (gm70_10 a1 a2 a3 x) else ((gm94 a1 x).bind fun w1 => match w1 with | (.inl _, x5) => (gm70_10 a1 a2 a3 x5) | (.inr k4, x5) => (cond (Nat.blt k4 3) (some (.inr k4, x5)) none))
theorem em70 {N : Nat} {u1 u2 : Nat} (a1 : Int32) (a2 : Int32) (a3 : Int32) (hu1 : u1 + 3 ≤ 3) (hu2 : u2 + 18 ≤ 18) (x : Hs) (r : (Int32 ⊕ Nat) × Hs) (h : gm70 a1 a2 a3 x = some r) : Ev 70 (u1, u2) (0, aPad [.ref 1, .int a1, .int a2, .int a3] 4, []) (hp N x) (cvXi N r) := by
  show Ev 70 (u1, u2) (0, [some (.ref 1), some (.int a1), some (.int a2), some (.int a3)], []) (hp N x) _
  unfold gm70 at h
  refine ev_run (n := 2) (u' := (u1, u2)) (f' := (2, [some (.ref 1), some (.int a1), some (.int a2), some (.int a3)], [.int (-1), .int a1])) (h' := hp N x) rfl ?_
  rcases ite_or h with ⟨h7, h⟩ | ⟨h7, h⟩
  · refine ev_ict rfl (decide_eq_true h7) ?_
    exact em70_10 a1 a2 a3 (by omega) (by omega) x _ h
  · refine ev_icf rfl (decide_eq_false h7) ?_
    refine ev_run (n := 2) (u' := (u1, u2)) (f' := (7, [some (.ref 1), some (.int a1), some (.int a2), some (.int a3)], [.int a1, .ref 1])) (h' := hp N x) rfl ?_
    obtain ⟨w1, h2, h⟩ := bind_ok h
    obtain ⟨w1, x5⟩ := w1
    cases w1 with
    | inl v3 =>
      refine ev_call (v := none) (h1 := hp N x5) rfl rfl rfl (ok_u rfl (by show u1 + 1 ≤ 3; omega) (by show u2 + 6 ≤ 18; omega)) (em94 a1 (by decide) (by decide) x _ h2) ?_
      show Ev 70 (u1 + 1, u2 + 6) (10, [some (.ref 1), some (.int a1), some (.int a2), some (.int a3)], []) (hp N x5) _
      exact em70_10 a1 a2 a3 (by omega) (by omega) x5 _ h
    | inr k4 =>
      obtain ⟨h6, h⟩ := cond_some h
      cases h
      exact ev_callX (h1 := hp N x5) rfl rfl rfl (ok_u rfl (by show u1 + 1 ≤ 3; omega) (by show u2 + 6 ≤ 18; omega)) h6 rfl (em94 a1 (by decide) (by decide) x _ h2)
def gm71_24 (a1 : Int32) (s0 : Int32) (x : Hs) : Option ((Int32 ⊕ Nat) × Hs) := (gm93 s0 x).bind fun w9 => match w9 with | (.inl _, x13) => (cond (aIn a1 5) (cond (aIn a1 5) (cond (aIn a1 5) (some (.inl ((wI x13 99 (xi a1) (x13.1 99 (xi a1) + 1)).1 99 (xi a1)), (wI x13 99 (xi a1) (x13.1 99 (xi a1) + 1)))) none) none) none) | (.inr k12, x13) => (cond (Nat.blt k12 3) (some (.inr k12, x13)) none)
theorem em71_24 {N : Nat} {u1 u2 : Nat} (a1 : Int32) (s0 : Int32) (hu1 : u1 + 1 ≤ 2) (hu2 : u2 + 6 ≤ 12) (x : Hs) (r : (Int32 ⊕ Nat) × Hs) (h : gm71_24 a1 s0 x = some r) : Ev 71 (u1, u2) (24, [some (.ref 1), some (.int a1)], [.int s0]) (hp N x) (cvXi N r) := by
  unfold gm71_24 at h
  obtain ⟨w9, h10, h⟩ := bind_ok h
  obtain ⟨w9, x13⟩ := w9
  cases w9 with
  | inl v11 =>
    refine ev_call (v := none) (h1 := hp N x13) rfl rfl rfl (ok_u rfl (by show u1 + 1 ≤ 2; omega) (by show u2 + 6 ≤ 12; omega)) (em93 s0 (by decide) (by decide) x _ h10) ?_
    show Ev 71 (u1 + 1, u2 + 6) (27, [some (.ref 1), some (.int a1)], []) (hp N x13) _
    refine ev_run (n := 5) (u' := (u1 + 1, u2 + 6)) (f' := (36, [some (.ref 1), some (.int a1)], [.int a1, .ref 99, .int a1, .ref 99])) (h' := hp N x13) rfl ?_
    obtain ⟨h14, h⟩ := cond_some h
    refine ev_iald rfl rfl h14 ?_
    refine ev_run (n := 2) (u' := (u1 + 1, u2 + 6)) (f' := (39, [some (.ref 1), some (.int a1)], [.int (x13.1 99 (xi a1) + 1), .int a1, .ref 99])) (h' := hp N x13) rfl ?_
    obtain ⟨h15, h⟩ := cond_some h
    refine ev_iast rfl rfl h15 ?_
    show Ev 71 (u1 + 1, u2 + 6) (40, [some (.ref 1), some (.int a1)], []) (hp N (wI x13 99 (xi a1) (x13.1 99 (xi a1) + 1))) _
    refine ev_run (n := 4) (u' := (u1 + 1, u2 + 6)) (f' := (48, [some (.ref 1), some (.int a1)], [.int a1, .ref 99])) (h' := hp N (wI x13 99 (xi a1) (x13.1 99 (xi a1) + 1))) rfl ?_
    obtain ⟨h16, h⟩ := cond_some h
    refine ev_iald rfl rfl h16 ?_
    cases h
    exact ev_iret rfl (end_u (by show _ ≤ 2; omega) (by show _ ≤ 12; omega)) rfl (Or.inl rfl)
  | inr k12 =>
    obtain ⟨h17, h⟩ := cond_some h
    cases h
    exact ev_callX (h1 := hp N x13) rfl rfl rfl (ok_u rfl (by show u1 + 1 ≤ 2; omega) (by show u2 + 6 ≤ 12; omega)) h17 rfl (em93 s0 (by decide) (by decide) x _ h10)
def gm71 (a1 : Int32) (x : Hs) : Option ((Int32 ⊕ Nat) × Hs) := (gm94 a1 x).bind fun w1 => match w1 with | (.inl _, x5) => (cond (aIn a1 5) (if x5.1 99 (xi a1) ≥ 9 then (gm71_24 a1 0 x5) else (gm71_24 a1 1 x5)) none) | (.inr k4, x5) => (cond (Nat.blt k4 3) (some (.inr k4, x5)) none)
theorem em71 {N : Nat} {u1 u2 : Nat} (a1 : Int32) (hu1 : u1 + 2 ≤ 2) (hu2 : u2 + 12 ≤ 12) (x : Hs) (r : (Int32 ⊕ Nat) × Hs) (h : gm71 a1 x = some r) : Ev 71 (u1, u2) (0, aPad [.ref 1, .int a1] 2, []) (hp N x) (cvXi N r) := by
  show Ev 71 (u1, u2) (0, [some (.ref 1), some (.int a1)], []) (hp N x) _
  unfold gm71 at h
  refine ev_run (n := 2) (u' := (u1, u2)) (f' := (2, [some (.ref 1), some (.int a1)], [.int a1, .ref 1])) (h' := hp N x) rfl ?_
  obtain ⟨w1, h2, h⟩ := bind_ok h
  obtain ⟨w1, x5⟩ := w1
  cases w1 with
  | inl v3 =>
    refine ev_call (v := none) (h1 := hp N x5) rfl rfl rfl (ok_u rfl (by show u1 + 1 ≤ 2; omega) (by show u2 + 6 ≤ 12; omega)) (em94 a1 (by decide) (by decide) x _ h2) ?_
    show Ev 71 (u1 + 1, u2 + 6) (5, [some (.ref 1), some (.int a1)], []) (hp N x5) _
    refine ev_run (n := 4) (u' := (u1 + 1, u2 + 6)) (f' := (13, [some (.ref 1), some (.int a1)], [.int a1, .ref 99])) (h' := hp N x5) rfl ?_
    obtain ⟨h6, h⟩ := cond_some h
    refine ev_iald rfl rfl h6 ?_
    refine ev_run (n := 1) (u' := (u1 + 1, u2 + 6)) (f' := (16, [some (.ref 1), some (.int a1)], [.int 9, .int (x5.1 99 (xi a1))])) (h' := hp N x5) rfl ?_
    rcases ite_or h with ⟨h7, h⟩ | ⟨h7, h⟩
    · refine ev_ict rfl (decide_eq_true h7) ?_
      refine ev_run (n := 1) (u' := (u1 + 1, u2 + 6)) (f' := (24, [some (.ref 1), some (.int a1)], [.int 0])) (h' := hp N x5) rfl ?_
      exact em71_24 a1 0 (by omega) (by omega) x5 _ h
    · refine ev_icf rfl (decide_eq_false h7) ?_
      refine ev_run (n := 2) (u' := (u1 + 1, u2 + 6)) (f' := (24, [some (.ref 1), some (.int a1)], [.int 1])) (h' := hp N x5) rfl ?_
      exact em71_24 a1 1 (by omega) (by omega) x5 _ h
  | inr k4 =>
    obtain ⟨h8, h⟩ := cond_some h
    cases h
    exact ev_callX (h1 := hp N x5) rfl rfl rfl (ok_u rfl (by show u1 + 1 ≤ 2; omega) (by show u2 + 6 ≤ 12; omega)) h8 rfl (em94 a1 (by decide) (by decide) x _ h2)
def gm72 (a1 : Int32) (a2 : Int32) (x : Hs) : Option ((Int32 ⊕ Nat) × Hs) := (gm94 a1 x).bind fun w1 => match w1 with | (.inl _, x5) => ((gm99 a2 1 1000 x5).bind fun w6 => ((gm92 w6 x5).bind fun w8 => match w8 with | (.inl _, x12) => (cond (aIn a1 5) (cond (aIn a1 5) (some (.inl (x12.1 104 (xi a1)), (wI x12 104 (xi a1) a2))) none) none) | (.inr k11, x12) => (cond (Nat.blt k11 3) (some (.inr k11, x12)) none))) | (.inr k4, x5) => (cond (Nat.blt k4 3) (some (.inr k4, x5)) none)
theorem em72 {N : Nat} {u1 u2 : Nat} (a1 : Int32) (a2 : Int32) (hu1 : u1 + 2 ≤ 2) (hu2 : u2 + 12 ≤ 12) (x : Hs) (r : (Int32 ⊕ Nat) × Hs) (h : gm72 a1 a2 x = some r) : Ev 72 (u1, u2) (0, aPad [.ref 1, .int a1, .int a2] 4, []) (hp N x) (cvXi N r) := by
  show Ev 72 (u1, u2) (0, [some (.ref 1), some (.int a1), some (.int a2), none], []) (hp N x) _
  unfold gm72 at h
  refine ev_run (n := 2) (u' := (u1, u2)) (f' := (2, [some (.ref 1), some (.int a1), some (.int a2), none], [.int a1, .ref 1])) (h' := hp N x) rfl ?_
  obtain ⟨w1, h2, h⟩ := bind_ok h
  obtain ⟨w1, x5⟩ := w1
  cases w1 with
  | inl v3 =>
    refine ev_call (v := none) (h1 := hp N x5) rfl rfl rfl (ok_u rfl (by show u1 + 1 ≤ 2; omega) (by show u2 + 6 ≤ 12; omega)) (em94 a1 (by decide) (by decide) x _ h2) ?_
    show Ev 72 (u1 + 1, u2 + 6) (5, [some (.ref 1), some (.int a1), some (.int a2), none], []) (hp N x5) _
    refine ev_run (n := 3) (u' := (u1 + 1, u2 + 6)) (f' := (10, [some (.ref 1), some (.int a1), some (.int a2), none], [.int 1000, .int 1, .int a2])) (h' := hp N x5) rfl ?_
    obtain ⟨w6, h7, h⟩ := bind_ok h
    refine ev_call (v := some (.int w6)) (h1 := hp N x5) rfl rfl rfl (ok_u rfl (by show u1 + 1 + 0 ≤ 2; omega) (by show u2 + 6 + 0 ≤ 12; omega)) (em99 a2 1 1000 x5 _ h7) ?_
    show Ev 72 (u1 + 1, u2 + 6) (13, [some (.ref 1), some (.int a1), some (.int a2), none], [.int w6]) (hp N x5) _
    obtain ⟨w8, h9, h⟩ := bind_ok h
    obtain ⟨w8, x12⟩ := w8
    cases w8 with
    | inl v10 =>
      refine ev_call (v := none) (h1 := hp N x12) rfl rfl rfl (ok_u rfl (by show u1 + 1 + 1 ≤ 2; omega) (by show u2 + 6 + 6 ≤ 12; omega)) (em92 w6 (by decide) (by decide) x5 _ h9) ?_
      show Ev 72 (u1 + 2, u2 + 12) (16, [some (.ref 1), some (.int a1), some (.int a2), none], []) (hp N x12) _
      refine ev_run (n := 4) (u' := (u1 + 2, u2 + 12)) (f' := (24, [some (.ref 1), some (.int a1), some (.int a2), none], [.int a1, .ref 104])) (h' := hp N x12) rfl ?_
      obtain ⟨h13, h⟩ := cond_some h
      refine ev_iald rfl rfl h13 ?_
      refine ev_run (n := 6) (u' := (u1 + 2, u2 + 12)) (f' := (35, [some (.ref 1), some (.int a1), some (.int a2), some (.int (x12.1 104 (xi a1)))], [.int a2, .int a1, .ref 104])) (h' := hp N x12) rfl ?_
      obtain ⟨h14, h⟩ := cond_some h
      refine ev_iast rfl rfl h14 ?_
      show Ev 72 (u1 + 2, u2 + 12) (36, [some (.ref 1), some (.int a1), some (.int a2), some (.int (x12.1 104 (xi a1)))], []) (hp N (wI x12 104 (xi a1) a2)) _
      refine ev_run (n := 1) (u' := (u1 + 2, u2 + 12)) (f' := (37, [some (.ref 1), some (.int a1), some (.int a2), some (.int (x12.1 104 (xi a1)))], [.int (x12.1 104 (xi a1))])) (h' := hp N (wI x12 104 (xi a1) a2)) rfl ?_
      cases h
      exact ev_iret rfl (end_u (by show _ ≤ 2; omega) (by show _ ≤ 12; omega)) rfl (Or.inl rfl)
    | inr k11 =>
      obtain ⟨h15, h⟩ := cond_some h
      cases h
      exact ev_callX (h1 := hp N x12) rfl rfl rfl (ok_u rfl (by show u1 + 1 + 1 ≤ 2; omega) (by show u2 + 6 + 6 ≤ 12; omega)) h15 rfl (em92 w6 (by decide) (by decide) x5 _ h9)
  | inr k4 =>
    obtain ⟨h16, h⟩ := cond_some h
    cases h
    exact ev_callX (h1 := hp N x5) rfl rfl rfl (ok_u rfl (by show u1 + 1 ≤ 2; omega) (by show u2 + 6 ≤ 12; omega)) h16 rfl (em94 a1 (by decide) (by decide) x _ h2)
def gm73 (a1 : Int32) (x : Hs) : Option ((UInt32 ⊕ Nat) × Hs) := (gm94 a1 x).bind fun w1 => match w1 with | (.inl _, x5) => ((gm4 a1 x5).bind fun w6 => (some (.inl w6, x5))) | (.inr k4, x5) => (cond (Nat.blt k4 3) (some (.inr k4, x5)) none)
theorem em73 {N : Nat} {u1 u2 : Nat} (a1 : Int32) (hu1 : u1 + 1 ≤ 1) (hu2 : u2 + 6 ≤ 6) (x : Hs) (r : (UInt32 ⊕ Nat) × Hs) (h : gm73 a1 x = some r) : Ev 73 (u1, u2) (0, aPad [.ref 1, .int a1] 2, []) (hp N x) (cvXf N r) := by
  show Ev 73 (u1, u2) (0, [some (.ref 1), some (.int a1)], []) (hp N x) _
  unfold gm73 at h
  refine ev_run (n := 2) (u' := (u1, u2)) (f' := (2, [some (.ref 1), some (.int a1)], [.int a1, .ref 1])) (h' := hp N x) rfl ?_
  obtain ⟨w1, h2, h⟩ := bind_ok h
  obtain ⟨w1, x5⟩ := w1
  cases w1 with
  | inl v3 =>
    refine ev_call (v := none) (h1 := hp N x5) rfl rfl rfl (ok_u rfl (by show u1 + 1 ≤ 1; omega) (by show u2 + 6 ≤ 6; omega)) (em94 a1 (by decide) (by decide) x _ h2) ?_
    show Ev 73 (u1 + 1, u2 + 6) (5, [some (.ref 1), some (.int a1)], []) (hp N x5) _
    refine ev_run (n := 3) (u' := (u1 + 1, u2 + 6)) (f' := (10, [some (.ref 1), some (.int a1)], [.int a1, .ref 103])) (h' := hp N x5) rfl ?_
    obtain ⟨w6, h7, h⟩ := bind_ok h
    refine ev_call (v := some (.float w6)) (h1 := hp N x5) rfl rfl rfl (ok_u rfl (by show u1 + 1 + 0 ≤ 1; omega) (by show u2 + 6 + 0 ≤ 6; omega)) (em4 a1 x5 _ h7) ?_
    show Ev 73 (u1 + 1, u2 + 6) (13, [some (.ref 1), some (.int a1)], [.float w6]) (hp N x5) _
    cases h
    exact ev_fret rfl (end_u (by show _ ≤ 1; omega) (by show _ ≤ 6; omega)) rfl
  | inr k4 =>
    obtain ⟨h8, h⟩ := cond_some h
    cases h
    exact ev_callX (h1 := hp N x5) rfl rfl rfl (ok_u rfl (by show u1 + 1 ≤ 1; omega) (by show u2 + 6 ≤ 6; omega)) h8 rfl (em94 a1 (by decide) (by decide) x _ h2)
def gm97 (a1 : Int32) (x : Hs) : Option ((Unit ⊕ Nat) × Hs) := (gm91 a1 (x.1 107 0) x).bind fun w1 => match w1 with | (.inl _, x5) => (some (.inl (), x5)) | (.inr k4, x5) => (cond (Nat.blt k4 3) (some (.inr k4, x5)) none)
theorem em97 {N : Nat} {u1 u2 : Nat} (a1 : Int32) (hu1 : u1 + 1 ≤ 1) (hu2 : u2 + 6 ≤ 6) (x : Hs) (r : (Unit ⊕ Nat) × Hs) (h : gm97 a1 x = some r) : Ev 97 (u1, u2) (0, aPad [.ref 1, .int a1] 2, []) (hp N x) (cvXv N r) := by
  show Ev 97 (u1, u2) (0, [some (.ref 1), some (.int a1)], []) (hp N x) _
  unfold gm97 at h
  refine ev_run (n := 4) (u' := (u1, u2)) (f' := (8, [some (.ref 1), some (.int a1)], [.int (x.1 107 0), .int a1])) (h' := hp N x) rfl ?_
  obtain ⟨w1, h2, h⟩ := bind_ok h
  obtain ⟨w1, x5⟩ := w1
  cases w1 with
  | inl v3 =>
    refine ev_call (v := none) (h1 := hp N x5) rfl rfl rfl (ok_u rfl (by show u1 + 1 ≤ 1; omega) (by show u2 + 6 ≤ 6; omega)) (em91 a1 (x.1 107 0) (by decide) (by decide) x _ h2) ?_
    show Ev 97 (u1 + 1, u2 + 6) (11, [some (.ref 1), some (.int a1)], []) (hp N x5) _
    cases h
    exact ev_vret rfl (end_u (by show _ ≤ 1; omega) (by show _ ≤ 6; omega)) rfl
  | inr k4 =>
    obtain ⟨h6, h⟩ := cond_some h
    cases h
    exact ev_callX (h1 := hp N x5) rfl rfl rfl (ok_u rfl (by show u1 + 1 ≤ 1; omega) (by show u2 + 6 ≤ 6; omega)) h6 rfl (em91 a1 (x.1 107 0) (by decide) (by decide) x _ h2)
def gm100 (a0 : Int32) (a1 : Int32) (x : Hs) : Option (Int32) := (gm99 a0 0 100 x).bind fun w1 => (if w1 = 0 then (some 0) else ((gm99 a1 a0 100 x).bind fun w3 => (if w3 = 0 then (some 0) else (some 1))))
theorem em100 {N : Nat} (a0 : Int32) (a1 : Int32) (x : Hs) (r : Int32) (h : gm100 a0 a1 x = some r) : Ev 100 (0, 0) (0, aPad [.int a0, .int a1] 2, []) (hp N x) (cvPi N x r) := by
  show Ev 100 (0, 0) (0, [some (.int a0), some (.int a1)], []) (hp N x) _
  unfold gm100 at h
  refine ev_run (n := 3) (u' := (0, 0)) (f' := (4, [some (.int a0), some (.int a1)], [.int 100, .int 0, .int a0])) (h' := hp N x) rfl ?_
  obtain ⟨w1, h2, h⟩ := bind_ok h
  refine ev_call (v := some (.int w1)) (h1 := hp N x) rfl rfl rfl rfl (em99 a0 0 100 x _ h2) ?_
  show Ev 100 (0, 0) (7, [some (.int a0), some (.int a1)], [.int w1]) (hp N x) _
  rcases ite_or h with ⟨h6, h⟩ | ⟨h6, h⟩
  · refine ev_ift rfl (decide_eq_true h6) ?_
    refine ev_run (n := 1) (u' := (0, 0)) (f' := (25, [none, none], [.int 0])) (h' := hp N x) rfl ?_
    cases h
    exact ev_iret rfl rfl rfl (Or.inr ⟨rfl, rfl⟩)
  · refine ev_iff rfl (decide_eq_false h6) ?_
    refine ev_run (n := 3) (u' := (0, 0)) (f' := (14, [some (.int a0), some (.int a1)], [.int 100, .int a0, .int a1])) (h' := hp N x) rfl ?_
    obtain ⟨w3, h4, h⟩ := bind_ok h
    refine ev_call (v := some (.int w3)) (h1 := hp N x) rfl rfl rfl rfl (em99 a1 a0 100 x _ h4) ?_
    show Ev 100 (0, 0) (17, [some (.int a0), some (.int a1)], [.int w3]) (hp N x) _
    rcases ite_or h with ⟨h5, h⟩ | ⟨h5, h⟩
    · refine ev_ift rfl (decide_eq_true h5) ?_
      refine ev_run (n := 1) (u' := (0, 0)) (f' := (25, [none, none], [.int 0])) (h' := hp N x) rfl ?_
      cases h
      exact ev_iret rfl rfl rfl (Or.inr ⟨rfl, rfl⟩)
    · refine ev_iff rfl (decide_eq_false h5) ?_
      refine ev_run (n := 2) (u' := (0, 0)) (f' := (25, [none, none], [.int 1])) (h' := hp N x) rfl ?_
      cases h
      exact ev_iret rfl rfl rfl (Or.inr ⟨rfl, rfl⟩)
def gm74_68 (a1 : Int32) (a2 : Int32) (a3 : Int32) (a4 : Int32) (s0 : Int32) (x : Hs) : Option ((Int32 ⊕ Nat) × Hs) := (gm93 s0 x).bind fun w24 => match w24 with | (.inl _, x28) => ((gm23 a1 a2 a3 a4 x28).bind fun w29 => (some (.inl w29.1, w29.2))) | (.inr k27, x28) => (cond (Nat.blt k27 3) (some (.inr k27, x28)) none)
theorem em74_68 {N : Nat} {u1 u2 : Nat} (a1 : Int32) (a2 : Int32) (a3 : Int32) (a4 : Int32) (s0 : Int32) (hu1 : u1 + 1 ≤ 3) (hu2 : u2 + 6 ≤ 18) (x : Hs) (r : (Int32 ⊕ Nat) × Hs) (h : gm74_68 a1 a2 a3 a4 s0 x = some r) : Ev 74 (u1, u2) (68, [some (.ref 1), some (.int a1), some (.int a2), some (.int a3), some (.int a4)], [.int s0]) (hp N x) (cvXi N r) := by
  unfold gm74_68 at h
  obtain ⟨w24, h25, h⟩ := bind_ok h
  obtain ⟨w24, x28⟩ := w24
  cases w24 with
  | inl v26 =>
    refine ev_call (v := none) (h1 := hp N x28) rfl rfl rfl (ok_u rfl (by show u1 + 1 ≤ 3; omega) (by show u2 + 6 ≤ 18; omega)) (em93 s0 (by decide) (by decide) x _ h25) ?_
    show Ev 74 (u1 + 1, u2 + 6) (71, [some (.ref 1), some (.int a1), some (.int a2), some (.int a3), some (.int a4)], []) (hp N x28) _
    refine ev_run (n := 6) (u' := (u1 + 1, u2 + 6)) (f' := (80, [some (.ref 1), some (.int a1), some (.int a2), some (.int a3), some (.int a4)], [.int a4, .int a3, .int a2, .int a1, .ref 107])) (h' := hp N x28) rfl ?_
    obtain ⟨w29, h30, h⟩ := bind_ok h
    refine ev_call (v := some (.int w29.1)) (h1 := hp N w29.2) rfl rfl rfl (ok_u rfl (by show u1 + 1 + 0 ≤ 3; omega) (by show u2 + 6 + 0 ≤ 18; omega)) (em23 a1 a2 a3 a4 x28 _ h30) ?_
    show Ev 74 (u1 + 1, u2 + 6) (83, [some (.ref 1), some (.int a1), some (.int a2), some (.int a3), some (.int a4)], [.int w29.1]) (hp N w29.2) _
    cases h
    exact ev_iret rfl (end_u (by show _ ≤ 3; omega) (by show _ ≤ 18; omega)) rfl (Or.inl rfl)
  | inr k27 =>
    obtain ⟨h31, h⟩ := cond_some h
    cases h
    exact ev_callX (h1 := hp N x28) rfl rfl rfl (ok_u rfl (by show u1 + 1 ≤ 3; omega) (by show u2 + 6 ≤ 18; omega)) h31 rfl (em93 s0 (by decide) (by decide) x _ h25)
def gm74_67 (a1 : Int32) (a2 : Int32) (a3 : Int32) (a4 : Int32) (x : Hs) : Option ((Int32 ⊕ Nat) × Hs) := gm74_68 a1 a2 a3 a4 0 x
theorem em74_67 {N : Nat} {u1 u2 : Nat} (a1 : Int32) (a2 : Int32) (a3 : Int32) (a4 : Int32) (hu1 : u1 + 1 ≤ 3) (hu2 : u2 + 6 ≤ 18) (x : Hs) (r : (Int32 ⊕ Nat) × Hs) (h : gm74_67 a1 a2 a3 a4 x = some r) : Ev 74 (u1, u2) (67, [some (.ref 1), some (.int a1), some (.int a2), some (.int a3), some (.int a4)], []) (hp N x) (cvXi N r) := by
  unfold gm74_67 at h
  refine ev_run (n := 1) (u' := (u1, u2)) (f' := (68, [some (.ref 1), some (.int a1), some (.int a2), some (.int a3), some (.int a4)], [.int 0])) (h' := hp N x) rfl ?_
  exact em74_68 a1 a2 a3 a4 0 (by omega) (by omega) x _ h
def gm74_34 (a1 : Int32) (a2 : Int32) (a3 : Int32) (a4 : Int32) (s0 : Int32) (x : Hs) : Option ((Int32 ⊕ Nat) × Hs) := (gm92 s0 x).bind fun w14 => match w14 with | (.inl _, x18) => (if x18.1 107 0 ≥ 12 then (gm74_67 a1 a2 a3 a4 x18) else ((gm24 a1 a2 a3 (-1) x18).bind fun w19 => (if w19 = 0 then (gm74_67 a1 a2 a3 a4 x18) else (gm74_68 a1 a2 a3 a4 1 x18)))) | (.inr k17, x18) => (cond (Nat.blt k17 3) (some (.inr k17, x18)) none)
theorem em74_34 {N : Nat} {u1 u2 : Nat} (a1 : Int32) (a2 : Int32) (a3 : Int32) (a4 : Int32) (s0 : Int32) (hu1 : u1 + 2 ≤ 3) (hu2 : u2 + 12 ≤ 18) (x : Hs) (r : (Int32 ⊕ Nat) × Hs) (h : gm74_34 a1 a2 a3 a4 s0 x = some r) : Ev 74 (u1, u2) (34, [some (.ref 1), some (.int a1), some (.int a2), some (.int a3), some (.int a4)], [.int s0]) (hp N x) (cvXi N r) := by
  unfold gm74_34 at h
  obtain ⟨w14, h15, h⟩ := bind_ok h
  obtain ⟨w14, x18⟩ := w14
  cases w14 with
  | inl v16 =>
    refine ev_call (v := none) (h1 := hp N x18) rfl rfl rfl (ok_u rfl (by show u1 + 1 ≤ 3; omega) (by show u2 + 6 ≤ 18; omega)) (em92 s0 (by decide) (by decide) x _ h15) ?_
    show Ev 74 (u1 + 1, u2 + 6) (37, [some (.ref 1), some (.int a1), some (.int a2), some (.int a3), some (.int a4)], []) (hp N x18) _
    refine ev_run (n := 4) (u' := (u1 + 1, u2 + 6)) (f' := (46, [some (.ref 1), some (.int a1), some (.int a2), some (.int a3), some (.int a4)], [.int 12, .int (x18.1 107 0)])) (h' := hp N x18) rfl ?_
    rcases ite_or h with ⟨h22, h⟩ | ⟨h22, h⟩
    · refine ev_ict rfl (decide_eq_true h22) ?_
      exact em74_67 a1 a2 a3 a4 (by omega) (by omega) x18 _ h
    · refine ev_icf rfl (decide_eq_false h22) ?_
      refine ev_run (n := 6) (u' := (u1 + 1, u2 + 6)) (f' := (57, [some (.ref 1), some (.int a1), some (.int a2), some (.int a3), some (.int a4)], [.int (-1), .int a3, .int a2, .int a1, .ref 107])) (h' := hp N x18) rfl ?_
      obtain ⟨w19, h20, h⟩ := bind_ok h
      refine ev_call (v := some (.int w19)) (h1 := hp N x18) rfl rfl rfl (ok_u rfl (by show u1 + 1 + 0 ≤ 3; omega) (by show u2 + 6 + 0 ≤ 18; omega)) (em24 a1 a2 a3 (-1) x18 _ h20) ?_
      show Ev 74 (u1 + 1, u2 + 6) (60, [some (.ref 1), some (.int a1), some (.int a2), some (.int a3), some (.int a4)], [.int w19]) (hp N x18) _
      rcases ite_or h with ⟨h21, h⟩ | ⟨h21, h⟩
      · refine ev_ift rfl (decide_eq_true h21) ?_
        exact em74_67 a1 a2 a3 a4 (by omega) (by omega) x18 _ h
      · refine ev_iff rfl (decide_eq_false h21) ?_
        refine ev_run (n := 2) (u' := (u1 + 1, u2 + 6)) (f' := (68, [some (.ref 1), some (.int a1), some (.int a2), some (.int a3), some (.int a4)], [.int 1])) (h' := hp N x18) rfl ?_
        exact em74_68 a1 a2 a3 a4 1 (by omega) (by omega) x18 _ h
  | inr k17 =>
    obtain ⟨h23, h⟩ := cond_some h
    cases h
    exact ev_callX (h1 := hp N x18) rfl rfl rfl (ok_u rfl (by show u1 + 1 ≤ 3; omega) (by show u2 + 6 ≤ 18; omega)) h23 rfl (em92 s0 (by decide) (by decide) x _ h15)
def gm74_33 (a1 : Int32) (a2 : Int32) (a3 : Int32) (a4 : Int32) (x : Hs) : Option ((Int32 ⊕ Nat) × Hs) := gm74_34 a1 a2 a3 a4 0 x
theorem em74_33 {N : Nat} {u1 u2 : Nat} (a1 : Int32) (a2 : Int32) (a3 : Int32) (a4 : Int32) (hu1 : u1 + 2 ≤ 3) (hu2 : u2 + 12 ≤ 18) (x : Hs) (r : (Int32 ⊕ Nat) × Hs) (h : gm74_33 a1 a2 a3 a4 x = some r) : Ev 74 (u1, u2) (33, [some (.ref 1), some (.int a1), some (.int a2), some (.int a3), some (.int a4)], []) (hp N x) (cvXi N r) := by
  unfold gm74_33 at h
  refine ev_run (n := 1) (u' := (u1, u2)) (f' := (34, [some (.ref 1), some (.int a1), some (.int a2), some (.int a3), some (.int a4)], [.int 0])) (h' := hp N x) rfl ?_
  exact em74_34 a1 a2 a3 a4 0 (by omega) (by omega) x _ h
def gm74_12 (a1 : Int32) (a2 : Int32) (a3 : Int32) (a4 : Int32) (x : Hs) : Option ((Int32 ⊕ Nat) × Hs) := (gm99 a1 0 3 x).bind fun w8 => (if w8 = 0 then (gm74_33 a1 a2 a3 a4 x) else ((gm100 a2 a3 x).bind fun w10 => (if w10 = 0 then (gm74_33 a1 a2 a3 a4 x) else (gm74_34 a1 a2 a3 a4 1 x))))
theorem em74_12 {N : Nat} {u1 u2 : Nat} (a1 : Int32) (a2 : Int32) (a3 : Int32) (a4 : Int32) (hu1 : u1 + 2 ≤ 3) (hu2 : u2 + 12 ≤ 18) (x : Hs) (r : (Int32 ⊕ Nat) × Hs) (h : gm74_12 a1 a2 a3 a4 x = some r) : Ev 74 (u1, u2) (12, [some (.ref 1), some (.int a1), some (.int a2), some (.int a3), some (.int a4)], []) (hp N x) (cvXi N r) := by
  unfold gm74_12 at h
  refine ev_run (n := 3) (u' := (u1, u2)) (f' := (15, [some (.ref 1), some (.int a1), some (.int a2), some (.int a3), some (.int a4)], [.int 3, .int 0, .int a1])) (h' := hp N x) rfl ?_
  obtain ⟨w8, h9, h⟩ := bind_ok h
  refine ev_call (v := some (.int w8)) (h1 := hp N x) rfl rfl rfl (ok_u rfl (by show u1 + 0 ≤ 3; omega) (by show u2 + 0 ≤ 18; omega)) (em99 a1 0 3 x _ h9) ?_
  show Ev 74 (u1, u2) (18, [some (.ref 1), some (.int a1), some (.int a2), some (.int a3), some (.int a4)], [.int w8]) (hp N x) _
  rcases ite_or h with ⟨h13, h⟩ | ⟨h13, h⟩
  · refine ev_ift rfl (decide_eq_true h13) ?_
    exact em74_33 a1 a2 a3 a4 (by omega) (by omega) x _ h
  · refine ev_iff rfl (decide_eq_false h13) ?_
    refine ev_run (n := 2) (u' := (u1, u2)) (f' := (23, [some (.ref 1), some (.int a1), some (.int a2), some (.int a3), some (.int a4)], [.int a3, .int a2])) (h' := hp N x) rfl ?_
    obtain ⟨w10, h11, h⟩ := bind_ok h
    refine ev_call (v := some (.int w10)) (h1 := hp N x) rfl rfl rfl (ok_u rfl (by show u1 + 0 ≤ 3; omega) (by show u2 + 0 ≤ 18; omega)) (em100 a2 a3 x _ h11) ?_
    show Ev 74 (u1, u2) (26, [some (.ref 1), some (.int a1), some (.int a2), some (.int a3), some (.int a4)], [.int w10]) (hp N x) _
    rcases ite_or h with ⟨h12, h⟩ | ⟨h12, h⟩
    · refine ev_ift rfl (decide_eq_true h12) ?_
      exact em74_33 a1 a2 a3 a4 (by omega) (by omega) x _ h
    · refine ev_iff rfl (decide_eq_false h12) ?_
      refine ev_run (n := 2) (u' := (u1, u2)) (f' := (34, [some (.ref 1), some (.int a1), some (.int a2), some (.int a3), some (.int a4)], [.int 1])) (h' := hp N x) rfl ?_
      exact em74_34 a1 a2 a3 a4 1 (by omega) (by omega) x _ h
def gm74 (a1 : Int32) (a2 : Int32) (a3 : Int32) (a4 : Int32) (x : Hs) : Option ((Int32 ⊕ Nat) × Hs) := if a4 = (-1) then (gm74_12 a1 a2 a3 a4 x) else ((gm97 a4 x).bind fun w1 => match w1 with | (.inl _, x5) => (gm74_12 a1 a2 a3 a4 x5) | (.inr k4, x5) => (cond (Nat.blt k4 3) (some (.inr k4, x5)) none))
theorem em74 {N : Nat} {u1 u2 : Nat} (a1 : Int32) (a2 : Int32) (a3 : Int32) (a4 : Int32) (hu1 : u1 + 3 ≤ 3) (hu2 : u2 + 18 ≤ 18) (x : Hs) (r : (Int32 ⊕ Nat) × Hs) (h : gm74 a1 a2 a3 a4 x = some r) : Ev 74 (u1, u2) (0, aPad [.ref 1, .int a1, .int a2, .int a3, .int a4] 5, []) (hp N x) (cvXi N r) := by
  show Ev 74 (u1, u2) (0, [some (.ref 1), some (.int a1), some (.int a2), some (.int a3), some (.int a4)], []) (hp N x) _
  unfold gm74 at h
  refine ev_run (n := 2) (u' := (u1, u2)) (f' := (3, [some (.ref 1), some (.int a1), some (.int a2), some (.int a3), some (.int a4)], [.int (-1), .int a4])) (h' := hp N x) rfl ?_
  rcases ite_or h with ⟨h7, h⟩ | ⟨h7, h⟩
  · refine ev_ict rfl (decide_eq_true h7) ?_
    exact em74_12 a1 a2 a3 a4 (by omega) (by omega) x _ h
  · refine ev_icf rfl (decide_eq_false h7) ?_
    refine ev_run (n := 2) (u' := (u1, u2)) (f' := (9, [some (.ref 1), some (.int a1), some (.int a2), some (.int a3), some (.int a4)], [.int a4, .ref 1])) (h' := hp N x) rfl ?_
    obtain ⟨w1, h2, h⟩ := bind_ok h
    obtain ⟨w1, x5⟩ := w1
    cases w1 with
    | inl v3 =>
      refine ev_call (v := none) (h1 := hp N x5) rfl rfl rfl (ok_u rfl (by show u1 + 1 ≤ 3; omega) (by show u2 + 6 ≤ 18; omega)) (em97 a4 (by decide) (by decide) x _ h2) ?_
      show Ev 74 (u1 + 1, u2 + 6) (12, [some (.ref 1), some (.int a1), some (.int a2), some (.int a3), some (.int a4)], []) (hp N x5) _
      exact em74_12 a1 a2 a3 a4 (by omega) (by omega) x5 _ h
    | inr k4 =>
      obtain ⟨h6, h⟩ := cond_some h
      cases h
      exact ev_callX (h1 := hp N x5) rfl rfl rfl (ok_u rfl (by show u1 + 1 ≤ 3; omega) (by show u2 + 6 ≤ 18; omega)) h6 rfl (em97 a4 (by decide) (by decide) x _ h2)
def gm75 (a1 : Int32) (a2 : Int32) (a3 : Int32) (x : Hs) : Option ((Int32 ⊕ Nat) × Hs) := (gm97 a1 x).bind fun w1 => match w1 with | (.inl _, x5) => ((gm100 a2 a3 x5).bind fun w6 => ((gm92 w6 x5).bind fun w8 => match w8 with | (.inl _, x12) => (cond (aIn a1 12) ((gm24 (x12.1 108 (xi a1)) a2 a3 a1 x12).bind fun w14 => ((gm93 w14 x12).bind fun w16 => match w16 with | (.inl _, x20) => (cond (aIn a1 12) (cond (aIn a1 12) (cond (aIn a1 12) (cond (aIn a1 12) (some (.inl (x20.1 110 (xi a1) - x20.1 109 (xi a1)), (wI (wI x20 109 (xi a1) a2) 110 (xi a1) a3))) none) none) none) none) | (.inr k19, x20) => (cond (Nat.blt k19 3) (some (.inr k19, x20)) none))) none) | (.inr k11, x12) => (cond (Nat.blt k11 3) (some (.inr k11, x12)) none))) | (.inr k4, x5) => (cond (Nat.blt k4 3) (some (.inr k4, x5)) none)
theorem em75 {N : Nat} {u1 u2 : Nat} (a1 : Int32) (a2 : Int32) (a3 : Int32) (hu1 : u1 + 3 ≤ 3) (hu2 : u2 + 18 ≤ 18) (x : Hs) (r : (Int32 ⊕ Nat) × Hs) (h : gm75 a1 a2 a3 x = some r) : Ev 75 (u1, u2) (0, aPad [.ref 1, .int a1, .int a2, .int a3] 5, []) (hp N x) (cvXi N r) := by
  show Ev 75 (u1, u2) (0, [some (.ref 1), some (.int a1), some (.int a2), some (.int a3), none], []) (hp N x) _
  unfold gm75 at h
  refine ev_run (n := 2) (u' := (u1, u2)) (f' := (2, [some (.ref 1), some (.int a1), some (.int a2), some (.int a3), none], [.int a1, .ref 1])) (h' := hp N x) rfl ?_
  obtain ⟨w1, h2, h⟩ := bind_ok h
  obtain ⟨w1, x5⟩ := w1
  cases w1 with
  | inl v3 =>
    refine ev_call (v := none) (h1 := hp N x5) rfl rfl rfl (ok_u rfl (by show u1 + 1 ≤ 3; omega) (by show u2 + 6 ≤ 18; omega)) (em97 a1 (by decide) (by decide) x _ h2) ?_
    show Ev 75 (u1 + 1, u2 + 6) (5, [some (.ref 1), some (.int a1), some (.int a2), some (.int a3), none], []) (hp N x5) _
    refine ev_run (n := 2) (u' := (u1 + 1, u2 + 6)) (f' := (7, [some (.ref 1), some (.int a1), some (.int a2), some (.int a3), none], [.int a3, .int a2])) (h' := hp N x5) rfl ?_
    obtain ⟨w6, h7, h⟩ := bind_ok h
    refine ev_call (v := some (.int w6)) (h1 := hp N x5) rfl rfl rfl (ok_u rfl (by show u1 + 1 + 0 ≤ 3; omega) (by show u2 + 6 + 0 ≤ 18; omega)) (em100 a2 a3 x5 _ h7) ?_
    show Ev 75 (u1 + 1, u2 + 6) (10, [some (.ref 1), some (.int a1), some (.int a2), some (.int a3), none], [.int w6]) (hp N x5) _
    obtain ⟨w8, h9, h⟩ := bind_ok h
    obtain ⟨w8, x12⟩ := w8
    cases w8 with
    | inl v10 =>
      refine ev_call (v := none) (h1 := hp N x12) rfl rfl rfl (ok_u rfl (by show u1 + 1 + 1 ≤ 3; omega) (by show u2 + 6 + 6 ≤ 18; omega)) (em92 w6 (by decide) (by decide) x5 _ h9) ?_
      show Ev 75 (u1 + 2, u2 + 12) (13, [some (.ref 1), some (.int a1), some (.int a2), some (.int a3), none], []) (hp N x12) _
      refine ev_run (n := 6) (u' := (u1 + 2, u2 + 12)) (f' := (25, [some (.ref 1), some (.int a1), some (.int a2), some (.int a3), none], [.int a1, .ref 108, .ref 107])) (h' := hp N x12) rfl ?_
      obtain ⟨h13, h⟩ := cond_some h
      refine ev_iald rfl rfl h13 ?_
      refine ev_run (n := 3) (u' := (u1 + 2, u2 + 12)) (f' := (29, [some (.ref 1), some (.int a1), some (.int a2), some (.int a3), none], [.int a1, .int a3, .int a2, .int (x12.1 108 (xi a1)), .ref 107])) (h' := hp N x12) rfl ?_
      obtain ⟨w14, h15, h⟩ := bind_ok h
      refine ev_call (v := some (.int w14)) (h1 := hp N x12) rfl rfl rfl (ok_u rfl (by show u1 + 2 + 0 ≤ 3; omega) (by show u2 + 12 + 0 ≤ 18; omega)) (em24 (x12.1 108 (xi a1)) a2 a3 a1 x12 _ h15) ?_
      show Ev 75 (u1 + 2, u2 + 12) (32, [some (.ref 1), some (.int a1), some (.int a2), some (.int a3), none], [.int w14]) (hp N x12) _
      obtain ⟨w16, h17, h⟩ := bind_ok h
      obtain ⟨w16, x20⟩ := w16
      cases w16 with
      | inl v18 =>
        refine ev_call (v := none) (h1 := hp N x20) rfl rfl rfl (ok_u rfl (by show u1 + 2 + 1 ≤ 3; omega) (by show u2 + 12 + 6 ≤ 18; omega)) (em93 w14 (by decide) (by decide) x12 _ h17) ?_
        show Ev 75 (u1 + 3, u2 + 18) (35, [some (.ref 1), some (.int a1), some (.int a2), some (.int a3), none], []) (hp N x20) _
        refine ev_run (n := 4) (u' := (u1 + 3, u2 + 18)) (f' := (43, [some (.ref 1), some (.int a1), some (.int a2), some (.int a3), none], [.int a1, .ref 110])) (h' := hp N x20) rfl ?_
        obtain ⟨h21, h⟩ := cond_some h
        refine ev_iald rfl rfl h21 ?_
        refine ev_run (n := 4) (u' := (u1 + 3, u2 + 18)) (f' := (52, [some (.ref 1), some (.int a1), some (.int a2), some (.int a3), none], [.int a1, .ref 109, .int (x20.1 110 (xi a1))])) (h' := hp N x20) rfl ?_
        obtain ⟨h22, h⟩ := cond_some h
        refine ev_iald rfl rfl h22 ?_
        refine ev_run (n := 7) (u' := (u1 + 3, u2 + 18)) (f' := (65, [some (.ref 1), some (.int a1), some (.int a2), some (.int a3), some (.int (x20.1 110 (xi a1) - x20.1 109 (xi a1)))], [.int a2, .int a1, .ref 109])) (h' := hp N x20) rfl ?_
        obtain ⟨h23, h⟩ := cond_some h
        refine ev_iast rfl rfl h23 ?_
        show Ev 75 (u1 + 3, u2 + 18) (66, [some (.ref 1), some (.int a1), some (.int a2), some (.int a3), some (.int (x20.1 110 (xi a1) - x20.1 109 (xi a1)))], []) (hp N (wI x20 109 (xi a1) a2)) _
        refine ev_run (n := 5) (u' := (u1 + 3, u2 + 18)) (f' := (75, [some (.ref 1), some (.int a1), some (.int a2), some (.int a3), some (.int (x20.1 110 (xi a1) - x20.1 109 (xi a1)))], [.int a3, .int a1, .ref 110])) (h' := hp N (wI x20 109 (xi a1) a2)) rfl ?_
        obtain ⟨h24, h⟩ := cond_some h
        refine ev_iast rfl rfl h24 ?_
        show Ev 75 (u1 + 3, u2 + 18) (76, [some (.ref 1), some (.int a1), some (.int a2), some (.int a3), some (.int (x20.1 110 (xi a1) - x20.1 109 (xi a1)))], []) (hp N (wI (wI x20 109 (xi a1) a2) 110 (xi a1) a3)) _
        refine ev_run (n := 1) (u' := (u1 + 3, u2 + 18)) (f' := (78, [some (.ref 1), some (.int a1), some (.int a2), some (.int a3), some (.int (x20.1 110 (xi a1) - x20.1 109 (xi a1)))], [.int (x20.1 110 (xi a1) - x20.1 109 (xi a1))])) (h' := hp N (wI (wI x20 109 (xi a1) a2) 110 (xi a1) a3)) rfl ?_
        cases h
        exact ev_iret rfl (end_u (by show _ ≤ 3; omega) (by show _ ≤ 18; omega)) rfl (Or.inl rfl)
      | inr k19 =>
        obtain ⟨h25, h⟩ := cond_some h
        cases h
        exact ev_callX (h1 := hp N x20) rfl rfl rfl (ok_u rfl (by show u1 + 2 + 1 ≤ 3; omega) (by show u2 + 12 + 6 ≤ 18; omega)) h25 rfl (em93 w14 (by decide) (by decide) x12 _ h17)
    | inr k11 =>
      obtain ⟨h26, h⟩ := cond_some h
      cases h
      exact ev_callX (h1 := hp N x12) rfl rfl rfl (ok_u rfl (by show u1 + 1 + 1 ≤ 3; omega) (by show u2 + 6 + 6 ≤ 18; omega)) h26 rfl (em92 w6 (by decide) (by decide) x5 _ h9)
  | inr k4 =>
    obtain ⟨h27, h⟩ := cond_some h
    cases h
    exact ev_callX (h1 := hp N x5) rfl rfl rfl (ok_u rfl (by show u1 + 1 ≤ 3; omega) (by show u2 + 6 ≤ 18; omega)) h27 rfl (em97 a1 (by decide) (by decide) x _ h2)
def gm76_30 (a1 : Int32) (s1 : Int32) (s2 : Int32) (x : Hs) : Option ((Int32 ⊕ Nat) × Hs) := cond (aIn s1 12) (cond (aBit s2) (cond (aIn a1 12) (cond (aBit ((wI x 111 (xi s1) s2).1 111 (xi a1))) (some (.inl ((wI x 111 (xi s1) s2).1 111 (xi a1)), (wI x 111 (xi s1) s2))) none) none) none) none
theorem em76_30 {N : Nat} {u1 u2 : Nat} (a1 : Int32) (s1 : Int32) (s2 : Int32) (hu1 : u1 + 0 ≤ 1) (hu2 : u2 + 0 ≤ 6) (x : Hs) (r : (Int32 ⊕ Nat) × Hs) (h : gm76_30 a1 s1 s2 x = some r) : Ev 76 (u1, u2) (30, [some (.ref 1), some (.int a1)], [.int s2, .int s1, .ref 111]) (hp N x) (cvXi N r) := by
  unfold gm76_30 at h
  obtain ⟨h9, h⟩ := cond_some h
  obtain ⟨h10, h⟩ := cond_some h
  refine ev_bast rfl rfl h9 h10 ?_
  show Ev 76 (u1, u2) (31, [some (.ref 1), some (.int a1)], []) (hp N (wI x 111 (xi s1) s2)) _
  refine ev_run (n := 4) (u' := (u1, u2)) (f' := (39, [some (.ref 1), some (.int a1)], [.int a1, .ref 111])) (h' := hp N (wI x 111 (xi s1) s2)) rfl ?_
  obtain ⟨h11, h⟩ := cond_some h
  refine ev_bald rfl rfl h11 ?_
  obtain ⟨h12, h⟩ := cond_some h
  cases h
  exact ev_iret rfl (end_u (by show _ ≤ 1; omega) (by show _ ≤ 6; omega)) rfl (Or.inr ⟨rfl, h12⟩)
def gm76 (a1 : Int32) (x : Hs) : Option ((Int32 ⊕ Nat) × Hs) := (gm97 a1 x).bind fun w1 => match w1 with | (.inl _, x5) => (cond (aIn a1 12) (if x5.1 111 (xi a1) = 0 then (gm76_30 a1 a1 1 x5) else (gm76_30 a1 a1 0 x5)) none) | (.inr k4, x5) => (cond (Nat.blt k4 3) (some (.inr k4, x5)) none)
theorem em76 {N : Nat} {u1 u2 : Nat} (a1 : Int32) (hu1 : u1 + 1 ≤ 1) (hu2 : u2 + 6 ≤ 6) (x : Hs) (r : (Int32 ⊕ Nat) × Hs) (h : gm76 a1 x = some r) : Ev 76 (u1, u2) (0, aPad [.ref 1, .int a1] 2, []) (hp N x) (cvXi N r) := by
  show Ev 76 (u1, u2) (0, [some (.ref 1), some (.int a1)], []) (hp N x) _
  unfold gm76 at h
  refine ev_run (n := 2) (u' := (u1, u2)) (f' := (2, [some (.ref 1), some (.int a1)], [.int a1, .ref 1])) (h' := hp N x) rfl ?_
  obtain ⟨w1, h2, h⟩ := bind_ok h
  obtain ⟨w1, x5⟩ := w1
  cases w1 with
  | inl v3 =>
    refine ev_call (v := none) (h1 := hp N x5) rfl rfl rfl (ok_u rfl (by show u1 + 1 ≤ 1; omega) (by show u2 + 6 ≤ 6; omega)) (em97 a1 (by decide) (by decide) x _ h2) ?_
    show Ev 76 (u1 + 1, u2 + 6) (5, [some (.ref 1), some (.int a1)], []) (hp N x5) _
    refine ev_run (n := 8) (u' := (u1 + 1, u2 + 6)) (f' := (21, [some (.ref 1), some (.int a1)], [.int a1, .ref 111, .int a1, .ref 111])) (h' := hp N x5) rfl ?_
    obtain ⟨h6, h⟩ := cond_some h
    refine ev_bald rfl rfl h6 ?_
    rcases ite_or h with ⟨h7, h⟩ | ⟨h7, h⟩
    · refine ev_iff rfl (decide_eq_false (fun w => w h7)) ?_
      refine ev_run (n := 2) (u' := (u1 + 1, u2 + 6)) (f' := (30, [some (.ref 1), some (.int a1)], [.int 1, .int a1, .ref 111])) (h' := hp N x5) rfl ?_
      exact em76_30 a1 a1 1 (by omega) (by omega) x5 _ h
    · refine ev_ift rfl (decide_eq_true h7) ?_
      refine ev_run (n := 1) (u' := (u1 + 1, u2 + 6)) (f' := (30, [some (.ref 1), some (.int a1)], [.int 0, .int a1, .ref 111])) (h' := hp N x5) rfl ?_
      exact em76_30 a1 a1 0 (by omega) (by omega) x5 _ h
  | inr k4 =>
    obtain ⟨h8, h⟩ := cond_some h
    cases h
    exact ev_callX (h1 := hp N x5) rfl rfl rfl (ok_u rfl (by show u1 + 1 ≤ 1; omega) (by show u2 + 6 ≤ 6; omega)) h8 rfl (em97 a1 (by decide) (by decide) x _ h2)
def gm77 (a1 : Int32) (a2 : Int32) (x : Hs) : Option ((Int32 ⊕ Nat) × Hs) := (gm97 a1 x).bind fun w1 => match w1 with | (.inl _, x5) => ((gm99 a2 0 999 x5).bind fun w6 => ((gm92 w6 x5).bind fun w8 => match w8 with | (.inl _, x12) => ((gm26 a2 x12).bind fun w13 => ((gm101 w13 a1 x12).bind fun w15 => (cond (aBit w15) (some (.inl w15, x12)) none))) | (.inr k11, x12) => (cond (Nat.blt k11 3) (some (.inr k11, x12)) none))) | (.inr k4, x5) => (cond (Nat.blt k4 3) (some (.inr k4, x5)) none)
theorem em77 {N : Nat} {u1 u2 : Nat} (a1 : Int32) (a2 : Int32) (hu1 : u1 + 2 ≤ 2) (hu2 : u2 + 12 ≤ 12) (x : Hs) (r : (Int32 ⊕ Nat) × Hs) (h : gm77 a1 a2 x = some r) : Ev 77 (u1, u2) (0, aPad [.ref 1, .int a1, .int a2] 3, []) (hp N x) (cvXi N r) := by
  show Ev 77 (u1, u2) (0, [some (.ref 1), some (.int a1), some (.int a2)], []) (hp N x) _
  unfold gm77 at h
  refine ev_run (n := 2) (u' := (u1, u2)) (f' := (2, [some (.ref 1), some (.int a1), some (.int a2)], [.int a1, .ref 1])) (h' := hp N x) rfl ?_
  obtain ⟨w1, h2, h⟩ := bind_ok h
  obtain ⟨w1, x5⟩ := w1
  cases w1 with
  | inl v3 =>
    refine ev_call (v := none) (h1 := hp N x5) rfl rfl rfl (ok_u rfl (by show u1 + 1 ≤ 2; omega) (by show u2 + 6 ≤ 12; omega)) (em97 a1 (by decide) (by decide) x _ h2) ?_
    show Ev 77 (u1 + 1, u2 + 6) (5, [some (.ref 1), some (.int a1), some (.int a2)], []) (hp N x5) _
    refine ev_run (n := 3) (u' := (u1 + 1, u2 + 6)) (f' := (10, [some (.ref 1), some (.int a1), some (.int a2)], [.int 999, .int 0, .int a2])) (h' := hp N x5) rfl ?_
    obtain ⟨w6, h7, h⟩ := bind_ok h
    refine ev_call (v := some (.int w6)) (h1 := hp N x5) rfl rfl rfl (ok_u rfl (by show u1 + 1 + 0 ≤ 2; omega) (by show u2 + 6 + 0 ≤ 12; omega)) (em99 a2 0 999 x5 _ h7) ?_
    show Ev 77 (u1 + 1, u2 + 6) (13, [some (.ref 1), some (.int a1), some (.int a2)], [.int w6]) (hp N x5) _
    obtain ⟨w8, h9, h⟩ := bind_ok h
    obtain ⟨w8, x12⟩ := w8
    cases w8 with
    | inl v10 =>
      refine ev_call (v := none) (h1 := hp N x12) rfl rfl rfl (ok_u rfl (by show u1 + 1 + 1 ≤ 2; omega) (by show u2 + 6 + 6 ≤ 12; omega)) (em92 w6 (by decide) (by decide) x5 _ h9) ?_
      show Ev 77 (u1 + 2, u2 + 12) (16, [some (.ref 1), some (.int a1), some (.int a2)], []) (hp N x12) _
      refine ev_run (n := 3) (u' := (u1 + 2, u2 + 12)) (f' := (21, [some (.ref 1), some (.int a1), some (.int a2)], [.int a2, .ref 107])) (h' := hp N x12) rfl ?_
      obtain ⟨w13, h14, h⟩ := bind_ok h
      refine ev_call (v := some (.int w13)) (h1 := hp N x12) rfl rfl rfl (ok_u rfl (by show u1 + 2 + 0 ≤ 2; omega) (by show u2 + 12 + 0 ≤ 12; omega)) (em26 a2 x12 _ h14) ?_
      show Ev 77 (u1 + 2, u2 + 12) (24, [some (.ref 1), some (.int a1), some (.int a2)], [.int w13]) (hp N x12) _
      refine ev_run (n := 1) (u' := (u1 + 2, u2 + 12)) (f' := (25, [some (.ref 1), some (.int a1), some (.int a2)], [.int a1, .int w13])) (h' := hp N x12) rfl ?_
      obtain ⟨w15, h16, h⟩ := bind_ok h
      refine ev_call (v := some (.int w15)) (h1 := hp N x12) rfl rfl rfl (ok_u rfl (by show u1 + 2 + 0 ≤ 2; omega) (by show u2 + 12 + 0 ≤ 12; omega)) (em101 w13 a1 x12 _ h16) ?_
      show Ev 77 (u1 + 2, u2 + 12) (28, [some (.ref 1), some (.int a1), some (.int a2)], [.int w15]) (hp N x12) _
      obtain ⟨h17, h⟩ := cond_some h
      cases h
      exact ev_iret rfl (end_u (by show _ ≤ 2; omega) (by show _ ≤ 12; omega)) rfl (Or.inr ⟨rfl, h17⟩)
    | inr k11 =>
      obtain ⟨h18, h⟩ := cond_some h
      cases h
      exact ev_callX (h1 := hp N x12) rfl rfl rfl (ok_u rfl (by show u1 + 1 + 1 ≤ 2; omega) (by show u2 + 6 + 6 ≤ 12; omega)) h18 rfl (em92 w6 (by decide) (by decide) x5 _ h9)
  | inr k4 =>
    obtain ⟨h19, h⟩ := cond_some h
    cases h
    exact ev_callX (h1 := hp N x5) rfl rfl rfl (ok_u rfl (by show u1 + 1 ≤ 2; omega) (by show u2 + 6 ≤ 12; omega)) h19 rfl (em97 a1 (by decide) (by decide) x _ h2)
def gm78_40 (a1 : Int32) (s0 : Int32) (x : Hs) : Option ((Int32 ⊕ Nat) × Hs) := (gm93 s0 x).bind fun w13 => match w13 with | (.inl _, x17) => ((gm27 a1 x17).bind fun w18 => (some (.inl w18.1, w18.2))) | (.inr k16, x17) => (cond (Nat.blt k16 3) (some (.inr k16, x17)) none)
theorem em78_40 {N : Nat} {u1 u2 : Nat} (a1 : Int32) (s0 : Int32) (hu1 : u1 + 1 ≤ 2) (hu2 : u2 + 6 ≤ 12) (x : Hs) (r : (Int32 ⊕ Nat) × Hs) (h : gm78_40 a1 s0 x = some r) : Ev 78 (u1, u2) (40, [some (.ref 1), some (.int a1)], [.int s0]) (hp N x) (cvXi N r) := by
  unfold gm78_40 at h
  obtain ⟨w13, h14, h⟩ := bind_ok h
  obtain ⟨w13, x17⟩ := w13
  cases w13 with
  | inl v15 =>
    refine ev_call (v := none) (h1 := hp N x17) rfl rfl rfl (ok_u rfl (by show u1 + 1 ≤ 2; omega) (by show u2 + 6 ≤ 12; omega)) (em93 s0 (by decide) (by decide) x _ h14) ?_
    show Ev 78 (u1 + 1, u2 + 6) (43, [some (.ref 1), some (.int a1)], []) (hp N x17) _
    refine ev_run (n := 3) (u' := (u1 + 1, u2 + 6)) (f' := (48, [some (.ref 1), some (.int a1)], [.int a1, .ref 107])) (h' := hp N x17) rfl ?_
    obtain ⟨w18, h19, h⟩ := bind_ok h
    refine ev_call (v := some (.int w18.1)) (h1 := hp N w18.2) rfl rfl rfl (ok_u rfl (by show u1 + 1 + 0 ≤ 2; omega) (by show u2 + 6 + 0 ≤ 12; omega)) (em27 a1 x17 _ h19) ?_
    show Ev 78 (u1 + 1, u2 + 6) (51, [some (.ref 1), some (.int a1)], [.int w18.1]) (hp N w18.2) _
    cases h
    exact ev_iret rfl (end_u (by show _ ≤ 2; omega) (by show _ ≤ 12; omega)) rfl (Or.inl rfl)
  | inr k16 =>
    obtain ⟨h20, h⟩ := cond_some h
    cases h
    exact ev_callX (h1 := hp N x17) rfl rfl rfl (ok_u rfl (by show u1 + 1 ≤ 2; omega) (by show u2 + 6 ≤ 12; omega)) h20 rfl (em93 s0 (by decide) (by decide) x _ h14)
def gm78_35 (a1 : Int32) (x : Hs) : Option ((Int32 ⊕ Nat) × Hs) := gm78_40 a1 1 x
theorem em78_35 {N : Nat} {u1 u2 : Nat} (a1 : Int32) (hu1 : u1 + 1 ≤ 2) (hu2 : u2 + 6 ≤ 12) (x : Hs) (r : (Int32 ⊕ Nat) × Hs) (h : gm78_35 a1 x = some r) : Ev 78 (u1, u2) (35, [some (.ref 1), some (.int a1)], []) (hp N x) (cvXi N r) := by
  unfold gm78_35 at h
  refine ev_run (n := 2) (u' := (u1, u2)) (f' := (40, [some (.ref 1), some (.int a1)], [.int 1])) (h' := hp N x) rfl ?_
  exact em78_40 a1 1 (by omega) (by omega) x _ h
def gm78 (a1 : Int32) (x : Hs) : Option ((Int32 ⊕ Nat) × Hs) := (gm99 a1 0 999 x).bind fun w1 => ((gm92 w1 x).bind fun w3 => match w3 with | (.inl _, x7) => (if x7.1 107 1 < 30 then (gm78_35 a1 x7) else ((gm25 a1 x7).bind fun w8 => (if w8 = (-1) then (gm78_40 a1 0 x7) else (gm78_35 a1 x7)))) | (.inr k6, x7) => (cond (Nat.blt k6 3) (some (.inr k6, x7)) none))
theorem em78 {N : Nat} {u1 u2 : Nat} (a1 : Int32) (hu1 : u1 + 2 ≤ 2) (hu2 : u2 + 12 ≤ 12) (x : Hs) (r : (Int32 ⊕ Nat) × Hs) (h : gm78 a1 x = some r) : Ev 78 (u1, u2) (0, aPad [.ref 1, .int a1] 2, []) (hp N x) (cvXi N r) := by
  show Ev 78 (u1, u2) (0, [some (.ref 1), some (.int a1)], []) (hp N x) _
  unfold gm78 at h
  refine ev_run (n := 3) (u' := (u1, u2)) (f' := (5, [some (.ref 1), some (.int a1)], [.int 999, .int 0, .int a1])) (h' := hp N x) rfl ?_
  obtain ⟨w1, h2, h⟩ := bind_ok h
  refine ev_call (v := some (.int w1)) (h1 := hp N x) rfl rfl rfl (ok_u rfl (by show u1 + 0 ≤ 2; omega) (by show u2 + 0 ≤ 12; omega)) (em99 a1 0 999 x _ h2) ?_
  show Ev 78 (u1, u2) (8, [some (.ref 1), some (.int a1)], [.int w1]) (hp N x) _
  obtain ⟨w3, h4, h⟩ := bind_ok h
  obtain ⟨w3, x7⟩ := w3
  cases w3 with
  | inl v5 =>
    refine ev_call (v := none) (h1 := hp N x7) rfl rfl rfl (ok_u rfl (by show u1 + 1 ≤ 2; omega) (by show u2 + 6 ≤ 12; omega)) (em92 w1 (by decide) (by decide) x _ h4) ?_
    show Ev 78 (u1 + 1, u2 + 6) (11, [some (.ref 1), some (.int a1)], []) (hp N x7) _
    refine ev_run (n := 4) (u' := (u1 + 1, u2 + 6)) (f' := (20, [some (.ref 1), some (.int a1)], [.int 30, .int (x7.1 107 1)])) (h' := hp N x7) rfl ?_
    rcases ite_or h with ⟨h11, h⟩ | ⟨h11, h⟩
    · refine ev_ict rfl (decide_eq_true h11) ?_
      exact em78_35 a1 (by omega) (by omega) x7 _ h
    · refine ev_icf rfl (decide_eq_false h11) ?_
      refine ev_run (n := 3) (u' := (u1 + 1, u2 + 6)) (f' := (28, [some (.ref 1), some (.int a1)], [.int a1, .ref 107])) (h' := hp N x7) rfl ?_
      obtain ⟨w8, h9, h⟩ := bind_ok h
      refine ev_call (v := some (.int w8)) (h1 := hp N x7) rfl rfl rfl (ok_u rfl (by show u1 + 1 + 0 ≤ 2; omega) (by show u2 + 6 + 0 ≤ 12; omega)) (em25 a1 x7 _ h9) ?_
      show Ev 78 (u1 + 1, u2 + 6) (31, [some (.ref 1), some (.int a1)], [.int w8]) (hp N x7) _
      refine ev_run (n := 1) (u' := (u1 + 1, u2 + 6)) (f' := (32, [some (.ref 1), some (.int a1)], [.int (-1), .int w8])) (h' := hp N x7) rfl ?_
      rcases ite_or h with ⟨h10, h⟩ | ⟨h10, h⟩
      · refine ev_ict rfl (decide_eq_true h10) ?_
        refine ev_run (n := 1) (u' := (u1 + 1, u2 + 6)) (f' := (40, [some (.ref 1), some (.int a1)], [.int 0])) (h' := hp N x7) rfl ?_
        exact em78_40 a1 0 (by omega) (by omega) x7 _ h
      · refine ev_icf rfl (decide_eq_false h10) ?_
        exact em78_35 a1 (by omega) (by omega) x7 _ h
  | inr k6 =>
    obtain ⟨h12, h⟩ := cond_some h
    cases h
    exact ev_callX (h1 := hp N x7) rfl rfl rfl (ok_u rfl (by show u1 + 1 ≤ 2; omega) (by show u2 + 6 ≤ 12; omega)) h12 rfl (em92 w1 (by decide) (by decide) x _ h4)
def gm79_16 (s0 : Int32) (x : Hs) : Option ((Int32 ⊕ Nat) × Hs) := (gm93 s0 x).bind fun w2 => match w2 with | (.inl _, x6) => (some (.inl ((wI x6 115 0 (x6.1 115 0 + 1)).1 115 0), (wI x6 115 0 (x6.1 115 0 + 1)))) | (.inr k5, x6) => (cond (Nat.blt k5 3) (some (.inr k5, x6)) none)
theorem em79_16 {N : Nat} {u1 u2 : Nat} (s0 : Int32) (hu1 : u1 + 1 ≤ 1) (hu2 : u2 + 6 ≤ 6) (x : Hs) (r : (Int32 ⊕ Nat) × Hs) (h : gm79_16 s0 x = some r) : Ev 79 (u1, u2) (16, [some (.ref 1)], [.int s0]) (hp N x) (cvXi N r) := by
  unfold gm79_16 at h
  obtain ⟨w2, h3, h⟩ := bind_ok h
  obtain ⟨w2, x6⟩ := w2
  cases w2 with
  | inl v4 =>
    refine ev_call (v := none) (h1 := hp N x6) rfl rfl rfl (ok_u rfl (by show u1 + 1 ≤ 1; omega) (by show u2 + 6 ≤ 6; omega)) (em93 s0 (by decide) (by decide) x _ h3) ?_
    show Ev 79 (u1 + 1, u2 + 6) (19, [some (.ref 1)], []) (hp N x6) _
    refine ev_run (n := 10) (u' := (u1 + 1, u2 + 6)) (f' := (39, [some (.ref 1)], [.int ((wI x6 115 0 (x6.1 115 0 + 1)).1 115 0)])) (h' := hp N (wI x6 115 0 (x6.1 115 0 + 1))) rfl ?_
    cases h
    exact ev_iret rfl (end_u (by show _ ≤ 1; omega) (by show _ ≤ 6; omega)) rfl (Or.inl rfl)
  | inr k5 =>
    obtain ⟨h7, h⟩ := cond_some h
    cases h
    exact ev_callX (h1 := hp N x6) rfl rfl rfl (ok_u rfl (by show u1 + 1 ≤ 1; omega) (by show u2 + 6 ≤ 6; omega)) h7 rfl (em93 s0 (by decide) (by decide) x _ h3)
def gm79 (x : Hs) : Option ((Int32 ⊕ Nat) × Hs) := if x.1 115 0 ≥ 5 then (gm79_16 0 x) else (gm79_16 1 x)
theorem em79 {N : Nat} {u1 u2 : Nat} (hu1 : u1 + 1 ≤ 1) (hu2 : u2 + 6 ≤ 6) (x : Hs) (r : (Int32 ⊕ Nat) × Hs) (h : gm79 x = some r) : Ev 79 (u1, u2) (0, aPad [.ref 1] 1, []) (hp N x) (cvXi N r) := by
  show Ev 79 (u1, u2) (0, [some (.ref 1)], []) (hp N x) _
  unfold gm79 at h
  refine ev_run (n := 4) (u' := (u1, u2)) (f' := (8, [some (.ref 1)], [.int 5, .int (x.1 115 0)])) (h' := hp N x) rfl ?_
  rcases ite_or h with ⟨h1, h⟩ | ⟨h1, h⟩
  · refine ev_ict rfl (decide_eq_true h1) ?_
    refine ev_run (n := 1) (u' := (u1, u2)) (f' := (16, [some (.ref 1)], [.int 0])) (h' := hp N x) rfl ?_
    exact em79_16 0 (by omega) (by omega) x _ h
  · refine ev_icf rfl (decide_eq_false h1) ?_
    refine ev_run (n := 2) (u' := (u1, u2)) (f' := (16, [some (.ref 1)], [.int 1])) (h' := hp N x) rfl ?_
    exact em79_16 1 (by omega) (by omega) x _ h
def gm80 (a1 : Int32) (a2 : Int32) (x : Hs) : Option ((Int32 ⊕ Nat) × Hs) := (gm91 a2 (x.1 115 0) x).bind fun w1 => match w1 with | (.inl _, x5) => ((gm99 a1 0 20 x5).bind fun w6 => ((gm92 w6 x5).bind fun w8 => match w8 with | (.inl _, x12) => ((gm17 a1 x12).bind fun w13 => (cond (aIn a1 21) (some (.inl w13, (wI x12 116 (xi a1) a2))) none)) | (.inr k11, x12) => (cond (Nat.blt k11 3) (some (.inr k11, x12)) none))) | (.inr k4, x5) => (cond (Nat.blt k4 3) (some (.inr k4, x5)) none)
theorem em80 {N : Nat} {u1 u2 : Nat} (a1 : Int32) (a2 : Int32) (hu1 : u1 + 2 ≤ 2) (hu2 : u2 + 12 ≤ 12) (x : Hs) (r : (Int32 ⊕ Nat) × Hs) (h : gm80 a1 a2 x = some r) : Ev 80 (u1, u2) (0, aPad [.ref 1, .int a1, .int a2] 4, []) (hp N x) (cvXi N r) := by
  show Ev 80 (u1, u2) (0, [some (.ref 1), some (.int a1), some (.int a2), none], []) (hp N x) _
  unfold gm80 at h
  refine ev_run (n := 4) (u' := (u1, u2)) (f' := (8, [some (.ref 1), some (.int a1), some (.int a2), none], [.int (x.1 115 0), .int a2])) (h' := hp N x) rfl ?_
  obtain ⟨w1, h2, h⟩ := bind_ok h
  obtain ⟨w1, x5⟩ := w1
  cases w1 with
  | inl v3 =>
    refine ev_call (v := none) (h1 := hp N x5) rfl rfl rfl (ok_u rfl (by show u1 + 1 ≤ 2; omega) (by show u2 + 6 ≤ 12; omega)) (em91 a2 (x.1 115 0) (by decide) (by decide) x _ h2) ?_
    show Ev 80 (u1 + 1, u2 + 6) (11, [some (.ref 1), some (.int a1), some (.int a2), none], []) (hp N x5) _
    refine ev_run (n := 3) (u' := (u1 + 1, u2 + 6)) (f' := (15, [some (.ref 1), some (.int a1), some (.int a2), none], [.int 20, .int 0, .int a1])) (h' := hp N x5) rfl ?_
    obtain ⟨w6, h7, h⟩ := bind_ok h
    refine ev_call (v := some (.int w6)) (h1 := hp N x5) rfl rfl rfl (ok_u rfl (by show u1 + 1 + 0 ≤ 2; omega) (by show u2 + 6 + 0 ≤ 12; omega)) (em99 a1 0 20 x5 _ h7) ?_
    show Ev 80 (u1 + 1, u2 + 6) (18, [some (.ref 1), some (.int a1), some (.int a2), none], [.int w6]) (hp N x5) _
    obtain ⟨w8, h9, h⟩ := bind_ok h
    obtain ⟨w8, x12⟩ := w8
    cases w8 with
    | inl v10 =>
      refine ev_call (v := none) (h1 := hp N x12) rfl rfl rfl (ok_u rfl (by show u1 + 1 + 1 ≤ 2; omega) (by show u2 + 6 + 6 ≤ 12; omega)) (em92 w6 (by decide) (by decide) x5 _ h9) ?_
      show Ev 80 (u1 + 2, u2 + 12) (21, [some (.ref 1), some (.int a1), some (.int a2), none], []) (hp N x12) _
      refine ev_run (n := 3) (u' := (u1 + 2, u2 + 12)) (f' := (26, [some (.ref 1), some (.int a1), some (.int a2), none], [.int a1, .ref 115])) (h' := hp N x12) rfl ?_
      obtain ⟨w13, h14, h⟩ := bind_ok h
      refine ev_call (v := some (.int w13)) (h1 := hp N x12) rfl rfl rfl (ok_u rfl (by show u1 + 2 + 0 ≤ 2; omega) (by show u2 + 12 + 0 ≤ 12; omega)) (em17 a1 x12 _ h14) ?_
      show Ev 80 (u1 + 2, u2 + 12) (29, [some (.ref 1), some (.int a1), some (.int a2), none], [.int w13]) (hp N x12) _
      refine ev_run (n := 6) (u' := (u1 + 2, u2 + 12)) (f' := (39, [some (.ref 1), some (.int a1), some (.int a2), some (.int w13)], [.int a2, .int a1, .ref 116])) (h' := hp N x12) rfl ?_
      obtain ⟨h15, h⟩ := cond_some h
      refine ev_iast rfl rfl h15 ?_
      show Ev 80 (u1 + 2, u2 + 12) (40, [some (.ref 1), some (.int a1), some (.int a2), some (.int w13)], []) (hp N (wI x12 116 (xi a1) a2)) _
      refine ev_run (n := 1) (u' := (u1 + 2, u2 + 12)) (f' := (41, [some (.ref 1), some (.int a1), some (.int a2), some (.int w13)], [.int w13])) (h' := hp N (wI x12 116 (xi a1) a2)) rfl ?_
      cases h
      exact ev_iret rfl (end_u (by show _ ≤ 2; omega) (by show _ ≤ 12; omega)) rfl (Or.inl rfl)
    | inr k11 =>
      obtain ⟨h16, h⟩ := cond_some h
      cases h
      exact ev_callX (h1 := hp N x12) rfl rfl rfl (ok_u rfl (by show u1 + 1 + 1 ≤ 2; omega) (by show u2 + 6 + 6 ≤ 12; omega)) h16 rfl (em92 w6 (by decide) (by decide) x5 _ h9)
  | inr k4 =>
    obtain ⟨h17, h⟩ := cond_some h
    cases h
    exact ev_callX (h1 := hp N x5) rfl rfl rfl (ok_u rfl (by show u1 + 1 ≤ 2; omega) (by show u2 + 6 ≤ 12; omega)) h17 rfl (em91 a2 (x.1 115 0) (by decide) (by decide) x _ h2)
def gm81_45 (a1 : Int32) (a2 : Int32) (s0 : Int32) (x : Hs) : Option ((Int32 ⊕ Nat) × Hs) := (gm93 s0 x).bind fun w22 => match w22 with | (.inl _, x26) => ((gm19 a1 a2 (x26.1 1 8) x26).bind fun w27 => (some (.inl w27.1, w27.2))) | (.inr k25, x26) => (cond (Nat.blt k25 3) (some (.inr k25, x26)) none)
theorem em81_45 {N : Nat} {u1 u2 : Nat} (a1 : Int32) (a2 : Int32) (s0 : Int32) (hu1 : u1 + 1 ≤ 3) (hu2 : u2 + 6 ≤ 18) (x : Hs) (r : (Int32 ⊕ Nat) × Hs) (h : gm81_45 a1 a2 s0 x = some r) : Ev 81 (u1, u2) (45, [some (.ref 1), some (.int a1), some (.int a2), none], [.int s0]) (hp N x) (cvXi N r) := by
  unfold gm81_45 at h
  obtain ⟨w22, h23, h⟩ := bind_ok h
  obtain ⟨w22, x26⟩ := w22
  cases w22 with
  | inl v24 =>
    refine ev_call (v := none) (h1 := hp N x26) rfl rfl rfl (ok_u rfl (by show u1 + 1 ≤ 3; omega) (by show u2 + 6 ≤ 18; omega)) (em93 s0 (by decide) (by decide) x _ h23) ?_
    show Ev 81 (u1 + 1, u2 + 6) (48, [some (.ref 1), some (.int a1), some (.int a2), none], []) (hp N x26) _
    refine ev_run (n := 6) (u' := (u1 + 1, u2 + 6)) (f' := (58, [some (.ref 1), some (.int a1), some (.int a2), none], [.int (x26.1 1 8), .int a2, .int a1, .ref 115])) (h' := hp N x26) rfl ?_
    obtain ⟨w27, h28, h⟩ := bind_ok h
    refine ev_call (v := some (.int w27.1)) (h1 := hp N w27.2) rfl rfl rfl (ok_u rfl (by show u1 + 1 + 0 ≤ 3; omega) (by show u2 + 6 + 0 ≤ 18; omega)) (em19 a1 a2 (x26.1 1 8) x26 _ h28) ?_
    show Ev 81 (u1 + 1, u2 + 6) (61, [some (.ref 1), some (.int a1), some (.int a2), none], [.int w27.1]) (hp N w27.2) _
    cases h
    exact ev_iret rfl (end_u (by show _ ≤ 3; omega) (by show _ ≤ 18; omega)) rfl (Or.inl rfl)
  | inr k25 =>
    obtain ⟨h29, h⟩ := cond_some h
    cases h
    exact ev_callX (h1 := hp N x26) rfl rfl rfl (ok_u rfl (by show u1 + 1 ≤ 3; omega) (by show u2 + 6 ≤ 18; omega)) h29 rfl (em93 s0 (by decide) (by decide) x _ h23)
def gm81 (a1 : Int32) (a2 : Int32) (x : Hs) : Option ((Int32 ⊕ Nat) × Hs) := (gm94 a1 x).bind fun w1 => match w1 with | (.inl _, x5) => ((gm99 a2 0 3 x5).bind fun w6 => ((gm92 w6 x5).bind fun w8 => match w8 with | (.inl _, x12) => ((gm18 a1 x12).bind fun w13 => (if w13 = (-1) then (if x12.1 115 1 ≥ 12 then (gm81_45 a1 a2 0 x12) else (gm81_45 a1 a2 1 x12)) else (cond (aIn w13 12) ((gm34 (118 + xi w13) a2 x12).bind fun w16 => (some (.inl w13, w16))) none))) | (.inr k11, x12) => (cond (Nat.blt k11 3) (some (.inr k11, x12)) none))) | (.inr k4, x5) => (cond (Nat.blt k4 3) (some (.inr k4, x5)) none)
theorem em81 {N : Nat} {u1 u2 : Nat} (a1 : Int32) (a2 : Int32) (hu1 : u1 + 3 ≤ 3) (hu2 : u2 + 18 ≤ 18) (x : Hs) (r : (Int32 ⊕ Nat) × Hs) (h : gm81 a1 a2 x = some r) : Ev 81 (u1, u2) (0, aPad [.ref 1, .int a1, .int a2] 4, []) (hp N x) (cvXi N r) := by
  show Ev 81 (u1, u2) (0, [some (.ref 1), some (.int a1), some (.int a2), none], []) (hp N x) _
  unfold gm81 at h
  refine ev_run (n := 2) (u' := (u1, u2)) (f' := (2, [some (.ref 1), some (.int a1), some (.int a2), none], [.int a1, .ref 1])) (h' := hp N x) rfl ?_
  obtain ⟨w1, h2, h⟩ := bind_ok h
  obtain ⟨w1, x5⟩ := w1
  cases w1 with
  | inl v3 =>
    refine ev_call (v := none) (h1 := hp N x5) rfl rfl rfl (ok_u rfl (by show u1 + 1 ≤ 3; omega) (by show u2 + 6 ≤ 18; omega)) (em94 a1 (by decide) (by decide) x _ h2) ?_
    show Ev 81 (u1 + 1, u2 + 6) (5, [some (.ref 1), some (.int a1), some (.int a2), none], []) (hp N x5) _
    refine ev_run (n := 3) (u' := (u1 + 1, u2 + 6)) (f' := (8, [some (.ref 1), some (.int a1), some (.int a2), none], [.int 3, .int 0, .int a2])) (h' := hp N x5) rfl ?_
    obtain ⟨w6, h7, h⟩ := bind_ok h
    refine ev_call (v := some (.int w6)) (h1 := hp N x5) rfl rfl rfl (ok_u rfl (by show u1 + 1 + 0 ≤ 3; omega) (by show u2 + 6 + 0 ≤ 18; omega)) (em99 a2 0 3 x5 _ h7) ?_
    show Ev 81 (u1 + 1, u2 + 6) (11, [some (.ref 1), some (.int a1), some (.int a2), none], [.int w6]) (hp N x5) _
    obtain ⟨w8, h9, h⟩ := bind_ok h
    obtain ⟨w8, x12⟩ := w8
    cases w8 with
    | inl v10 =>
      refine ev_call (v := none) (h1 := hp N x12) rfl rfl rfl (ok_u rfl (by show u1 + 1 + 1 ≤ 3; omega) (by show u2 + 6 + 6 ≤ 18; omega)) (em92 w6 (by decide) (by decide) x5 _ h9) ?_
      show Ev 81 (u1 + 2, u2 + 12) (14, [some (.ref 1), some (.int a1), some (.int a2), none], []) (hp N x12) _
      refine ev_run (n := 3) (u' := (u1 + 2, u2 + 12)) (f' := (19, [some (.ref 1), some (.int a1), some (.int a2), none], [.int a1, .ref 115])) (h' := hp N x12) rfl ?_
      obtain ⟨w13, h14, h⟩ := bind_ok h
      refine ev_call (v := some (.int w13)) (h1 := hp N x12) rfl rfl rfl (ok_u rfl (by show u1 + 2 + 0 ≤ 3; omega) (by show u2 + 12 + 0 ≤ 18; omega)) (em18 a1 x12 _ h14) ?_
      show Ev 81 (u1 + 2, u2 + 12) (22, [some (.ref 1), some (.int a1), some (.int a2), none], [.int w13]) (hp N x12) _
      refine ev_run (n := 3) (u' := (u1 + 2, u2 + 12)) (f' := (25, [some (.ref 1), some (.int a1), some (.int a2), some (.int w13)], [.int (-1), .int w13])) (h' := hp N x12) rfl ?_
      rcases ite_or h with ⟨h19, h⟩ | ⟨h19, h⟩
      · refine ev_icf rfl (decide_eq_false (fun w => w h19)) ?_
        refine ev_run (n := 4) (u' := (u1 + 2, u2 + 12)) (f' := (37, [some (.ref 1), some (.int a1), some (.int a2), some (.int w13)], [.int 12, .int (x12.1 115 1)])) (h' := hp N x12) rfl ?_
        rcases ite_or h with ⟨h18, h⟩ | ⟨h18, h⟩
        · refine ev_ict rfl (decide_eq_true h18) ?_
          refine ev_run (n := 1) (u' := (u1 + 2, u2 + 12)) (f' := (45, [some (.ref 1), some (.int a1), some (.int a2), none], [.int 0])) (h' := hp N x12) rfl ?_
          exact em81_45 a1 a2 0 (by omega) (by omega) x12 _ h
        · refine ev_icf rfl (decide_eq_false h18) ?_
          refine ev_run (n := 2) (u' := (u1 + 2, u2 + 12)) (f' := (45, [some (.ref 1), some (.int a1), some (.int a2), none], [.int 1])) (h' := hp N x12) rfl ?_
          exact em81_45 a1 a2 1 (by omega) (by omega) x12 _ h
      · refine ev_ict rfl (decide_eq_true h19) ?_
        refine ev_run (n := 4) (u' := (u1 + 2, u2 + 12)) (f' := (70, [some (.ref 1), none, some (.int a2), some (.int w13)], [.int w13, .ref 117])) (h' := hp N x12) rfl ?_
        obtain ⟨h15, h⟩ := cond_some h
        refine ev_aald rfl rfl h15 (rf_117 h15) ?_
        refine ev_run (n := 1) (u' := (u1 + 2, u2 + 12)) (f' := (72, [some (.ref 1), none, some (.int a2), some (.int w13)], [.int a2, .ref (118 + xi w13)])) (h' := hp N x12) rfl ?_
        obtain ⟨w16, h17, h⟩ := bind_ok h
        refine ev_call (v := none) (h1 := hp N w16) rfl rfl rfl (ok_q (q0 := 118) (h0 := hp N (x0 (fun _ => 0))) (IN_lt N _ (lt_of_aIn h15)) (ok_u rfl (by show u1 + 2 + 0 ≤ 3; omega) (by show u2 + 12 + 0 ≤ 18; omega))) (em34 (118 + xi w13) a2 (IN_lt N _ (lt_of_aIn h15)) x12 _ h17) ?_
        show Ev 81 (u1 + 2, u2 + 12) (75, [some (.ref 1), none, some (.int a2), some (.int w13)], []) (hp N w16) _
        refine ev_run (n := 1) (u' := (u1 + 2, u2 + 12)) (f' := (76, [some (.ref 1), none, some (.int a2), some (.int w13)], [.int w13])) (h' := hp N w16) rfl ?_
        cases h
        exact ev_iret rfl (end_u (by show _ ≤ 3; omega) (by show _ ≤ 18; omega)) rfl (Or.inl rfl)
    | inr k11 =>
      obtain ⟨h20, h⟩ := cond_some h
      cases h
      exact ev_callX (h1 := hp N x12) rfl rfl rfl (ok_u rfl (by show u1 + 1 + 1 ≤ 3; omega) (by show u2 + 6 + 6 ≤ 18; omega)) h20 rfl (em92 w6 (by decide) (by decide) x5 _ h9)
  | inr k4 =>
    obtain ⟨h21, h⟩ := cond_some h
    cases h
    exact ev_callX (h1 := hp N x5) rfl rfl rfl (ok_u rfl (by show u1 + 1 ≤ 3; omega) (by show u2 + 6 ≤ 18; omega)) h21 rfl (em94 a1 (by decide) (by decide) x _ h2)
def gm98 (a1 : Int32) (x : Hs) : Option ((Unit ⊕ Nat) × Hs) := (gm91 a1 (x.1 115 1) x).bind fun w1 => match w1 with | (.inl _, x5) => (some (.inl (), x5)) | (.inr k4, x5) => (cond (Nat.blt k4 3) (some (.inr k4, x5)) none)
theorem em98 {N : Nat} {u1 u2 : Nat} (a1 : Int32) (hu1 : u1 + 1 ≤ 1) (hu2 : u2 + 6 ≤ 6) (x : Hs) (r : (Unit ⊕ Nat) × Hs) (h : gm98 a1 x = some r) : Ev 98 (u1, u2) (0, aPad [.ref 1, .int a1] 2, []) (hp N x) (cvXv N r) := by
  show Ev 98 (u1, u2) (0, [some (.ref 1), some (.int a1)], []) (hp N x) _
  unfold gm98 at h
  refine ev_run (n := 4) (u' := (u1, u2)) (f' := (8, [some (.ref 1), some (.int a1)], [.int (x.1 115 1), .int a1])) (h' := hp N x) rfl ?_
  obtain ⟨w1, h2, h⟩ := bind_ok h
  obtain ⟨w1, x5⟩ := w1
  cases w1 with
  | inl v3 =>
    refine ev_call (v := none) (h1 := hp N x5) rfl rfl rfl (ok_u rfl (by show u1 + 1 ≤ 1; omega) (by show u2 + 6 ≤ 6; omega)) (em91 a1 (x.1 115 1) (by decide) (by decide) x _ h2) ?_
    show Ev 98 (u1 + 1, u2 + 6) (11, [some (.ref 1), some (.int a1)], []) (hp N x5) _
    cases h
    exact ev_vret rfl (end_u (by show _ ≤ 1; omega) (by show _ ≤ 6; omega)) rfl
  | inr k4 =>
    obtain ⟨h6, h⟩ := cond_some h
    cases h
    exact ev_callX (h1 := hp N x5) rfl rfl rfl (ok_u rfl (by show u1 + 1 ≤ 1; omega) (by show u2 + 6 ≤ 6; omega)) h6 rfl (em91 a1 (x.1 115 1) (by decide) (by decide) x _ h2)
def gm82_57 (a2 : Int32) (a3 : Nat) (s0 : Int32) (x : Hs) : Option ((Int32 ⊕ Nat) × Hs) := (gm93 s0 x).bind fun w19 => match w19 with | (.inl _, x23) => ((gm179 ((wI x23 a3 5 a2).1 a3 4) (wI x23 a3 5 a2)).bind fun w24 => (some (.inl w24, (wI x23 a3 5 a2)))) | (.inr k22, x23) => (cond (Nat.blt k22 3) (some (.inr k22, x23)) none)
theorem em82_57 {N : Nat} {u1 u2 : Nat} (a2 : Int32) (a3 : Nat) (s0 : Int32) (fa3 : IN N a3) (hu1 : u1 + 1 ≤ 3) (hu2 : u2 + 6 ≤ 18) (x : Hs) (r : (Int32 ⊕ Nat) × Hs) (h : gm82_57 a2 a3 s0 x = some r) : Ev 82 (u1, u2) (57, [none, none, some (.int a2), some (.ref a3)], [.int s0]) (hp N x) (cvXi N r) := by
  unfold gm82_57 at h
  obtain ⟨w19, h20, h⟩ := bind_ok h
  obtain ⟨w19, x23⟩ := w19
  cases w19 with
  | inl v21 =>
    refine ev_call (v := none) (h1 := hp N x23) rfl rfl rfl (ok_u rfl (by show u1 + 1 ≤ 3; omega) (by show u2 + 6 ≤ 18; omega)) (em93 s0 (by decide) (by decide) x _ h20) ?_
    show Ev 82 (u1 + 1, u2 + 6) (60, [none, none, some (.int a2), some (.ref a3)], []) (hp N x23) _
    refine ev_run (n := 2) (u' := (u1 + 1, u2 + 6)) (f' := (62, [none, none, some (.int a2), some (.ref a3)], [.int a2, .ref a3])) (h' := hp N x23) rfl ?_
    refine ev_pfi rfl fa3 rfl ?_
    show Ev 82 (u1 + 1, u2 + 6) (65, [none, none, some (.int a2), some (.ref a3)], []) (hp N (wI x23 a3 5 a2)) _
    refine ev_run (n := 1) (u' := (u1 + 1, u2 + 6)) (f' := (66, [none, none, some (.int a2), some (.ref a3)], [.ref a3])) (h' := hp N (wI x23 a3 5 a2)) rfl ?_
    refine ev_gfi rfl rfl fa3 ?_
    obtain ⟨w24, h25, h⟩ := bind_ok h
    refine ev_call (v := some (.int w24)) (h1 := hp N (wI x23 a3 5 a2)) rfl rfl rfl (ok_u rfl (by show u1 + 1 + 0 ≤ 3; omega) (by show u2 + 6 + 0 ≤ 18; omega)) (em179 ((wI x23 a3 5 a2).1 a3 4) (wI x23 a3 5 a2) _ h25) ?_
    show Ev 82 (u1 + 1, u2 + 6) (72, [none, none, some (.int a2), some (.ref a3)], [.int w24]) (hp N (wI x23 a3 5 a2)) _
    cases h
    exact ev_iret rfl (end_u (by show _ ≤ 3; omega) (by show _ ≤ 18; omega)) rfl (Or.inl rfl)
  | inr k22 =>
    obtain ⟨h26, h⟩ := cond_some h
    cases h
    exact ev_callX (h1 := hp N x23) rfl rfl rfl (ok_u rfl (by show u1 + 1 ≤ 3; omega) (by show u2 + 6 ≤ 18; omega)) h26 rfl (em93 s0 (by decide) (by decide) x _ h20)
