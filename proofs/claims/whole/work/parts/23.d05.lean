/-! The methods as functions; printed by dec.py -/
def gm82_56 (a2 : Int32) (a3 : Nat) (x : Hs) : Option ((Int32 ⊕ Nat) × Hs) := gm82_57 a2 a3 0 x
theorem em82_56 {N : Nat} {u1 u2 : Nat} (a2 : Int32) (a3 : Nat) (fa3 : IN N a3) (hu1 : u1 + 1 ≤ 3) (hu2 : u2 + 6 ≤ 18) (x : Hs) (r : (Int32 ⊕ Nat) × Hs) (h : gm82_56 a2 a3 x = some r) : Ev 82 (u1, u2) (56, [none, none, some (.int a2), some (.ref a3)], []) (hp N x) (cvXi N r) := by
  unfold gm82_56 at h
  refine ev_run (n := 1) (u' := (u1, u2)) (f' := (57, [none, none, some (.int a2), some (.ref a3)], [.int 0])) (h' := hp N x) rfl ?_
  exact em82_57 a2 a3 0 fa3 (by omega) (by omega) x _ h
def gm82 (a1 : Int32) (a2 : Int32) (x : Hs) : Option ((Int32 ⊕ Nat) × Hs) := (gm98 a1 x).bind fun w1 => match w1 with | (.inl _, x5) => ((gm91 a2 (x5.1 115 0) x5).bind fun w6 => match w6 with | (.inl _, x10) => (cond (aIn a1 12) (if x10.1 (118 + xi a1) 5 = (-1) then (if x10.1 (118 + xi a1) 6 = 0 then ((gm101 (x10.1 (118 + xi a1) 4) a2 x10).bind fun w12 => (if w12 = 0 then (gm82_56 a2 (118 + xi a1) x10) else (gm82_57 a2 (118 + xi a1) 1 x10))) else (gm82_56 a2 (118 + xi a1) x10)) else (gm82_56 a2 (118 + xi a1) x10)) none) | (.inr k9, x10) => (cond (Nat.blt k9 3) (some (.inr k9, x10)) none)) | (.inr k4, x5) => (cond (Nat.blt k4 3) (some (.inr k4, x5)) none)
theorem em82 {N : Nat} {u1 u2 : Nat} (a1 : Int32) (a2 : Int32) (hu1 : u1 + 3 ≤ 3) (hu2 : u2 + 18 ≤ 18) (x : Hs) (r : (Int32 ⊕ Nat) × Hs) (h : gm82 a1 a2 x = some r) : Ev 82 (u1, u2) (0, aPad [.ref 1, .int a1, .int a2] 4, []) (hp N x) (cvXi N r) := by
  show Ev 82 (u1, u2) (0, [some (.ref 1), some (.int a1), some (.int a2), none], []) (hp N x) _
  unfold gm82 at h
  refine ev_run (n := 2) (u' := (u1, u2)) (f' := (2, [some (.ref 1), some (.int a1), some (.int a2), none], [.int a1, .ref 1])) (h' := hp N x) rfl ?_
  obtain ⟨w1, h2, h⟩ := bind_ok h
  obtain ⟨w1, x5⟩ := w1
  cases w1 with
  | inl v3 =>
    refine ev_call (v := none) (h1 := hp N x5) rfl rfl rfl (ok_u rfl (by show u1 + 1 ≤ 3; omega) (by show u2 + 6 ≤ 18; omega)) (em98 a1 (by decide) (by decide) x _ h2) ?_
    show Ev 82 (u1 + 1, u2 + 6) (5, [some (.ref 1), some (.int a1), some (.int a2), none], []) (hp N x5) _
    refine ev_run (n := 4) (u' := (u1 + 1, u2 + 6)) (f' := (13, [some (.ref 1), some (.int a1), some (.int a2), none], [.int (x5.1 115 0), .int a2])) (h' := hp N x5) rfl ?_
    obtain ⟨w6, h7, h⟩ := bind_ok h
    obtain ⟨w6, x10⟩ := w6
    cases w6 with
    | inl v8 =>
      refine ev_call (v := none) (h1 := hp N x10) rfl rfl rfl (ok_u rfl (by show u1 + 1 + 1 ≤ 3; omega) (by show u2 + 6 + 6 ≤ 18; omega)) (em91 a2 (x5.1 115 0) (by decide) (by decide) x5 _ h7) ?_
      show Ev 82 (u1 + 2, u2 + 12) (16, [some (.ref 1), some (.int a1), some (.int a2), none], []) (hp N x10) _
      refine ev_run (n := 4) (u' := (u1 + 2, u2 + 12)) (f' := (24, [some (.ref 1), some (.int a1), some (.int a2), none], [.int a1, .ref 117])) (h' := hp N x10) rfl ?_
      obtain ⟨h11, h⟩ := cond_some h
      refine ev_aald rfl rfl h11 (rf_117 h11) ?_
      refine ev_run (n := 2) (u' := (u1 + 2, u2 + 12)) (f' := (27, [some (.ref 1), some (.int a1), some (.int a2), some (.ref (118 + xi a1))], [.ref (118 + xi a1)])) (h' := hp N x10) rfl ?_
      refine ev_gfi rfl rfl (IN_lt N _ (lt_of_aIn h11)) ?_
      refine ev_run (n := 1) (u' := (u1 + 2, u2 + 12)) (f' := (31, [some (.ref 1), some (.int a1), some (.int a2), some (.ref (118 + xi a1))], [.int (-1), .int (x10.1 (118 + xi a1) 5)])) (h' := hp N x10) rfl ?_
      rcases ite_or h with ⟨h16, h⟩ | ⟨h16, h⟩
      · refine ev_icf rfl (decide_eq_false (fun w => w h16)) ?_
        refine ev_run (n := 1) (u' := (u1 + 2, u2 + 12)) (f' := (35, [some (.ref 1), some (.int a1), some (.int a2), some (.ref (118 + xi a1))], [.ref (118 + xi a1)])) (h' := hp N x10) rfl ?_
        refine ev_gfi rfl rfl (IN_lt N _ (lt_of_aIn h11)) ?_
        rcases ite_or h with ⟨h15, h⟩ | ⟨h15, h⟩
        · refine ev_iff rfl (decide_eq_false (fun w => w h15)) ?_
          refine ev_run (n := 1) (u' := (u1 + 2, u2 + 12)) (f' := (42, [some (.ref 1), some (.int a1), some (.int a2), some (.ref (118 + xi a1))], [.ref (118 + xi a1)])) (h' := hp N x10) rfl ?_
          refine ev_gfi rfl rfl (IN_lt N _ (lt_of_aIn h11)) ?_
          refine ev_run (n := 1) (u' := (u1 + 2, u2 + 12)) (f' := (46, [some (.ref 1), some (.int a1), some (.int a2), some (.ref (118 + xi a1))], [.int a2, .int (x10.1 (118 + xi a1) 4)])) (h' := hp N x10) rfl ?_
          obtain ⟨w12, h13, h⟩ := bind_ok h
          refine ev_call (v := some (.int w12)) (h1 := hp N x10) rfl rfl rfl (ok_u rfl (by show u1 + 2 + 0 ≤ 3; omega) (by show u2 + 12 + 0 ≤ 18; omega)) (em101 (x10.1 (118 + xi a1) 4) a2 x10 _ h13) ?_
          show Ev 82 (u1 + 2, u2 + 12) (49, [some (.ref 1), some (.int a1), some (.int a2), some (.ref (118 + xi a1))], [.int w12]) (hp N x10) _
          rcases ite_or h with ⟨h14, h⟩ | ⟨h14, h⟩
          · refine ev_ift rfl (decide_eq_true h14) ?_
            exact em82_56 a2 (118 + xi a1) (IN_lt N _ (lt_of_aIn h11)) (by omega) (by omega) x10 _ h
          · refine ev_iff rfl (decide_eq_false h14) ?_
            refine ev_run (n := 2) (u' := (u1 + 2, u2 + 12)) (f' := (57, [none, none, some (.int a2), some (.ref (118 + xi a1))], [.int 1])) (h' := hp N x10) rfl ?_
            exact em82_57 a2 (118 + xi a1) 1 (IN_lt N _ (lt_of_aIn h11)) (by omega) (by omega) x10 _ h
        · refine ev_ift rfl (decide_eq_true h15) ?_
          exact em82_56 a2 (118 + xi a1) (IN_lt N _ (lt_of_aIn h11)) (by omega) (by omega) x10 _ h
      · refine ev_ict rfl (decide_eq_true h16) ?_
        exact em82_56 a2 (118 + xi a1) (IN_lt N _ (lt_of_aIn h11)) (by omega) (by omega) x10 _ h
    | inr k9 =>
      obtain ⟨h17, h⟩ := cond_some h
      cases h
      exact ev_callX (h1 := hp N x10) rfl rfl rfl (ok_u rfl (by show u1 + 1 + 1 ≤ 3; omega) (by show u2 + 6 + 6 ≤ 18; omega)) h17 rfl (em91 a2 (x5.1 115 0) (by decide) (by decide) x5 _ h7)
  | inr k4 =>
    obtain ⟨h18, h⟩ := cond_some h
    cases h
    exact ev_callX (h1 := hp N x5) rfl rfl rfl (ok_u rfl (by show u1 + 1 ≤ 3; omega) (by show u2 + 6 ≤ 18; omega)) h18 rfl (em98 a1 (by decide) (by decide) x _ h2)
def gm83_35 (a2 : Nat) (s0 : Int32) (x : Hs) : Option ((Int32 ⊕ Nat) × Hs) := (gm93 s0 x).bind fun w10 => match w10 with | (.inl _, x14) => (some (.inl ((wI x14 a2 6 1).1 a2 2), (wI x14 a2 6 1))) | (.inr k13, x14) => (cond (Nat.blt k13 3) (some (.inr k13, x14)) none)
theorem em83_35 {N : Nat} {u1 u2 : Nat} (a2 : Nat) (s0 : Int32) (fa2 : IN N a2) (hu1 : u1 + 1 ≤ 2) (hu2 : u2 + 6 ≤ 12) (x : Hs) (r : (Int32 ⊕ Nat) × Hs) (h : gm83_35 a2 s0 x = some r) : Ev 83 (u1, u2) (35, [none, none, some (.ref a2)], [.int s0]) (hp N x) (cvXi N r) := by
  unfold gm83_35 at h
  obtain ⟨w10, h11, h⟩ := bind_ok h
  obtain ⟨w10, x14⟩ := w10
  cases w10 with
  | inl v12 =>
    refine ev_call (v := none) (h1 := hp N x14) rfl rfl rfl (ok_u rfl (by show u1 + 1 ≤ 2; omega) (by show u2 + 6 ≤ 12; omega)) (em93 s0 (by decide) (by decide) x _ h11) ?_
    show Ev 83 (u1 + 1, u2 + 6) (38, [none, none, some (.ref a2)], []) (hp N x14) _
    refine ev_run (n := 2) (u' := (u1 + 1, u2 + 6)) (f' := (40, [none, none, some (.ref a2)], [.int 1, .ref a2])) (h' := hp N x14) rfl ?_
    refine ev_pfi rfl fa2 rfl ?_
    show Ev 83 (u1 + 1, u2 + 6) (43, [none, none, some (.ref a2)], []) (hp N (wI x14 a2 6 1)) _
    refine ev_run (n := 1) (u' := (u1 + 1, u2 + 6)) (f' := (44, [none, none, some (.ref a2)], [.ref a2])) (h' := hp N (wI x14 a2 6 1)) rfl ?_
    refine ev_gfi rfl rfl fa2 ?_
    cases h
    exact ev_iret rfl (end_u (by show _ ≤ 2; omega) (by show _ ≤ 12; omega)) rfl (Or.inl rfl)
  | inr k13 =>
    obtain ⟨h15, h⟩ := cond_some h
    cases h
    exact ev_callX (h1 := hp N x14) rfl rfl rfl (ok_u rfl (by show u1 + 1 ≤ 2; omega) (by show u2 + 6 ≤ 12; omega)) h15 rfl (em93 s0 (by decide) (by decide) x _ h11)
def gm83_34 (a2 : Nat) (x : Hs) : Option ((Int32 ⊕ Nat) × Hs) := gm83_35 a2 0 x
theorem em83_34 {N : Nat} {u1 u2 : Nat} (a2 : Nat) (fa2 : IN N a2) (hu1 : u1 + 1 ≤ 2) (hu2 : u2 + 6 ≤ 12) (x : Hs) (r : (Int32 ⊕ Nat) × Hs) (h : gm83_34 a2 x = some r) : Ev 83 (u1, u2) (34, [none, none, some (.ref a2)], []) (hp N x) (cvXi N r) := by
  unfold gm83_34 at h
  refine ev_run (n := 1) (u' := (u1, u2)) (f' := (35, [none, none, some (.ref a2)], [.int 0])) (h' := hp N x) rfl ?_
  exact em83_35 a2 0 fa2 (by omega) (by omega) x _ h
def gm83 (a1 : Int32) (x : Hs) : Option ((Int32 ⊕ Nat) × Hs) := (gm98 a1 x).bind fun w1 => match w1 with | (.inl _, x5) => (cond (aIn a1 12) (if x5.1 (118 + xi a1) 5 = (-1) then (gm83_34 (118 + xi a1) x5) else (if x5.1 (118 + xi a1) 6 = 0 then (gm83_35 (118 + xi a1) 1 x5) else (gm83_34 (118 + xi a1) x5))) none) | (.inr k4, x5) => (cond (Nat.blt k4 3) (some (.inr k4, x5)) none)
theorem em83 {N : Nat} {u1 u2 : Nat} (a1 : Int32) (hu1 : u1 + 2 ≤ 2) (hu2 : u2 + 12 ≤ 12) (x : Hs) (r : (Int32 ⊕ Nat) × Hs) (h : gm83 a1 x = some r) : Ev 83 (u1, u2) (0, aPad [.ref 1, .int a1] 3, []) (hp N x) (cvXi N r) := by
  show Ev 83 (u1, u2) (0, [some (.ref 1), some (.int a1), none], []) (hp N x) _
  unfold gm83 at h
  refine ev_run (n := 2) (u' := (u1, u2)) (f' := (2, [some (.ref 1), some (.int a1), none], [.int a1, .ref 1])) (h' := hp N x) rfl ?_
  obtain ⟨w1, h2, h⟩ := bind_ok h
  obtain ⟨w1, x5⟩ := w1
  cases w1 with
  | inl v3 =>
    refine ev_call (v := none) (h1 := hp N x5) rfl rfl rfl (ok_u rfl (by show u1 + 1 ≤ 2; omega) (by show u2 + 6 ≤ 12; omega)) (em98 a1 (by decide) (by decide) x _ h2) ?_
    show Ev 83 (u1 + 1, u2 + 6) (5, [some (.ref 1), some (.int a1), none], []) (hp N x5) _
    refine ev_run (n := 4) (u' := (u1 + 1, u2 + 6)) (f' := (13, [some (.ref 1), some (.int a1), none], [.int a1, .ref 117])) (h' := hp N x5) rfl ?_
    obtain ⟨h6, h⟩ := cond_some h
    refine ev_aald rfl rfl h6 (rf_117 h6) ?_
    refine ev_run (n := 2) (u' := (u1 + 1, u2 + 6)) (f' := (16, [some (.ref 1), some (.int a1), some (.ref (118 + xi a1))], [.ref (118 + xi a1)])) (h' := hp N x5) rfl ?_
    refine ev_gfi rfl rfl (IN_lt N _ (lt_of_aIn h6)) ?_
    refine ev_run (n := 1) (u' := (u1 + 1, u2 + 6)) (f' := (20, [some (.ref 1), some (.int a1), some (.ref (118 + xi a1))], [.int (-1), .int (x5.1 (118 + xi a1) 5)])) (h' := hp N x5) rfl ?_
    rcases ite_or h with ⟨h8, h⟩ | ⟨h8, h⟩
    · refine ev_ict rfl (decide_eq_true h8) ?_
      exact em83_34 (118 + xi a1) (IN_lt N _ (lt_of_aIn h6)) (by omega) (by omega) x5 _ h
    · refine ev_icf rfl (decide_eq_false h8) ?_
      refine ev_run (n := 1) (u' := (u1 + 1, u2 + 6)) (f' := (24, [some (.ref 1), some (.int a1), some (.ref (118 + xi a1))], [.ref (118 + xi a1)])) (h' := hp N x5) rfl ?_
      refine ev_gfi rfl rfl (IN_lt N _ (lt_of_aIn h6)) ?_
      rcases ite_or h with ⟨h7, h⟩ | ⟨h7, h⟩
      · refine ev_iff rfl (decide_eq_false (fun w => w h7)) ?_
        refine ev_run (n := 2) (u' := (u1 + 1, u2 + 6)) (f' := (35, [none, none, some (.ref (118 + xi a1))], [.int 1])) (h' := hp N x5) rfl ?_
        exact em83_35 (118 + xi a1) 1 (IN_lt N _ (lt_of_aIn h6)) (by omega) (by omega) x5 _ h
      · refine ev_ift rfl (decide_eq_true h7) ?_
        exact em83_34 (118 + xi a1) (IN_lt N _ (lt_of_aIn h6)) (by omega) (by omega) x5 _ h
  | inr k4 =>
    obtain ⟨h9, h⟩ := cond_some h
    cases h
    exact ev_callX (h1 := hp N x5) rfl rfl rfl (ok_u rfl (by show u1 + 1 ≤ 2; omega) (by show u2 + 6 ≤ 12; omega)) h9 rfl (em98 a1 (by decide) (by decide) x _ h2)
def gm84 (a1 : Int32) (a2 : Int32) (x : Hs) : Option ((Int32 ⊕ Nat) × Hs) := (gm98 a1 x).bind fun w1 => match w1 with | (.inl _, x5) => ((gm99 a2 0 5 x5).bind fun w6 => ((gm92 w6 x5).bind fun w8 => match w8 with | (.inl _, x12) => (cond (aIn a1 12) (if a2 = 0 then (some (.inl (x12.1 (118 + xi a1) 0), x12)) else (if a2 = 1 then (some (.inl (x12.1 (118 + xi a1) 1), x12)) else (if a2 = 2 then (some (.inl (x12.1 (118 + xi a1) 2), x12)) else (if a2 = 3 then (some (.inl (x12.1 (118 + xi a1) 3), x12)) else (if a2 = 4 then (some (.inl (x12.1 (118 + xi a1) 5), x12)) else (if x12.1 (118 + xi a1) 6 = 0 then (some (.inl 0, x12)) else (some (.inl 1, x12)))))))) none) | (.inr k11, x12) => (cond (Nat.blt k11 3) (some (.inr k11, x12)) none))) | (.inr k4, x5) => (cond (Nat.blt k4 3) (some (.inr k4, x5)) none)
theorem em84 {N : Nat} {u1 u2 : Nat} (a1 : Int32) (a2 : Int32) (hu1 : u1 + 2 ≤ 2) (hu2 : u2 + 12 ≤ 12) (x : Hs) (r : (Int32 ⊕ Nat) × Hs) (h : gm84 a1 a2 x = some r) : Ev 84 (u1, u2) (0, aPad [.ref 1, .int a1, .int a2] 4, []) (hp N x) (cvXi N r) := by
  show Ev 84 (u1, u2) (0, [some (.ref 1), some (.int a1), some (.int a2), none], []) (hp N x) _
  unfold gm84 at h
  refine ev_run (n := 2) (u' := (u1, u2)) (f' := (2, [some (.ref 1), some (.int a1), some (.int a2), none], [.int a1, .ref 1])) (h' := hp N x) rfl ?_
  obtain ⟨w1, h2, h⟩ := bind_ok h
  obtain ⟨w1, x5⟩ := w1
  cases w1 with
  | inl v3 =>
    refine ev_call (v := none) (h1 := hp N x5) rfl rfl rfl (ok_u rfl (by show u1 + 1 ≤ 2; omega) (by show u2 + 6 ≤ 12; omega)) (em98 a1 (by decide) (by decide) x _ h2) ?_
    show Ev 84 (u1 + 1, u2 + 6) (5, [some (.ref 1), some (.int a1), some (.int a2), none], []) (hp N x5) _
    refine ev_run (n := 3) (u' := (u1 + 1, u2 + 6)) (f' := (8, [some (.ref 1), some (.int a1), some (.int a2), none], [.int 5, .int 0, .int a2])) (h' := hp N x5) rfl ?_
    obtain ⟨w6, h7, h⟩ := bind_ok h
    refine ev_call (v := some (.int w6)) (h1 := hp N x5) rfl rfl rfl (ok_u rfl (by show u1 + 1 + 0 ≤ 2; omega) (by show u2 + 6 + 0 ≤ 12; omega)) (em99 a2 0 5 x5 _ h7) ?_
    show Ev 84 (u1 + 1, u2 + 6) (11, [some (.ref 1), some (.int a1), some (.int a2), none], [.int w6]) (hp N x5) _
    obtain ⟨w8, h9, h⟩ := bind_ok h
    obtain ⟨w8, x12⟩ := w8
    cases w8 with
    | inl v10 =>
      refine ev_call (v := none) (h1 := hp N x12) rfl rfl rfl (ok_u rfl (by show u1 + 1 + 1 ≤ 2; omega) (by show u2 + 6 + 6 ≤ 12; omega)) (em92 w6 (by decide) (by decide) x5 _ h9) ?_
      show Ev 84 (u1 + 2, u2 + 12) (14, [some (.ref 1), some (.int a1), some (.int a2), none], []) (hp N x12) _
      refine ev_run (n := 4) (u' := (u1 + 2, u2 + 12)) (f' := (22, [some (.ref 1), some (.int a1), some (.int a2), none], [.int a1, .ref 117])) (h' := hp N x12) rfl ?_
      obtain ⟨h13, h⟩ := cond_some h
      refine ev_aald rfl rfl h13 (rf_117 h13) ?_
      refine ev_run (n := 2) (u' := (u1 + 2, u2 + 12)) (f' := (25, [some (.ref 1), some (.int a1), some (.int a2), some (.ref (118 + xi a1))], [.int a2])) (h' := hp N x12) rfl ?_
      rcases ite_or h with ⟨h14, h⟩ | ⟨h14, h⟩
      · refine ev_tswk rfl h14 rfl rfl ?_
        refine ev_run (n := 1) (u' := (u1 + 2, u2 + 12)) (f' := (61, [some (.ref 1), some (.int a1), some (.int a2), some (.ref (118 + xi a1))], [.ref (118 + xi a1)])) (h' := hp N x12) rfl ?_
        refine ev_gfi rfl rfl (IN_lt N _ (lt_of_aIn h13)) ?_
        cases h
        exact ev_iret rfl (end_u (by show _ ≤ 2; omega) (by show _ ≤ 12; omega)) rfl (Or.inl rfl)
      rcases ite_or h with ⟨h15, h⟩ | ⟨h15, h⟩
      · refine ev_tswk rfl h15 rfl rfl ?_
        refine ev_run (n := 1) (u' := (u1 + 2, u2 + 12)) (f' := (66, [some (.ref 1), some (.int a1), some (.int a2), some (.ref (118 + xi a1))], [.ref (118 + xi a1)])) (h' := hp N x12) rfl ?_
        refine ev_gfi rfl rfl (IN_lt N _ (lt_of_aIn h13)) ?_
        cases h
        exact ev_iret rfl (end_u (by show _ ≤ 2; omega) (by show _ ≤ 12; omega)) rfl (Or.inl rfl)
      rcases ite_or h with ⟨h16, h⟩ | ⟨h16, h⟩
      · refine ev_tswk rfl h16 rfl rfl ?_
        refine ev_run (n := 1) (u' := (u1 + 2, u2 + 12)) (f' := (71, [some (.ref 1), some (.int a1), some (.int a2), some (.ref (118 + xi a1))], [.ref (118 + xi a1)])) (h' := hp N x12) rfl ?_
        refine ev_gfi rfl rfl (IN_lt N _ (lt_of_aIn h13)) ?_
        cases h
        exact ev_iret rfl (end_u (by show _ ≤ 2; omega) (by show _ ≤ 12; omega)) rfl (Or.inl rfl)
      rcases ite_or h with ⟨h17, h⟩ | ⟨h17, h⟩
      · refine ev_tswk rfl h17 rfl rfl ?_
        refine ev_run (n := 1) (u' := (u1 + 2, u2 + 12)) (f' := (76, [some (.ref 1), some (.int a1), some (.int a2), some (.ref (118 + xi a1))], [.ref (118 + xi a1)])) (h' := hp N x12) rfl ?_
        refine ev_gfi rfl rfl (IN_lt N _ (lt_of_aIn h13)) ?_
        cases h
        exact ev_iret rfl (end_u (by show _ ≤ 2; omega) (by show _ ≤ 12; omega)) rfl (Or.inl rfl)
      rcases ite_or h with ⟨h18, h⟩ | ⟨h18, h⟩
      · refine ev_tswk rfl h18 rfl rfl ?_
        refine ev_run (n := 1) (u' := (u1 + 2, u2 + 12)) (f' := (81, [some (.ref 1), some (.int a1), some (.int a2), some (.ref (118 + xi a1))], [.ref (118 + xi a1)])) (h' := hp N x12) rfl ?_
        refine ev_gfi rfl rfl (IN_lt N _ (lt_of_aIn h13)) ?_
        cases h
        exact ev_iret rfl (end_u (by show _ ≤ 2; omega) (by show _ ≤ 12; omega)) rfl (Or.inl rfl)
      refine ev_tswd rfl (aIn_5 h14 h15 h16 h17 h18) ?_
      refine ev_run (n := 1) (u' := (u1 + 2, u2 + 12)) (f' := (86, [some (.ref 1), some (.int a1), some (.int a2), some (.ref (118 + xi a1))], [.ref (118 + xi a1)])) (h' := hp N x12) rfl ?_
      refine ev_gfi rfl rfl (IN_lt N _ (lt_of_aIn h13)) ?_
      rcases ite_or h with ⟨h19, h⟩ | ⟨h19, h⟩
      · refine ev_ift rfl (decide_eq_true h19) ?_
        refine ev_run (n := 1) (u' := (u1 + 2, u2 + 12)) (f' := (97, [none, none, none, none], [.int 0])) (h' := hp N x12) rfl ?_
        cases h
        exact ev_iret rfl (end_u (by show _ ≤ 2; omega) (by show _ ≤ 12; omega)) rfl (Or.inl rfl)
      · refine ev_iff rfl (decide_eq_false h19) ?_
        refine ev_run (n := 2) (u' := (u1 + 2, u2 + 12)) (f' := (97, [none, none, none, none], [.int 1])) (h' := hp N x12) rfl ?_
        cases h
        exact ev_iret rfl (end_u (by show _ ≤ 2; omega) (by show _ ≤ 12; omega)) rfl (Or.inl rfl)
    | inr k11 =>
      obtain ⟨h20, h⟩ := cond_some h
      cases h
      exact ev_callX (h1 := hp N x12) rfl rfl rfl (ok_u rfl (by show u1 + 1 + 1 ≤ 2; omega) (by show u2 + 6 + 6 ≤ 12; omega)) h20 rfl (em92 w6 (by decide) (by decide) x5 _ h9)
  | inr k4 =>
    obtain ⟨h21, h⟩ := cond_some h
    cases h
    exact ev_callX (h1 := hp N x5) rfl rfl rfl (ok_u rfl (by show u1 + 1 ≤ 2; omega) (by show u2 + 6 ≤ 12; omega)) h21 rfl (em98 a1 (by decide) (by decide) x _ h2)
def gm85_67 (x : Hs) : Option ((Int32 ⊕ Nat) × Hs) := (gm21 (x.1 1 8) x).bind fun w19 => (some (.inl (w19.1 1 8), w19))
theorem em85_67 {N : Nat} {u1 u2 : Nat} (hu1 : u1 + 0 ≤ 2) (hu2 : u2 + 0 ≤ 12) (x : Hs) (r : (Int32 ⊕ Nat) × Hs) (h : gm85_67 x = some r) : Ev 85 (u1, u2) (67, [some (.ref 1), none, none], []) (hp N x) (cvXi N r) := by
  unfold gm85_67 at h
  refine ev_run (n := 4) (u' := (u1, u2)) (f' := (75, [some (.ref 1), none, none], [.int (x.1 1 8), .ref 115])) (h' := hp N x) rfl ?_
  obtain ⟨w19, h20, h⟩ := bind_ok h
  refine ev_call (v := none) (h1 := hp N w19) rfl rfl rfl (ok_u rfl (by show u1 + 0 ≤ 2; omega) (by show u2 + 0 ≤ 12; omega)) (em21 (x.1 1 8) x _ h20) ?_
  show Ev 85 (u1, u2) (78, [some (.ref 1), none, none], []) (hp N w19) _
  refine ev_run (n := 2) (u' := (u1, u2)) (f' := (82, [some (.ref 1), none, none], [.int (w19.1 1 8)])) (h' := hp N w19) rfl ?_
  cases h
  exact ev_iret rfl (end_u (by show _ ≤ 2; omega) (by show _ ≤ 12; omega)) rfl (Or.inl rfl)
theorem em85_67_k1 {N : Nat} {u1 u2 : Nat} (a1 : Int32) (a2 : Int32) (hu1 : u1 + 0 ≤ 2) (hu2 : u2 + 0 ≤ 12) (x : Hs) (r : (Int32 ⊕ Nat) × Hs) (h : gm85_67 x = some r) : Ev 85 (u1, u2) (67, [some (.ref 1), some (.int a1), some (.int a2)], []) (hp N x) (cvXi N r) := by
  unfold gm85_67 at h
  refine ev_run (n := 4) (u' := (u1, u2)) (f' := (75, [some (.ref 1), some (.int a1), some (.int a2)], [.int (x.1 1 8), .ref 115])) (h' := hp N x) rfl ?_
  obtain ⟨w21, h22, h⟩ := bind_ok h
  refine ev_call (v := none) (h1 := hp N w21) rfl rfl rfl (ok_u rfl (by show u1 + 0 ≤ 2; omega) (by show u2 + 0 ≤ 12; omega)) (em21 (x.1 1 8) x _ h22) ?_
  show Ev 85 (u1, u2) (78, [some (.ref 1), some (.int a1), some (.int a2)], []) (hp N w21) _
  refine ev_run (n := 2) (u' := (u1, u2)) (f' := (82, [some (.ref 1), some (.int a1), some (.int a2)], [.int (w21.1 1 8)])) (h' := hp N w21) rfl ?_
  cases h
  exact ev_iret rfl (end_u (by show _ ≤ 2; omega) (by show _ ≤ 12; omega)) rfl (Or.inl rfl)
def gm85_28 (a1 : Int32) (s0 : Int32) (x : Hs) : Option ((Int32 ⊕ Nat) × Hs) := (gm93 s0 x).bind fun w10 => match w10 with | (.inl _, x14) => (if ((wI x14 1 8 (x14.1 1 8 + a1)).1 1 8 / 60) = (x14.1 1 8 / 60) then (gm85_67 (wI x14 1 8 (x14.1 1 8 + a1))) else ((gm1 (wI x14 1 8 (x14.1 1 8 + a1))).bind fun w15 => (gm85_67 w15))) | (.inr k13, x14) => (cond (Nat.blt k13 3) (some (.inr k13, x14)) none)
theorem em85_28 {N : Nat} {u1 u2 : Nat} (a1 : Int32) (s0 : Int32) (hu1 : u1 + 1 ≤ 2) (hu2 : u2 + 6 ≤ 12) (x : Hs) (r : (Int32 ⊕ Nat) × Hs) (h : gm85_28 a1 s0 x = some r) : Ev 85 (u1, u2) (28, [some (.ref 1), some (.int a1), none], [.int s0]) (hp N x) (cvXi N r) := by
  unfold gm85_28 at h
  obtain ⟨w10, h11, h⟩ := bind_ok h
  obtain ⟨w10, x14⟩ := w10
  cases w10 with
  | inl v12 =>
    refine ev_call (v := none) (h1 := hp N x14) rfl rfl rfl (ok_u rfl (by show u1 + 1 ≤ 2; omega) (by show u2 + 6 ≤ 12; omega)) (em93 s0 (by decide) (by decide) x _ h11) ?_
    show Ev 85 (u1 + 1, u2 + 6) (31, [some (.ref 1), some (.int a1), none], []) (hp N x14) _
    refine ev_run (n := 3) (u' := (u1 + 1, u2 + 6)) (f' := (37, [some (.ref 1), some (.int a1), none], [.int 60, .int (x14.1 1 8)])) (h' := hp N x14) rfl ?_
    refine ev_idiv rfl (by decide) ?_
    refine ev_run (n := 10) (u' := (u1 + 1, u2 + 6)) (f' := (55, [some (.ref 1), some (.int a1), some (.int (x14.1 1 8 / 60))], [.int 60, .int ((wI x14 1 8 (x14.1 1 8 + a1)).1 1 8)])) (h' := hp N (wI x14 1 8 (x14.1 1 8 + a1))) rfl ?_
    refine ev_idiv rfl (by decide) ?_
    refine ev_run (n := 1) (u' := (u1 + 1, u2 + 6)) (f' := (57, [some (.ref 1), some (.int a1), some (.int (x14.1 1 8 / 60))], [.int (x14.1 1 8 / 60), .int ((wI x14 1 8 (x14.1 1 8 + a1)).1 1 8 / 60)])) (h' := hp N (wI x14 1 8 (x14.1 1 8 + a1))) rfl ?_
    rcases ite_or h with ⟨h17, h⟩ | ⟨h17, h⟩
    · refine ev_ict rfl (decide_eq_true h17) ?_
      exact em85_67 (by omega) (by omega) (wI x14 1 8 (x14.1 1 8 + a1)) _ h
    · refine ev_icf rfl (decide_eq_false h17) ?_
      refine ev_run (n := 2) (u' := (u1 + 1, u2 + 6)) (f' := (64, [some (.ref 1), some (.int a1), some (.int (x14.1 1 8 / 60))], [.ref 103])) (h' := hp N (wI x14 1 8 (x14.1 1 8 + a1))) rfl ?_
      obtain ⟨w15, h16, h⟩ := bind_ok h
      refine ev_call (v := none) (h1 := hp N w15) rfl rfl rfl (ok_u rfl (by show u1 + 1 + 0 ≤ 2; omega) (by show u2 + 6 + 0 ≤ 12; omega)) (em1 (wI x14 1 8 (x14.1 1 8 + a1)) _ h16) ?_
      show Ev 85 (u1 + 1, u2 + 6) (67, [some (.ref 1), some (.int a1), some (.int (x14.1 1 8 / 60))], []) (hp N w15) _
      exact em85_67_k1 a1 (x14.1 1 8 / 60) (by omega) (by omega) w15 _ h
  | inr k13 =>
    obtain ⟨h18, h⟩ := cond_some h
    cases h
    exact ev_callX (h1 := hp N x14) rfl rfl rfl (ok_u rfl (by show u1 + 1 ≤ 2; omega) (by show u2 + 6 ≤ 12; omega)) h18 rfl (em93 s0 (by decide) (by decide) x _ h11)
def gm85 (a1 : Int32) (x : Hs) : Option ((Int32 ⊕ Nat) × Hs) := (gm99 a1 1 600 x).bind fun w1 => ((gm92 w1 x).bind fun w3 => match w3 with | (.inl _, x7) => (if (x7.1 1 8 + a1) > 9999 then (gm85_28 a1 0 x7) else (gm85_28 a1 1 x7)) | (.inr k6, x7) => (cond (Nat.blt k6 3) (some (.inr k6, x7)) none))
theorem em85 {N : Nat} {u1 u2 : Nat} (a1 : Int32) (hu1 : u1 + 2 ≤ 2) (hu2 : u2 + 12 ≤ 12) (x : Hs) (r : (Int32 ⊕ Nat) × Hs) (h : gm85 a1 x = some r) : Ev 85 (u1, u2) (0, aPad [.ref 1, .int a1] 3, []) (hp N x) (cvXi N r) := by
  show Ev 85 (u1, u2) (0, [some (.ref 1), some (.int a1), none], []) (hp N x) _
  unfold gm85 at h
  refine ev_run (n := 3) (u' := (u1, u2)) (f' := (5, [some (.ref 1), some (.int a1), none], [.int 600, .int 1, .int a1])) (h' := hp N x) rfl ?_
  obtain ⟨w1, h2, h⟩ := bind_ok h
  refine ev_call (v := some (.int w1)) (h1 := hp N x) rfl rfl rfl (ok_u rfl (by show u1 + 0 ≤ 2; omega) (by show u2 + 0 ≤ 12; omega)) (em99 a1 1 600 x _ h2) ?_
  show Ev 85 (u1, u2) (8, [some (.ref 1), some (.int a1), none], [.int w1]) (hp N x) _
  obtain ⟨w3, h4, h⟩ := bind_ok h
  obtain ⟨w3, x7⟩ := w3
  cases w3 with
  | inl v5 =>
    refine ev_call (v := none) (h1 := hp N x7) rfl rfl rfl (ok_u rfl (by show u1 + 1 ≤ 2; omega) (by show u2 + 6 ≤ 12; omega)) (em92 w1 (by decide) (by decide) x _ h4) ?_
    show Ev 85 (u1 + 1, u2 + 6) (11, [some (.ref 1), some (.int a1), none], []) (hp N x7) _
    refine ev_run (n := 5) (u' := (u1 + 1, u2 + 6)) (f' := (20, [some (.ref 1), some (.int a1), none], [.int 9999, .int (x7.1 1 8 + a1)])) (h' := hp N x7) rfl ?_
    rcases ite_or h with ⟨h8, h⟩ | ⟨h8, h⟩
    · refine ev_ict rfl (decide_eq_true h8) ?_
      refine ev_run (n := 1) (u' := (u1 + 1, u2 + 6)) (f' := (28, [some (.ref 1), some (.int a1), none], [.int 0])) (h' := hp N x7) rfl ?_
      exact em85_28 a1 0 (by omega) (by omega) x7 _ h
    · refine ev_icf rfl (decide_eq_false h8) ?_
      refine ev_run (n := 2) (u' := (u1 + 1, u2 + 6)) (f' := (28, [some (.ref 1), some (.int a1), none], [.int 1])) (h' := hp N x7) rfl ?_
      exact em85_28 a1 1 (by omega) (by omega) x7 _ h
  | inr k6 =>
    obtain ⟨h9, h⟩ := cond_some h
    cases h
    exact ev_callX (h1 := hp N x7) rfl rfl rfl (ok_u rfl (by show u1 + 1 ≤ 2; omega) (by show u2 + 6 ≤ 12; omega)) h9 rfl (em92 w1 (by decide) (by decide) x _ h4)
def gm86 (a1 : Int32) (a2 : Int32) (a3 : Int32) (x : Hs) : Option ((Int32 ⊕ Nat) × Hs) := (gm96 a1 x).bind fun w1 => match w1 with | (.inl _, x5) => ((gm94 a2 x5).bind fun w6 => match w6 with | (.inl _, x10) => ((gm99 a3 0 2 x10).bind fun w11 => ((gm92 w11 x10).bind fun w13 => match w13 with | (.inl _, x17) => (cond (aIn a1 4) (if a3 = 0 then (cond (aIn a2 5) (some (.inl (x17.1 ((60 + 8 * xi a1) + 1) (xi a2)), x17)) none) else (if a3 = 1 then (cond (aIn a2 5) (some (.inl (x17.1 ((60 + 8 * xi a1) + 2) (xi a2)), x17)) none) else (cond (aIn a2 5) (some (.inl (x17.1 ((60 + 8 * xi a1) + 3) (xi a2)), x17)) none))) none) | (.inr k16, x17) => (cond (Nat.blt k16 3) (some (.inr k16, x17)) none))) | (.inr k9, x10) => (cond (Nat.blt k9 3) (some (.inr k9, x10)) none)) | (.inr k4, x5) => (cond (Nat.blt k4 3) (some (.inr k4, x5)) none)
theorem em86 {N : Nat} {u1 u2 : Nat} (a1 : Int32) (a2 : Int32) (a3 : Int32) (hu1 : u1 + 3 ≤ 3) (hu2 : u2 + 18 ≤ 18) (x : Hs) (r : (Int32 ⊕ Nat) × Hs) (h : gm86 a1 a2 a3 x = some r) : Ev 86 (u1, u2) (0, aPad [.ref 1, .int a1, .int a2, .int a3] 5, []) (hp N x) (cvXi N r) := by
  show Ev 86 (u1, u2) (0, [some (.ref 1), some (.int a1), some (.int a2), some (.int a3), none], []) (hp N x) _
  unfold gm86 at h
  refine ev_run (n := 2) (u' := (u1, u2)) (f' := (2, [some (.ref 1), some (.int a1), some (.int a2), some (.int a3), none], [.int a1, .ref 1])) (h' := hp N x) rfl ?_
  obtain ⟨w1, h2, h⟩ := bind_ok h
  obtain ⟨w1, x5⟩ := w1
  cases w1 with
  | inl v3 =>
    refine ev_call (v := none) (h1 := hp N x5) rfl rfl rfl (ok_u rfl (by show u1 + 1 ≤ 3; omega) (by show u2 + 6 ≤ 18; omega)) (em96 a1 (by decide) (by decide) x _ h2) ?_
    show Ev 86 (u1 + 1, u2 + 6) (5, [some (.ref 1), some (.int a1), some (.int a2), some (.int a3), none], []) (hp N x5) _
    refine ev_run (n := 2) (u' := (u1 + 1, u2 + 6)) (f' := (7, [some (.ref 1), some (.int a1), some (.int a2), some (.int a3), none], [.int a2, .ref 1])) (h' := hp N x5) rfl ?_
    obtain ⟨w6, h7, h⟩ := bind_ok h
    obtain ⟨w6, x10⟩ := w6
    cases w6 with
    | inl v8 =>
      refine ev_call (v := none) (h1 := hp N x10) rfl rfl rfl (ok_u rfl (by show u1 + 1 + 1 ≤ 3; omega) (by show u2 + 6 + 6 ≤ 18; omega)) (em94 a2 (by decide) (by decide) x5 _ h7) ?_
      show Ev 86 (u1 + 2, u2 + 12) (10, [some (.ref 1), some (.int a1), some (.int a2), some (.int a3), none], []) (hp N x10) _
      refine ev_run (n := 3) (u' := (u1 + 2, u2 + 12)) (f' := (13, [some (.ref 1), some (.int a1), some (.int a2), some (.int a3), none], [.int 2, .int 0, .int a3])) (h' := hp N x10) rfl ?_
      obtain ⟨w11, h12, h⟩ := bind_ok h
      refine ev_call (v := some (.int w11)) (h1 := hp N x10) rfl rfl rfl (ok_u rfl (by show u1 + 2 + 0 ≤ 3; omega) (by show u2 + 12 + 0 ≤ 18; omega)) (em99 a3 0 2 x10 _ h12) ?_
      show Ev 86 (u1 + 2, u2 + 12) (16, [some (.ref 1), some (.int a1), some (.int a2), some (.int a3), none], [.int w11]) (hp N x10) _
      obtain ⟨w13, h14, h⟩ := bind_ok h
      obtain ⟨w13, x17⟩ := w13
      cases w13 with
      | inl v15 =>
        refine ev_call (v := none) (h1 := hp N x17) rfl rfl rfl (ok_u rfl (by show u1 + 2 + 1 ≤ 3; omega) (by show u2 + 12 + 6 ≤ 18; omega)) (em92 w11 (by decide) (by decide) x10 _ h14) ?_
        show Ev 86 (u1 + 3, u2 + 18) (19, [some (.ref 1), some (.int a1), some (.int a2), some (.int a3), none], []) (hp N x17) _
        refine ev_run (n := 3) (u' := (u1 + 3, u2 + 18)) (f' := (24, [some (.ref 1), some (.int a1), some (.int a2), some (.int a3), none], [.int a1, .ref 59])) (h' := hp N x17) rfl ?_
        obtain ⟨h18, h⟩ := cond_some h
        refine ev_aald rfl rfl h18 (rf_59 h18) ?_
        refine ev_run (n := 2) (u' := (u1 + 3, u2 + 18)) (f' := (28, [some (.ref 1), some (.int a1), some (.int a2), some (.int a3), some (.ref (60 + 8 * xi a1))], [.int a3])) (h' := hp N x17) rfl ?_
        rcases ite_or h with ⟨h23, h⟩ | ⟨h23, h⟩
        · refine ev_iff rfl (decide_eq_false (fun w => w h23)) ?_
          refine ev_run (n := 1) (u' := (u1 + 3, u2 + 18)) (f' := (33, [some (.ref 1), some (.int a1), some (.int a2), some (.int a3), some (.ref (60 + 8 * xi a1))], [.ref (60 + 8 * xi a1)])) (h' := hp N x17) rfl ?_
          refine ev_gfr rfl rfl (RG_lt N _ (lt_of_aIn h18)).1 ((RG_lt N _ (lt_of_aIn h18)).fd (by decide) (by decide)) ?_
          refine ev_run (n := 1) (u' := (u1 + 3, u2 + 18)) (f' := (37, [some (.ref 1), some (.int a1), some (.int a2), some (.int a3), some (.ref (60 + 8 * xi a1))], [.int a2, .ref ((60 + 8 * xi a1) + 1)])) (h' := hp N x17) rfl ?_
          obtain ⟨h22, h⟩ := cond_some h
          refine ev_iald rfl ((RG_lt N _ (lt_of_aIn h18)).2.2.1).kd (((RG_lt N _ (lt_of_aIn h18)).2.2.1).ln h22) ?_
          cases h
          exact ev_iret rfl (end_u (by show _ ≤ 3; omega) (by show _ ≤ 18; omega)) rfl (Or.inl rfl)
        · refine ev_ift rfl (decide_eq_true h23) ?_
          refine ev_run (n := 2) (u' := (u1 + 3, u2 + 18)) (f' := (41, [none, none, some (.int a2), some (.int a3), some (.ref (60 + 8 * xi a1))], [.int 1, .int a3])) (h' := hp N x17) rfl ?_
          rcases ite_or h with ⟨h21, h⟩ | ⟨h21, h⟩
          · refine ev_icf rfl (decide_eq_false (fun w => w h21)) ?_
            refine ev_run (n := 1) (u' := (u1 + 3, u2 + 18)) (f' := (46, [none, none, some (.int a2), some (.int a3), some (.ref (60 + 8 * xi a1))], [.ref (60 + 8 * xi a1)])) (h' := hp N x17) rfl ?_
            refine ev_gfr rfl rfl (RG_lt N _ (lt_of_aIn h18)).1 ((RG_lt N _ (lt_of_aIn h18)).fd (by decide) (by decide)) ?_
            refine ev_run (n := 1) (u' := (u1 + 3, u2 + 18)) (f' := (50, [none, none, some (.int a2), some (.int a3), some (.ref (60 + 8 * xi a1))], [.int a2, .ref ((60 + 8 * xi a1) + 2)])) (h' := hp N x17) rfl ?_
            obtain ⟨h20, h⟩ := cond_some h
            refine ev_iald rfl ((RG_lt N _ (lt_of_aIn h18)).2.2.2.1).kd (((RG_lt N _ (lt_of_aIn h18)).2.2.2.1).ln h20) ?_
            refine ev_run (n := 1) (u' := (u1 + 3, u2 + 18)) (f' := (61, [none, none, none, none, none], [.int (x17.1 ((60 + 8 * xi a1) + 2) (xi a2))])) (h' := hp N x17) rfl ?_
            cases h
            exact ev_iret rfl (end_u (by show _ ≤ 3; omega) (by show _ ≤ 18; omega)) rfl (Or.inl rfl)
          · refine ev_ict rfl (decide_eq_true h21) ?_
            refine ev_run (n := 1) (u' := (u1 + 3, u2 + 18)) (f' := (56, [none, none, some (.int a2), none, some (.ref (60 + 8 * xi a1))], [.ref (60 + 8 * xi a1)])) (h' := hp N x17) rfl ?_
            refine ev_gfr rfl rfl (RG_lt N _ (lt_of_aIn h18)).1 ((RG_lt N _ (lt_of_aIn h18)).fd (by decide) (by decide)) ?_
            refine ev_run (n := 1) (u' := (u1 + 3, u2 + 18)) (f' := (60, [none, none, some (.int a2), none, some (.ref (60 + 8 * xi a1))], [.int a2, .ref ((60 + 8 * xi a1) + 3)])) (h' := hp N x17) rfl ?_
            obtain ⟨h19, h⟩ := cond_some h
            refine ev_iald rfl ((RG_lt N _ (lt_of_aIn h18)).2.2.2.2.1).kd (((RG_lt N _ (lt_of_aIn h18)).2.2.2.2.1).ln h19) ?_
            cases h
            exact ev_iret rfl (end_u (by show _ ≤ 3; omega) (by show _ ≤ 18; omega)) rfl (Or.inl rfl)
      | inr k16 =>
        obtain ⟨h24, h⟩ := cond_some h
        cases h
        exact ev_callX (h1 := hp N x17) rfl rfl rfl (ok_u rfl (by show u1 + 2 + 1 ≤ 3; omega) (by show u2 + 12 + 6 ≤ 18; omega)) h24 rfl (em92 w11 (by decide) (by decide) x10 _ h14)
    | inr k9 =>
      obtain ⟨h25, h⟩ := cond_some h
      cases h
      exact ev_callX (h1 := hp N x10) rfl rfl rfl (ok_u rfl (by show u1 + 1 + 1 ≤ 3; omega) (by show u2 + 6 + 6 ≤ 18; omega)) h25 rfl (em94 a2 (by decide) (by decide) x5 _ h7)
  | inr k4 =>
    obtain ⟨h26, h⟩ := cond_some h
    cases h
    exact ev_callX (h1 := hp N x5) rfl rfl rfl (ok_u rfl (by show u1 + 1 ≤ 3; omega) (by show u2 + 6 ≤ 18; omega)) h26 rfl (em96 a1 (by decide) (by decide) x _ h2)
def gm87 (a1 : Int32) (x : Hs) : Option ((Int32 ⊕ Nat) × Hs) := (gm96 a1 x).bind fun w1 => match w1 with | (.inl _, x5) => (cond (aIn a1 4) (cond (aIn a1 4) ((gm13 ((60 + 8 * xi a1) + 1) ((60 + 8 * xi a1) + 2) x5).bind fun w8 => (cond (aBit w8) (some (.inl w8, x5)) none)) none) none) | (.inr k4, x5) => (cond (Nat.blt k4 3) (some (.inr k4, x5)) none)
theorem em87 {N : Nat} {u1 u2 : Nat} (a1 : Int32) (hu1 : u1 + 1 ≤ 1) (hu2 : u2 + 6 ≤ 6) (x : Hs) (r : (Int32 ⊕ Nat) × Hs) (h : gm87 a1 x = some r) : Ev 87 (u1, u2) (0, aPad [.ref 1, .int a1] 2, []) (hp N x) (cvXi N r) := by
  show Ev 87 (u1, u2) (0, [some (.ref 1), some (.int a1)], []) (hp N x) _
  unfold gm87 at h
  refine ev_run (n := 2) (u' := (u1, u2)) (f' := (2, [some (.ref 1), some (.int a1)], [.int a1, .ref 1])) (h' := hp N x) rfl ?_
  obtain ⟨w1, h2, h⟩ := bind_ok h
  obtain ⟨w1, x5⟩ := w1
  cases w1 with
  | inl v3 =>
    refine ev_call (v := none) (h1 := hp N x5) rfl rfl rfl (ok_u rfl (by show u1 + 1 ≤ 1; omega) (by show u2 + 6 ≤ 6; omega)) (em96 a1 (by decide) (by decide) x _ h2) ?_
    show Ev 87 (u1 + 1, u2 + 6) (5, [some (.ref 1), some (.int a1)], []) (hp N x5) _
    refine ev_run (n := 5) (u' := (u1 + 1, u2 + 6)) (f' := (14, [some (.ref 1), some (.int a1)], [.int a1, .ref 59, .ref 2])) (h' := hp N x5) rfl ?_
    obtain ⟨h6, h⟩ := cond_some h
    refine ev_aald rfl rfl h6 (rf_59 h6) ?_
    refine ev_gfr rfl rfl (RG_lt N _ (lt_of_aIn h6)).1 ((RG_lt N _ (lt_of_aIn h6)).fd (by decide) (by decide)) ?_
    refine ev_run (n := 3) (u' := (u1 + 1, u2 + 6)) (f' := (23, [some (.ref 1), some (.int a1)], [.int a1, .ref 59, .ref ((60 + 8 * xi a1) + 1), .ref 2])) (h' := hp N x5) rfl ?_
    obtain ⟨h7, h⟩ := cond_some h
    refine ev_aald rfl rfl h7 (rf_59 h7) ?_
    refine ev_gfr rfl rfl (RG_lt N _ (lt_of_aIn h7)).1 ((RG_lt N _ (lt_of_aIn h7)).fd (by decide) (by decide)) ?_
    obtain ⟨w8, h9, h⟩ := bind_ok h
    refine ev_call (v := some (.int w8)) (h1 := hp N x5) rfl rfl rfl (ok_u rfl (by show u1 + 1 + 0 ≤ 1; omega) (by show u2 + 6 + 0 ≤ 6; omega)) (em13 ((60 + 8 * xi a1) + 1) ((60 + 8 * xi a1) + 2) ((RG_lt N _ (lt_of_aIn h6)).2.2.1) ((RG_lt N _ (lt_of_aIn h7)).2.2.2.1) x5 _ h9) ?_
    show Ev 87 (u1 + 1, u2 + 6) (30, [some (.ref 1), some (.int a1)], [.int w8]) (hp N x5) _
    obtain ⟨h10, h⟩ := cond_some h
    cases h
    exact ev_iret rfl (end_u (by show _ ≤ 1; omega) (by show _ ≤ 6; omega)) rfl (Or.inr ⟨rfl, h10⟩)
  | inr k4 =>
    obtain ⟨h11, h⟩ := cond_some h
    cases h
    exact ev_callX (h1 := hp N x5) rfl rfl rfl (ok_u rfl (by show u1 + 1 ≤ 1; omega) (by show u2 + 6 ≤ 6; omega)) h11 rfl (em96 a1 (by decide) (by decide) x _ h2)
def gm88_44 (s0 : Int32) (s1 : Int32) (x : Hs) : Option ((Int32 ⊕ Nat) × Hs) := some (.inl (s0 + s1), x)
theorem em88_44 {N : Nat} {u1 u2 : Nat} (a2 : Nat) (s0 : Int32) (s1 : Int32) (fa2 : RO N a2) (hu1 : u1 + 0 ≤ 1) (hu2 : u2 + 0 ≤ 6) (x : Hs) (r : (Int32 ⊕ Nat) × Hs) (h : gm88_44 s0 s1 x = some r) : Ev 88 (u1, u2) (44, [none, none, some (.ref a2)], [.int s1, .int s0]) (hp N x) (cvXi N r) := by
  unfold gm88_44 at h
  refine ev_run (n := 1) (u' := (u1, u2)) (f' := (45, [none, none, some (.ref a2)], [.int (s0 + s1)])) (h' := hp N x) rfl ?_
  cases h
  exact ev_iret rfl (end_u (by show _ ≤ 1; omega) (by show _ ≤ 6; omega)) rfl (Or.inl rfl)
theorem em88_44_k1 {N : Nat} {u1 u2 : Nat} (s0 : Int32) (s1 : Int32) (hu1 : u1 + 0 ≤ 1) (hu2 : u2 + 0 ≤ 6) (x : Hs) (r : (Int32 ⊕ Nat) × Hs) (h : gm88_44 s0 s1 x = some r) : Ev 88 (u1, u2) (44, [none, none, none], [.int s1, .int s0]) (hp N x) (cvXi N r) := by
  unfold gm88_44 at h
  refine ev_run (n := 1) (u' := (u1, u2)) (f' := (45, [none, none, none], [.int (s0 + s1)])) (h' := hp N x) rfl ?_
  cases h
  exact ev_iret rfl (end_u (by show _ ≤ 1; omega) (by show _ ≤ 6; omega)) rfl (Or.inl rfl)
def gm88 (a1 : Int32) (x : Hs) : Option ((Int32 ⊕ Nat) × Hs) := (gm94 a1 x).bind fun w1 => match w1 with | (.inl _, x5) => (cond (aIn a1 5) (if x5.1 (93 + xi a1) 0 = (-1) then (some (.inl (-1), x5)) else (if x5.1 (93 + xi a1) 3 = 0 then (gm88_44 (10 * x5.1 (93 + xi a1) 0) (x5.1 (93 + xi a1) 1) x5) else (gm88_44 (10 * x5.1 (93 + xi a1) 0) 4 x5))) none) | (.inr k4, x5) => (cond (Nat.blt k4 3) (some (.inr k4, x5)) none)
theorem em88 {N : Nat} {u1 u2 : Nat} (a1 : Int32) (hu1 : u1 + 1 ≤ 1) (hu2 : u2 + 6 ≤ 6) (x : Hs) (r : (Int32 ⊕ Nat) × Hs) (h : gm88 a1 x = some r) : Ev 88 (u1, u2) (0, aPad [.ref 1, .int a1] 3, []) (hp N x) (cvXi N r) := by
  show Ev 88 (u1, u2) (0, [some (.ref 1), some (.int a1), none], []) (hp N x) _
  unfold gm88 at h
  refine ev_run (n := 2) (u' := (u1, u2)) (f' := (2, [some (.ref 1), some (.int a1), none], [.int a1, .ref 1])) (h' := hp N x) rfl ?_
  obtain ⟨w1, h2, h⟩ := bind_ok h
  obtain ⟨w1, x5⟩ := w1
  cases w1 with
  | inl v3 =>
    refine ev_call (v := none) (h1 := hp N x5) rfl rfl rfl (ok_u rfl (by show u1 + 1 ≤ 1; omega) (by show u2 + 6 ≤ 6; omega)) (em94 a1 (by decide) (by decide) x _ h2) ?_
    show Ev 88 (u1 + 1, u2 + 6) (5, [some (.ref 1), some (.int a1), none], []) (hp N x5) _
    refine ev_run (n := 3) (u' := (u1 + 1, u2 + 6)) (f' := (10, [some (.ref 1), some (.int a1), none], [.int a1, .ref 92])) (h' := hp N x5) rfl ?_
    obtain ⟨h6, h⟩ := cond_some h
    refine ev_aald rfl rfl h6 (rf_92 h6) ?_
    refine ev_run (n := 2) (u' := (u1 + 1, u2 + 6)) (f' := (13, [some (.ref 1), some (.int a1), some (.ref (93 + xi a1))], [.ref (93 + xi a1)])) (h' := hp N x5) rfl ?_
    refine ev_gfi rfl rfl (RO_lt N _ (lt_of_aIn h6)) ?_
    refine ev_run (n := 1) (u' := (u1 + 1, u2 + 6)) (f' := (17, [some (.ref 1), some (.int a1), some (.ref (93 + xi a1))], [.int (-1), .int (x5.1 (93 + xi a1) 0)])) (h' := hp N x5) rfl ?_
    rcases ite_or h with ⟨h8, h⟩ | ⟨h8, h⟩
    · refine ev_icf rfl (decide_eq_false (fun w => w h8)) ?_
      refine ev_run (n := 1) (u' := (u1 + 1, u2 + 6)) (f' := (21, [some (.ref 1), some (.int a1), some (.ref (93 + xi a1))], [.int (-1)])) (h' := hp N x5) rfl ?_
      cases h
      exact ev_iret rfl (end_u (by show _ ≤ 1; omega) (by show _ ≤ 6; omega)) rfl (Or.inl rfl)
    · refine ev_ict rfl (decide_eq_true h8) ?_
      refine ev_run (n := 2) (u' := (u1 + 1, u2 + 6)) (f' := (25, [none, none, some (.ref (93 + xi a1))], [.ref (93 + xi a1), .int 10])) (h' := hp N x5) rfl ?_
      refine ev_gfi rfl rfl (RO_lt N _ (lt_of_aIn h6)) ?_
      refine ev_run (n := 2) (u' := (u1 + 1, u2 + 6)) (f' := (30, [none, none, some (.ref (93 + xi a1))], [.ref (93 + xi a1), .int (10 * x5.1 (93 + xi a1) 0)])) (h' := hp N x5) rfl ?_
      refine ev_gfi rfl rfl (RO_lt N _ (lt_of_aIn h6)) ?_
      rcases ite_or h with ⟨h7, h⟩ | ⟨h7, h⟩
      · refine ev_ift rfl (decide_eq_true h7) ?_
        refine ev_run (n := 1) (u' := (u1 + 1, u2 + 6)) (f' := (41, [none, none, some (.ref (93 + xi a1))], [.ref (93 + xi a1), .int (10 * x5.1 (93 + xi a1) 0)])) (h' := hp N x5) rfl ?_
        refine ev_gfi rfl rfl (RO_lt N _ (lt_of_aIn h6)) ?_
        exact em88_44 (93 + xi a1) (10 * x5.1 (93 + xi a1) 0) (x5.1 (93 + xi a1) 1) (RO_lt N _ (lt_of_aIn h6)) (by omega) (by omega) x5 _ h
      · refine ev_iff rfl (decide_eq_false h7) ?_
        refine ev_run (n := 2) (u' := (u1 + 1, u2 + 6)) (f' := (44, [none, none, none], [.int 4, .int (10 * x5.1 (93 + xi a1) 0)])) (h' := hp N x5) rfl ?_
        exact em88_44_k1 (10 * x5.1 (93 + xi a1) 0) 4 (by omega) (by omega) x5 _ h
  | inr k4 =>
    obtain ⟨h9, h⟩ := cond_some h
    cases h
    exact ev_callX (h1 := hp N x5) rfl rfl rfl (ok_u rfl (by show u1 + 1 ≤ 1; omega) (by show u2 + 6 ≤ 6; omega)) h9 rfl (em94 a1 (by decide) (by decide) x _ h2)
def gm89 (a1 : Int32) (a2 : Int32) (x : Hs) : Option ((Int32 ⊕ Nat) × Hs) := (gm96 a1 x).bind fun w1 => match w1 with | (.inl _, x5) => ((gm95 a2 x5).bind fun w6 => match w6 with | (.inl _, x10) => (cond (aIn a1 4) ((gm38 ((60 + 8 * xi a1) + 1) a2 x10).bind fun w12 => (some (.inl w12.1, w12.2))) none) | (.inr k9, x10) => (cond (Nat.blt k9 3) (some (.inr k9, x10)) none)) | (.inr k4, x5) => (cond (Nat.blt k4 3) (some (.inr k4, x5)) none)
theorem em89 {N : Nat} {u1 u2 : Nat} (a1 : Int32) (a2 : Int32) (hu1 : u1 + 2 ≤ 2) (hu2 : u2 + 12 ≤ 12) (x : Hs) (r : (Int32 ⊕ Nat) × Hs) (h : gm89 a1 a2 x = some r) : Ev 89 (u1, u2) (0, aPad [.ref 1, .int a1, .int a2] 3, []) (hp N x) (cvXi N r) := by
  show Ev 89 (u1, u2) (0, [some (.ref 1), some (.int a1), some (.int a2)], []) (hp N x) _
  unfold gm89 at h
  refine ev_run (n := 2) (u' := (u1, u2)) (f' := (2, [some (.ref 1), some (.int a1), some (.int a2)], [.int a1, .ref 1])) (h' := hp N x) rfl ?_
  obtain ⟨w1, h2, h⟩ := bind_ok h
  obtain ⟨w1, x5⟩ := w1
  cases w1 with
  | inl v3 =>
    refine ev_call (v := none) (h1 := hp N x5) rfl rfl rfl (ok_u rfl (by show u1 + 1 ≤ 2; omega) (by show u2 + 6 ≤ 12; omega)) (em96 a1 (by decide) (by decide) x _ h2) ?_
    show Ev 89 (u1 + 1, u2 + 6) (5, [some (.ref 1), some (.int a1), some (.int a2)], []) (hp N x5) _
    refine ev_run (n := 2) (u' := (u1 + 1, u2 + 6)) (f' := (7, [some (.ref 1), some (.int a1), some (.int a2)], [.int a2, .ref 1])) (h' := hp N x5) rfl ?_
    obtain ⟨w6, h7, h⟩ := bind_ok h
    obtain ⟨w6, x10⟩ := w6
    cases w6 with
    | inl v8 =>
      refine ev_call (v := none) (h1 := hp N x10) rfl rfl rfl (ok_u rfl (by show u1 + 1 + 1 ≤ 2; omega) (by show u2 + 6 + 6 ≤ 12; omega)) (em95 a2 (by decide) (by decide) x5 _ h7) ?_
      show Ev 89 (u1 + 2, u2 + 12) (10, [some (.ref 1), some (.int a1), some (.int a2)], []) (hp N x10) _
      refine ev_run (n := 5) (u' := (u1 + 2, u2 + 12)) (f' := (19, [some (.ref 1), some (.int a1), some (.int a2)], [.int a1, .ref 59, .ref 130])) (h' := hp N x10) rfl ?_
      obtain ⟨h11, h⟩ := cond_some h
      refine ev_aald rfl rfl h11 (rf_59 h11) ?_
      refine ev_gfr rfl rfl (RG_lt N _ (lt_of_aIn h11)).1 ((RG_lt N _ (lt_of_aIn h11)).fd (by decide) (by decide)) ?_
      refine ev_run (n := 1) (u' := (u1 + 2, u2 + 12)) (f' := (24, [some (.ref 1), some (.int a1), some (.int a2)], [.int a2, .ref ((60 + 8 * xi a1) + 1), .ref 130])) (h' := hp N x10) rfl ?_
      obtain ⟨w12, h13, h⟩ := bind_ok h
      refine ev_call (v := some (.int w12.1)) (h1 := hp N w12.2) rfl rfl rfl (ok_u rfl (by show u1 + 2 + 0 ≤ 2; omega) (by show u2 + 12 + 0 ≤ 12; omega)) (em38 ((60 + 8 * xi a1) + 1) a2 ((RG_lt N _ (lt_of_aIn h11)).2.2.1) x10 _ h13) ?_
      show Ev 89 (u1 + 2, u2 + 12) (27, [some (.ref 1), some (.int a1), some (.int a2)], [.int w12.1]) (hp N w12.2) _
      cases h
      exact ev_iret rfl (end_u (by show _ ≤ 2; omega) (by show _ ≤ 12; omega)) rfl (Or.inl rfl)
    | inr k9 =>
      obtain ⟨h14, h⟩ := cond_some h
      cases h
      exact ev_callX (h1 := hp N x10) rfl rfl rfl (ok_u rfl (by show u1 + 1 + 1 ≤ 2; omega) (by show u2 + 6 + 6 ≤ 12; omega)) h14 rfl (em95 a2 (by decide) (by decide) x5 _ h7)
  | inr k4 =>
    obtain ⟨h15, h⟩ := cond_some h
    cases h
    exact ev_callX (h1 := hp N x5) rfl rfl rfl (ok_u rfl (by show u1 + 1 ≤ 2; omega) (by show u2 + 6 ≤ 12; omega)) h15 rfl (em96 a1 (by decide) (by decide) x _ h2)
def gm90 (a1 : Int32) (x : Hs) : Option ((Int32 ⊕ Nat) × Hs) := (gm91 a1 (x.1 130 12) x).bind fun w1 => match w1 with | (.inl _, x5) => ((gm39 a1 x5).bind fun w6 => (some (.inl w6, x5))) | (.inr k4, x5) => (cond (Nat.blt k4 3) (some (.inr k4, x5)) none)
theorem em90 {N : Nat} {u1 u2 : Nat} (a1 : Int32) (hu1 : u1 + 1 ≤ 1) (hu2 : u2 + 6 ≤ 6) (x : Hs) (r : (Int32 ⊕ Nat) × Hs) (h : gm90 a1 x = some r) : Ev 90 (u1, u2) (0, aPad [.ref 1, .int a1] 2, []) (hp N x) (cvXi N r) := by
  show Ev 90 (u1, u2) (0, [some (.ref 1), some (.int a1)], []) (hp N x) _
  unfold gm90 at h
  refine ev_run (n := 4) (u' := (u1, u2)) (f' := (8, [some (.ref 1), some (.int a1)], [.int (x.1 130 12), .int a1])) (h' := hp N x) rfl ?_
  obtain ⟨w1, h2, h⟩ := bind_ok h
  obtain ⟨w1, x5⟩ := w1
  cases w1 with
  | inl v3 =>
    refine ev_call (v := none) (h1 := hp N x5) rfl rfl rfl (ok_u rfl (by show u1 + 1 ≤ 1; omega) (by show u2 + 6 ≤ 6; omega)) (em91 a1 (x.1 130 12) (by decide) (by decide) x _ h2) ?_
    show Ev 90 (u1 + 1, u2 + 6) (11, [some (.ref 1), some (.int a1)], []) (hp N x5) _
    refine ev_run (n := 3) (u' := (u1 + 1, u2 + 6)) (f' := (16, [some (.ref 1), some (.int a1)], [.int a1, .ref 130])) (h' := hp N x5) rfl ?_
    obtain ⟨w6, h7, h⟩ := bind_ok h
    refine ev_call (v := some (.int w6)) (h1 := hp N x5) rfl rfl rfl (ok_u rfl (by show u1 + 1 + 0 ≤ 1; omega) (by show u2 + 6 + 0 ≤ 6; omega)) (em39 a1 x5 _ h7) ?_
    show Ev 90 (u1 + 1, u2 + 6) (19, [some (.ref 1), some (.int a1)], [.int w6]) (hp N x5) _
    cases h
    exact ev_iret rfl (end_u (by show _ ≤ 1; omega) (by show _ ≤ 6; omega)) rfl (Or.inl rfl)
  | inr k4 =>
    obtain ⟨h8, h⟩ := cond_some h
    cases h
    exact ev_callX (h1 := hp N x5) rfl rfl rfl (ok_u rfl (by show u1 + 1 ≤ 1; omega) (by show u2 + 6 ≤ 6; omega)) h8 rfl (em91 a1 (x.1 130 12) (by decide) (by decide) x _ h2)
def gm112 (x : Hs) : Option (Int32) := some (x.1 138 57)
theorem em112 {N : Nat} (x : Hs) (r : Int32) (h : gm112 x = some r) : Ev 112 (0, 0) (0, aPad [.ref 138] 1, []) (hp N x) (cvPi N x r) := by
  show Ev 112 (0, 0) (0, [some (.ref 138)], []) (hp N x) _
  unfold gm112 at h
  refine ev_run (n := 2) (u' := (0, 0)) (f' := (4, [some (.ref 138)], [.int (x.1 138 57)])) (h' := hp N x) rfl ?_
  cases h
  exact ev_iret rfl rfl rfl (Or.inl rfl)
def gm113 (a1 : Int32) (x : Hs) : Option (Int32 × Hs) := if a1 ≤ 0 then (some (0, (wI x 138 57 a1))) else (some (1, (wI x 138 57 a1)))
theorem em113 {N : Nat} (a1 : Int32) (x : Hs) (r : Int32 × Hs) (h : gm113 a1 x = some r) : Ev 113 (0, 0) (0, aPad [.ref 138, .int a1] 2, []) (hp N x) (cvMi N r) := by
  show Ev 113 (0, 0) (0, [some (.ref 138), some (.int a1)], []) (hp N x) _
  unfold gm113 at h
  refine ev_run (n := 4) (u' := (0, 0)) (f' := (6, [some (.ref 138), some (.int a1)], [.int a1])) (h' := hp N (wI x 138 57 a1)) rfl ?_
  rcases ite_or h with ⟨h1, h⟩ | ⟨h1, h⟩
  · refine ev_ift rfl (decide_eq_true h1) ?_
    refine ev_run (n := 1) (u' := (0, 0)) (f' := (14, [none, none], [.int 0])) (h' := hp N (wI x 138 57 a1)) rfl ?_
    cases h
    exact ev_iret rfl rfl rfl (Or.inr ⟨rfl, rfl⟩)
  · refine ev_iff rfl (decide_eq_false h1) ?_
    refine ev_run (n := 2) (u' := (0, 0)) (f' := (14, [none, none], [.int 1])) (h' := hp N (wI x 138 57 a1)) rfl ?_
    cases h
    exact ev_iret rfl rfl rfl (Or.inr ⟨rfl, rfl⟩)
def gm114 (a0 : Int32) (a1 : Int32) (a2 : Int32) (x : Hs) : Option (Int32) := if a0 < a1 then (some 0) else (if a0 > a2 then (some 0) else (some 1))
theorem em114 {N : Nat} (a0 : Int32) (a1 : Int32) (a2 : Int32) (x : Hs) (r : Int32) (h : gm114 a0 a1 a2 x = some r) : Ev 114 (0, 0) (0, aPad [.int a0, .int a1, .int a2] 3, []) (hp N x) (cvPi N x r) := by
  show Ev 114 (0, 0) (0, [some (.int a0), some (.int a1), some (.int a2)], []) (hp N x) _
  unfold gm114 at h
  refine ev_run (n := 2) (u' := (0, 0)) (f' := (2, [some (.int a0), some (.int a1), some (.int a2)], [.int a1, .int a0])) (h' := hp N x) rfl ?_
  rcases ite_or h with ⟨h2, h⟩ | ⟨h2, h⟩
  · refine ev_ict rfl (decide_eq_true h2) ?_
    refine ev_run (n := 1) (u' := (0, 0)) (f' := (15, [none, none, none], [.int 0])) (h' := hp N x) rfl ?_
    cases h
    exact ev_iret rfl rfl rfl (Or.inr ⟨rfl, rfl⟩)
  · refine ev_icf rfl (decide_eq_false h2) ?_
    refine ev_run (n := 2) (u' := (0, 0)) (f' := (7, [some (.int a0), some (.int a1), some (.int a2)], [.int a2, .int a0])) (h' := hp N x) rfl ?_
    rcases ite_or h with ⟨h1, h⟩ | ⟨h1, h⟩
    · refine ev_ict rfl (decide_eq_true h1) ?_
      refine ev_run (n := 1) (u' := (0, 0)) (f' := (15, [none, none, none], [.int 0])) (h' := hp N x) rfl ?_
      cases h
      exact ev_iret rfl rfl rfl (Or.inr ⟨rfl, rfl⟩)
    · refine ev_icf rfl (decide_eq_false h1) ?_
      refine ev_run (n := 2) (u' := (0, 0)) (f' := (15, [none, none, none], [.int 1])) (h' := hp N x) rfl ?_
      cases h
      exact ev_iret rfl rfl rfl (Or.inr ⟨rfl, rfl⟩)
def gm115 (a0 : Int32) (a1 : Int32) (x : Hs) : Option (Int32) := if ((a0 >>> (a1 &&& 31)) &&& 1) = 1 then (some 1) else (some 0)
theorem em115 {N : Nat} (a0 : Int32) (a1 : Int32) (x : Hs) (r : Int32) (h : gm115 a0 a1 x = some r) : Ev 115 (0, 0) (0, aPad [.int a0, .int a1] 2, []) (hp N x) (cvPi N x r) := by
  show Ev 115 (0, 0) (0, [some (.int a0), some (.int a1)], []) (hp N x) _
  unfold gm115 at h
  refine ev_run (n := 6) (u' := (0, 0)) (f' := (6, [some (.int a0), some (.int a1)], [.int 1, .int ((a0 >>> (a1 &&& 31)) &&& 1)])) (h' := hp N x) rfl ?_
  rcases ite_or h with ⟨h1, h⟩ | ⟨h1, h⟩
  · refine ev_icf rfl (decide_eq_false (fun w => w h1)) ?_
    refine ev_run (n := 2) (u' := (0, 0)) (f' := (14, [none, none], [.int 1])) (h' := hp N x) rfl ?_
    cases h
    exact ev_iret rfl rfl rfl (Or.inr ⟨rfl, rfl⟩)
  · refine ev_ict rfl (decide_eq_true h1) ?_
    refine ev_run (n := 1) (u' := (0, 0)) (f' := (14, [none, none], [.int 0])) (h' := hp N x) rfl ?_
    cases h
    exact ev_iret rfl rfl rfl (Or.inr ⟨rfl, rfl⟩)
def gm116_4 : Nat → Int32 → Int32 → Int32 → Hs → Option (Int32)
  | 0, _, _, _, _ => none
  | n + 1, a0, a1, a2, x => if a2 ≥ 24 then (some a1) else (gm116_4 n a0 (a1 + ((a0 >>> (a2 &&& 31)) &&& 1)) (a2 + 1) x)
theorem em116_4 {N : Nat} : ∀ (n : Nat) (a0 : Int32) (a1 : Int32) (a2 : Int32) (x : Hs) (r : Int32), gm116_4 n a0 a1 a2 x = some r → Ev 116 (0, 0) (4, [some (.int a0), some (.int a1), some (.int a2)], []) (hp N x) (cvPi N x r)
  | 0, a0, a1, a2, x, r, h => by
    have e9 : (none : Option (Int32)) = some r := h
    cases e9
  | n + 1, a0, a1, a2, x, r, h => by
    have q4 := em116_4 (N := N) n
    rw [gm116_4] at h
    refine ev_run (n := 2) (u' := (0, 0)) (f' := (7, [some (.int a0), some (.int a1), some (.int a2)], [.int 24, .int a2])) (h' := hp N x) rfl ?_
    rcases ite_or h with ⟨h1, h⟩ | ⟨h1, h⟩
    · refine ev_ict rfl (decide_eq_true h1) ?_
      refine ev_run (n := 1) (u' := (0, 0)) (f' := (25, [none, some (.int a1), none], [.int a1])) (h' := hp N x) rfl ?_
      cases h
      exact ev_iret rfl rfl rfl (Or.inl rfl)
    · refine ev_icf rfl (decide_eq_false h1) ?_
      refine ev_run (n := 10) (u' := (0, 0)) (f' := (4, [some (.int a0), some (.int (a1 + ((a0 >>> (a2 &&& 31)) &&& 1))), some (.int (a2 + 1))], [])) (h' := hp N x) rfl ?_
      exact q4 a0 (a1 + ((a0 >>> (a2 &&& 31)) &&& 1)) (a2 + 1) x _ h
def gm116 (a0 : Int32) (x : Hs) : Option (Int32) := gm116_4 FU a0 0 0 x
theorem em116 {N : Nat} (a0 : Int32) (x : Hs) (r : Int32) (h : gm116 a0 x = some r) : Ev 116 (0, 0) (0, aPad [.int a0] 3, []) (hp N x) (cvPi N x r) := by
  show Ev 116 (0, 0) (0, [some (.int a0), none, none], []) (hp N x) _
  unfold gm116 at h
  refine ev_run (n := 4) (u' := (0, 0)) (f' := (4, [some (.int a0), some (.int 0), some (.int 0)], [])) (h' := hp N x) rfl ?_
  exact em116_4 FU a0 0 0 x _ h
def gm117 (a1 : Int32) (x : Hs) : Option (Int32) := (gm114 a1 0 (x.1 138 1 - 1) x).bind fun w1 => (cond (aBit w1) (some w1) none)
theorem em117 {N : Nat} (a1 : Int32) (x : Hs) (r : Int32) (h : gm117 a1 x = some r) : Ev 117 (0, 0) (0, aPad [.ref 138, .int a1] 2, []) (hp N x) (cvPi N x r) := by
  show Ev 117 (0, 0) (0, [some (.ref 138), some (.int a1)], []) (hp N x) _
  unfold gm117 at h
  refine ev_run (n := 6) (u' := (0, 0)) (f' := (8, [some (.ref 138), some (.int a1)], [.int (x.1 138 1 - 1), .int 0, .int a1])) (h' := hp N x) rfl ?_
  obtain ⟨w1, h2, h⟩ := bind_ok h
  refine ev_call (v := some (.int w1)) (h1 := hp N x) rfl rfl rfl rfl (em114 a1 0 (x.1 138 1 - 1) x _ h2) ?_
  show Ev 117 (0, 0) (11, [some (.ref 138), some (.int a1)], [.int w1]) (hp N x) _
  obtain ⟨h3, h⟩ := cond_some h
  cases h
  exact ev_iret rfl rfl rfl (Or.inr ⟨rfl, h3⟩)
def gm118 (a1 : Int32) (x : Hs) : Option (Int32) := (gm114 a1 0 (x.1 138 3 - 1) x).bind fun w1 => (cond (aBit w1) (some w1) none)
theorem em118 {N : Nat} (a1 : Int32) (x : Hs) (r : Int32) (h : gm118 a1 x = some r) : Ev 118 (0, 0) (0, aPad [.ref 138, .int a1] 2, []) (hp N x) (cvPi N x r) := by
  show Ev 118 (0, 0) (0, [some (.ref 138), some (.int a1)], []) (hp N x) _
  unfold gm118 at h
  refine ev_run (n := 6) (u' := (0, 0)) (f' := (8, [some (.ref 138), some (.int a1)], [.int (x.1 138 3 - 1), .int 0, .int a1])) (h' := hp N x) rfl ?_
  obtain ⟨w1, h2, h⟩ := bind_ok h
  refine ev_call (v := some (.int w1)) (h1 := hp N x) rfl rfl rfl rfl (em114 a1 0 (x.1 138 3 - 1) x _ h2) ?_
  show Ev 118 (0, 0) (11, [some (.ref 138), some (.int a1)], [.int w1]) (hp N x) _
  obtain ⟨h3, h⟩ := cond_some h
  cases h
  exact ev_iret rfl rfl rfl (Or.inr ⟨rfl, h3⟩)
def gm119 (a0 : Int32) (x : Hs) : Option (Int32) := (gm114 a0 0 3 x).bind fun w1 => (cond (aBit w1) (some w1) none)
theorem em119 {N : Nat} (a0 : Int32) (x : Hs) (r : Int32) (h : gm119 a0 x = some r) : Ev 119 (0, 0) (0, aPad [.int a0] 1, []) (hp N x) (cvPi N x r) := by
  show Ev 119 (0, 0) (0, [some (.int a0)], []) (hp N x) _
  unfold gm119 at h
  refine ev_run (n := 3) (u' := (0, 0)) (f' := (3, [some (.int a0)], [.int 3, .int 0, .int a0])) (h' := hp N x) rfl ?_
  obtain ⟨w1, h2, h⟩ := bind_ok h
  refine ev_call (v := some (.int w1)) (h1 := hp N x) rfl rfl rfl rfl (em114 a0 0 3 x _ h2) ?_
  show Ev 119 (0, 0) (6, [some (.int a0)], [.int w1]) (hp N x) _
  obtain ⟨h3, h⟩ := cond_some h
  cases h
  exact ev_iret rfl rfl rfl (Or.inr ⟨rfl, h3⟩)
def gm120_14 (s1 : Int32) (x : Hs) : Option (Int32 × Hs) := (gm113 s1 x).bind fun w2 => (if w2.1 = 0 then (some (((wI w2.2 138 1 (w2.2.1 138 1 + 1)).1 138 1 - 1), (wI w2.2 138 1 (w2.2.1 138 1 + 1)))) else (some (0, w2.2)))
theorem em120_14 {N : Nat} (s1 : Int32) (x : Hs) (r : Int32 × Hs) (h : gm120_14 s1 x = some r) : Ev 120 (0, 0) (14, [some (.ref 138)], [.int s1, .ref 138]) (hp N x) (cvMi N r) := by
  unfold gm120_14 at h
  obtain ⟨w2, h3, h⟩ := bind_ok h
  refine ev_call (v := some (.int w2.1)) (h1 := hp N w2.2) rfl rfl rfl rfl (em113 s1 x _ h3) ?_
  show Ev 120 (0, 0) (17, [some (.ref 138)], [.int w2.1]) (hp N w2.2) _
  rcases ite_or h with ⟨h4, h⟩ | ⟨h4, h⟩
  · refine ev_ift rfl (decide_eq_true h4) ?_
    refine ev_run (n := 10) (u' := (0, 0)) (f' := (38, [some (.ref 138)], [.int ((wI w2.2 138 1 (w2.2.1 138 1 + 1)).1 138 1 - 1)])) (h' := hp N (wI w2.2 138 1 (w2.2.1 138 1 + 1))) rfl ?_
    cases h
    exact ev_iret rfl rfl rfl (Or.inl rfl)
  · refine ev_iff rfl (decide_eq_false h4) ?_
    refine ev_run (n := 1) (u' := (0, 0)) (f' := (21, [some (.ref 138)], [.int 0])) (h' := hp N w2.2) rfl ?_
    cases h
    exact ev_iret rfl rfl rfl (Or.inl rfl)
def gm120 (x : Hs) : Option (Int32 × Hs) := if x.1 138 1 = 5 then (gm120_14 1 x) else (gm120_14 0 x)
theorem em120 {N : Nat} (x : Hs) (r : Int32 × Hs) (h : gm120 x = some r) : Ev 120 (0, 0) (0, aPad [.ref 138] 1, []) (hp N x) (cvMi N r) := by
  show Ev 120 (0, 0) (0, [some (.ref 138)], []) (hp N x) _
  unfold gm120 at h
  refine ev_run (n := 4) (u' := (0, 0)) (f' := (6, [some (.ref 138)], [.int 5, .int (x.1 138 1), .ref 138])) (h' := hp N x) rfl ?_
  rcases ite_or h with ⟨h1, h⟩ | ⟨h1, h⟩
  · refine ev_icf rfl (decide_eq_false (fun w => w h1)) ?_
    refine ev_run (n := 2) (u' := (0, 0)) (f' := (14, [some (.ref 138)], [.int 1, .ref 138])) (h' := hp N x) rfl ?_
    exact em120_14 1 x _ h
  · refine ev_ict rfl (decide_eq_true h1) ?_
    refine ev_run (n := 1) (u' := (0, 0)) (f' := (14, [some (.ref 138)], [.int 0, .ref 138])) (h' := hp N x) rfl ?_
    exact em120_14 0 x _ h
def gm121_31 (k4 : Int32 → Int32 → Int32 → Hs → Option (Int32)) (a1 : Int32) (a3 : Int32) (s0 : Int32) (x : Hs) : Option (Int32) := k4 a1 s0 (a3 + 1) x
theorem em121_31 {N : Nat} (k4 : Int32 → Int32 → Int32 → Hs → Option (Int32)) (q4 : ∀ (a1 : Int32) (a2 : Int32) (a3 : Int32) (x : Hs) (r : Int32), k4 a1 a2 a3 x = some r → Ev 121 (0, 0) (4, [some (.ref 138), some (.int a1), some (.int a2), some (.int a3)], []) (hp N x) (cvPi N x r)) (a1 : Int32) (a3 : Int32) (s0 : Int32) (x : Hs) (r : Int32) (h : gm121_31 k4 a1 a3 s0 x = some r) : Ev 121 (0, 0) (31, [some (.ref 138), some (.int a1), none, some (.int a3)], [.int s0]) (hp N x) (cvPi N x r) := by
  unfold gm121_31 at h
  refine ev_run (n := 3) (u' := (0, 0)) (f' := (4, [some (.ref 138), some (.int a1), some (.int s0), some (.int (a3 + 1))], [])) (h' := hp N x) rfl ?_
  exact q4 a1 s0 (a3 + 1) x _ h
def gm121_26 (k4 : Int32 → Int32 → Int32 → Hs → Option (Int32)) (a1 : Int32) (a3 : Int32) (x : Hs) : Option (Int32) := gm121_31 k4 a1 a3 1 x
theorem em121_26 {N : Nat} (k4 : Int32 → Int32 → Int32 → Hs → Option (Int32)) (q4 : ∀ (a1 : Int32) (a2 : Int32) (a3 : Int32) (x : Hs) (r : Int32), k4 a1 a2 a3 x = some r → Ev 121 (0, 0) (4, [some (.ref 138), some (.int a1), some (.int a2), some (.int a3)], []) (hp N x) (cvPi N x r)) (a1 : Int32) (a3 : Int32) (x : Hs) (r : Int32) (h : gm121_26 k4 a1 a3 x = some r) : Ev 121 (0, 0) (26, [some (.ref 138), some (.int a1), none, some (.int a3)], []) (hp N x) (cvPi N x r) := by
  unfold gm121_26 at h
  refine ev_run (n := 2) (u' := (0, 0)) (f' := (31, [some (.ref 138), some (.int a1), none, some (.int a3)], [.int 1])) (h' := hp N x) rfl ?_
  exact em121_31 k4 q4 a1 a3 1 x _ h
theorem em121_26_k1 {N : Nat} (k4 : Int32 → Int32 → Int32 → Hs → Option (Int32)) (q4 : ∀ (a1 : Int32) (a2 : Int32) (a3 : Int32) (x : Hs) (r : Int32), k4 a1 a2 a3 x = some r → Ev 121 (0, 0) (4, [some (.ref 138), some (.int a1), some (.int a2), some (.int a3)], []) (hp N x) (cvPi N x r)) (a1 : Int32) (a2 : Int32) (a3 : Int32) (x : Hs) (r : Int32) (h : gm121_26 k4 a1 a3 x = some r) : Ev 121 (0, 0) (26, [some (.ref 138), some (.int a1), some (.int a2), some (.int a3)], []) (hp N x) (cvPi N x r) := by
  unfold gm121_26 at h
  refine ev_run (n := 2) (u' := (0, 0)) (f' := (31, [some (.ref 138), some (.int a1), none, some (.int a3)], [.int 1])) (h' := hp N x) rfl ?_
  exact em121_31 k4 q4 a1 a3 1 x _ h
def gm121_4 : Nat → Int32 → Int32 → Int32 → Hs → Option (Int32)
  | 0, _, _, _, _ => none
  | n + 1, a1, a2, a3, x => if a3 ≥ x.1 138 3 then (cond (aBit a2) (some a2) none) else (if a2 = 0 then (cond (aIn a3 24) (if x.1 140 (xi a3) = a1 then (gm121_26 (gm121_4 n) a1 a3 x) else (gm121_31 (gm121_4 n) a1 a3 0 x)) none) else (gm121_26 (gm121_4 n) a1 a3 x))
theorem em121_4 {N : Nat} : ∀ (n : Nat) (a1 : Int32) (a2 : Int32) (a3 : Int32) (x : Hs) (r : Int32), gm121_4 n a1 a2 a3 x = some r → Ev 121 (0, 0) (4, [some (.ref 138), some (.int a1), some (.int a2), some (.int a3)], []) (hp N x) (cvPi N x r)
  | 0, a1, a2, a3, x, r, h => by
    have e9 : (none : Option (Int32)) = some r := h
    cases e9
  | n + 1, a1, a2, a3, x, r, h => by
    have q4 := em121_4 (N := N) n
    rw [gm121_4] at h
    refine ev_run (n := 3) (u' := (0, 0)) (f' := (9, [some (.ref 138), some (.int a1), some (.int a2), some (.int a3)], [.int (x.1 138 3), .int a3])) (h' := hp N x) rfl ?_
    rcases ite_or h with ⟨h5, h⟩ | ⟨h5, h⟩
    · refine ev_ict rfl (decide_eq_true h5) ?_
      refine ev_run (n := 1) (u' := (0, 0)) (f' := (39, [none, none, some (.int a2), none], [.int a2])) (h' := hp N x) rfl ?_
      obtain ⟨h1, h⟩ := cond_some h
      cases h
      exact ev_iret rfl rfl rfl (Or.inr ⟨rfl, h1⟩)
    · refine ev_icf rfl (decide_eq_false h5) ?_
      refine ev_run (n := 1) (u' := (0, 0)) (f' := (13, [some (.ref 138), some (.int a1), some (.int a2), some (.int a3)], [.int a2])) (h' := hp N x) rfl ?_
      rcases ite_or h with ⟨h4, h⟩ | ⟨h4, h⟩
      · refine ev_iff rfl (decide_eq_false (fun w => w h4)) ?_
        refine ev_run (n := 3) (u' := (0, 0)) (f' := (21, [some (.ref 138), some (.int a1), some (.int a2), some (.int a3)], [.int a3, .ref 140])) (h' := hp N x) rfl ?_
        obtain ⟨h2, h⟩ := cond_some h
        refine ev_iald rfl rfl h2 ?_
        refine ev_run (n := 1) (u' := (0, 0)) (f' := (23, [some (.ref 138), some (.int a1), some (.int a2), some (.int a3)], [.int a1, .int (x.1 140 (xi a3))])) (h' := hp N x) rfl ?_
        rcases ite_or h with ⟨h3, h⟩ | ⟨h3, h⟩
        · refine ev_icf rfl (decide_eq_false (fun w => w h3)) ?_
          exact em121_26_k1 (gm121_4 n) q4 a1 a2 a3 x _ h
        · refine ev_ict rfl (decide_eq_true h3) ?_
          refine ev_run (n := 1) (u' := (0, 0)) (f' := (31, [some (.ref 138), some (.int a1), none, some (.int a3)], [.int 0])) (h' := hp N x) rfl ?_
          exact em121_31 (gm121_4 n) q4 a1 a3 0 x _ h
      · refine ev_ift rfl (decide_eq_true h4) ?_
        exact em121_26 (gm121_4 n) q4 a1 a3 x _ h
def gm121 (a1 : Int32) (x : Hs) : Option (Int32) := gm121_4 FU a1 0 0 x
theorem em121 {N : Nat} (a1 : Int32) (x : Hs) (r : Int32) (h : gm121 a1 x = some r) : Ev 121 (0, 0) (0, aPad [.ref 138, .int a1] 4, []) (hp N x) (cvPi N x r) := by
  show Ev 121 (0, 0) (0, [some (.ref 138), some (.int a1), none, none], []) (hp N x) _
  unfold gm121 at h
  refine ev_run (n := 4) (u' := (0, 0)) (f' := (4, [some (.ref 138), some (.int a1), some (.int 0), some (.int 0)], [])) (h' := hp N x) rfl ?_
  exact em121_4 FU a1 0 0 x _ h
def gm122_74 (a1 : Int32) (a2 : Int32) (s1 : Int32) (x : Hs) : Option (Int32 × Hs) := (gm113 s1 x).bind fun w19 => (if w19.1 = 0 then (cond (aIn a1 5) (cond (aIn a1 5) (cond (aIn a1 5) ((gm116 ((wI w19.2 139 (xi a1) (w19.2.1 139 (xi a1) ||| (1 <<< (a2 &&& 31)))).1 139 (xi a1)) (wI w19.2 139 (xi a1) (w19.2.1 139 (xi a1) ||| (1 <<< (a2 &&& 31))))).bind fun w24 => (some (w24, (wI w19.2 139 (xi a1) (w19.2.1 139 (xi a1) ||| (1 <<< (a2 &&& 31))))))) none) none) none) else (some (0, w19.2)))
theorem em122_74 {N : Nat} (a1 : Int32) (a2 : Int32) (s1 : Int32) (x : Hs) (r : Int32 × Hs) (h : gm122_74 a1 a2 s1 x = some r) : Ev 122 (0, 0) (74, [some (.ref 138), some (.int a1), some (.int a2), none], [.int s1, .ref 138]) (hp N x) (cvMi N r) := by
  unfold gm122_74 at h
  obtain ⟨w19, h20, h⟩ := bind_ok h
  refine ev_call (v := some (.int w19.1)) (h1 := hp N w19.2) rfl rfl rfl rfl (em113 s1 x _ h20) ?_
  show Ev 122 (0, 0) (77, [some (.ref 138), some (.int a1), some (.int a2), none], [.int w19.1]) (hp N w19.2) _
  rcases ite_or h with ⟨h26, h⟩ | ⟨h26, h⟩
  · refine ev_ift rfl (decide_eq_true h26) ?_
    refine ev_run (n := 4) (u' := (0, 0)) (f' := (88, [some (.ref 138), some (.int a1), some (.int a2), none], [.int a1, .ref 139, .int a1, .ref 139])) (h' := hp N w19.2) rfl ?_
    obtain ⟨h21, h⟩ := cond_some h
    refine ev_iald rfl rfl h21 ?_
    refine ev_run (n := 4) (u' := (0, 0)) (f' := (93, [some (.ref 138), some (.int a1), some (.int a2), none], [.int (w19.2.1 139 (xi a1) ||| (1 <<< (a2 &&& 31))), .int a1, .ref 139])) (h' := hp N w19.2) rfl ?_
    obtain ⟨h22, h⟩ := cond_some h
    refine ev_iast rfl rfl h22 ?_
    show Ev 122 (0, 0) (94, [some (.ref 138), some (.int a1), some (.int a2), none], []) (hp N (wI w19.2 139 (xi a1) (w19.2.1 139 (xi a1) ||| (1 <<< (a2 &&& 31))))) _
    refine ev_run (n := 3) (u' := (0, 0)) (f' := (99, [some (.ref 138), some (.int a1), some (.int a2), none], [.int a1, .ref 139])) (h' := hp N (wI w19.2 139 (xi a1) (w19.2.1 139 (xi a1) ||| (1 <<< (a2 &&& 31))))) rfl ?_
    obtain ⟨h23, h⟩ := cond_some h
    refine ev_iald rfl rfl h23 ?_
    obtain ⟨w24, h25, h⟩ := bind_ok h
    refine ev_call (v := some (.int w24)) (h1 := hp N (wI w19.2 139 (xi a1) (w19.2.1 139 (xi a1) ||| (1 <<< (a2 &&& 31))))) rfl rfl rfl rfl (em116 ((wI w19.2 139 (xi a1) (w19.2.1 139 (xi a1) ||| (1 <<< (a2 &&& 31)))).1 139 (xi a1)) (wI w19.2 139 (xi a1) (w19.2.1 139 (xi a1) ||| (1 <<< (a2 &&& 31)))) _ h25) ?_
    show Ev 122 (0, 0) (103, [some (.ref 138), some (.int a1), some (.int a2), none], [.int w24]) (hp N (wI w19.2 139 (xi a1) (w19.2.1 139 (xi a1) ||| (1 <<< (a2 &&& 31))))) _
    cases h
    exact ev_iret rfl rfl rfl (Or.inl rfl)
  · refine ev_iff rfl (decide_eq_false h26) ?_
    refine ev_run (n := 1) (u' := (0, 0)) (f' := (81, [some (.ref 138), some (.int a1), some (.int a2), none], [.int 0])) (h' := hp N w19.2) rfl ?_
    cases h
    exact ev_iret rfl rfl rfl (Or.inl rfl)
def gm122_69 (a1 : Int32) (a2 : Int32) (x : Hs) : Option (Int32 × Hs) := gm122_74 a1 a2 3 x
theorem em122_69 {N : Nat} (a1 : Int32) (a2 : Int32) (x : Hs) (r : Int32 × Hs) (h : gm122_69 a1 a2 x = some r) : Ev 122 (0, 0) (69, [some (.ref 138), some (.int a1), some (.int a2), none], [.ref 138]) (hp N x) (cvMi N r) := by
  unfold gm122_69 at h
  refine ev_run (n := 2) (u' := (0, 0)) (f' := (74, [some (.ref 138), some (.int a1), some (.int a2), none], [.int 3, .ref 138])) (h' := hp N x) rfl ?_
  exact em122_74 a1 a2 3 x _ h
def gm122_21 (a1 : Int32) (a2 : Int32) (s0 : Int32) (x : Hs) : Option (Int32 × Hs) := if s0 = 0 then (gm122_74 a1 a2 1 x) else (if a1 = a2 then (gm122_74 a1 a2 2 x) else (cond (aIn a1 5) ((gm115 (x.1 139 (xi a1)) a2 x).bind fun w8 => (if w8 = 0 then ((gm121 a1 x).bind fun w10 => (if w10 = 0 then ((gm121 a2 x).bind fun w12 => (if w12 = 0 then (gm122_74 a1 a2 0 x) else (gm122_69 a1 a2 x))) else (gm122_69 a1 a2 x))) else (gm122_69 a1 a2 x))) none))
theorem em122_21 {N : Nat} (a1 : Int32) (a2 : Int32) (s0 : Int32) (x : Hs) (r : Int32 × Hs) (h : gm122_21 a1 a2 s0 x = some r) : Ev 122 (0, 0) (21, [some (.ref 138), some (.int a1), some (.int a2), none], [.int s0]) (hp N x) (cvMi N r) := by
  unfold gm122_21 at h
  refine ev_run (n := 3) (u' := (0, 0)) (f' := (24, [some (.ref 138), some (.int a1), some (.int a2), some (.int s0)], [.int s0, .ref 138])) (h' := hp N x) rfl ?_
  rcases ite_or h with ⟨h18, h⟩ | ⟨h18, h⟩
  · refine ev_iff rfl (decide_eq_false (fun w => w h18)) ?_
    refine ev_run (n := 2) (u' := (0, 0)) (f' := (74, [some (.ref 138), some (.int a1), some (.int a2), none], [.int 1, .ref 138])) (h' := hp N x) rfl ?_
    exact em122_74 a1 a2 1 x _ h
  · refine ev_ift rfl (decide_eq_true h18) ?_
    refine ev_run (n := 2) (u' := (0, 0)) (f' := (33, [some (.ref 138), some (.int a1), some (.int a2), none], [.int a2, .int a1, .ref 138])) (h' := hp N x) rfl ?_
    rcases ite_or h with ⟨h17, h⟩ | ⟨h17, h⟩
    · refine ev_icf rfl (decide_eq_false (fun w => w h17)) ?_
      refine ev_run (n := 2) (u' := (0, 0)) (f' := (74, [some (.ref 138), some (.int a1), some (.int a2), none], [.int 2, .ref 138])) (h' := hp N x) rfl ?_
      exact em122_74 a1 a2 2 x _ h
    · refine ev_ict rfl (decide_eq_true h17) ?_
      refine ev_run (n := 3) (u' := (0, 0)) (f' := (45, [some (.ref 138), some (.int a1), some (.int a2), none], [.int a1, .ref 139, .ref 138])) (h' := hp N x) rfl ?_
      obtain ⟨h7, h⟩ := cond_some h
      refine ev_iald rfl rfl h7 ?_
      refine ev_run (n := 1) (u' := (0, 0)) (f' := (47, [some (.ref 138), some (.int a1), some (.int a2), none], [.int a2, .int (x.1 139 (xi a1)), .ref 138])) (h' := hp N x) rfl ?_
      obtain ⟨w8, h9, h⟩ := bind_ok h
      refine ev_call (v := some (.int w8)) (h1 := hp N x) rfl rfl rfl rfl (em115 (x.1 139 (xi a1)) a2 x _ h9) ?_
      show Ev 122 (0, 0) (50, [some (.ref 138), some (.int a1), some (.int a2), none], [.int w8, .ref 138]) (hp N x) _
      rcases ite_or h with ⟨h16, h⟩ | ⟨h16, h⟩
      · refine ev_iff rfl (decide_eq_false (fun w => w h16)) ?_
        refine ev_run (n := 2) (u' := (0, 0)) (f' := (55, [some (.ref 138), some (.int a1), some (.int a2), none], [.int a1, .ref 138, .ref 138])) (h' := hp N x) rfl ?_
        obtain ⟨w10, h11, h⟩ := bind_ok h
        refine ev_call (v := some (.int w10)) (h1 := hp N x) rfl rfl rfl rfl (em121 a1 x _ h11) ?_
        show Ev 122 (0, 0) (58, [some (.ref 138), some (.int a1), some (.int a2), none], [.int w10, .ref 138]) (hp N x) _
        rcases ite_or h with ⟨h15, h⟩ | ⟨h15, h⟩
        · refine ev_iff rfl (decide_eq_false (fun w => w h15)) ?_
          refine ev_run (n := 2) (u' := (0, 0)) (f' := (63, [some (.ref 138), some (.int a1), some (.int a2), none], [.int a2, .ref 138, .ref 138])) (h' := hp N x) rfl ?_
          obtain ⟨w12, h13, h⟩ := bind_ok h
          refine ev_call (v := some (.int w12)) (h1 := hp N x) rfl rfl rfl rfl (em121 a2 x _ h13) ?_
          show Ev 122 (0, 0) (66, [some (.ref 138), some (.int a1), some (.int a2), none], [.int w12, .ref 138]) (hp N x) _
          rcases ite_or h with ⟨h14, h⟩ | ⟨h14, h⟩
          · refine ev_ift rfl (decide_eq_true h14) ?_
            refine ev_run (n := 1) (u' := (0, 0)) (f' := (74, [some (.ref 138), some (.int a1), some (.int a2), none], [.int 0, .ref 138])) (h' := hp N x) rfl ?_
            exact em122_74 a1 a2 0 x _ h
          · refine ev_iff rfl (decide_eq_false h14) ?_
            exact em122_69 a1 a2 x _ h
        · refine ev_ift rfl (decide_eq_true h15) ?_
          exact em122_69 a1 a2 x _ h
      · refine ev_ift rfl (decide_eq_true h16) ?_
        exact em122_69 a1 a2 x _ h
def gm122_20 (a1 : Int32) (a2 : Int32) (x : Hs) : Option (Int32 × Hs) := gm122_21 a1 a2 0 x
theorem em122_20 {N : Nat} (a1 : Int32) (a2 : Int32) (x : Hs) (r : Int32 × Hs) (h : gm122_20 a1 a2 x = some r) : Ev 122 (0, 0) (20, [some (.ref 138), some (.int a1), some (.int a2), none], []) (hp N x) (cvMi N r) := by
  unfold gm122_20 at h
  refine ev_run (n := 1) (u' := (0, 0)) (f' := (21, [some (.ref 138), some (.int a1), some (.int a2), none], [.int 0])) (h' := hp N x) rfl ?_
  exact em122_21 a1 a2 0 x _ h
def gm122 (a1 : Int32) (a2 : Int32) (x : Hs) : Option (Int32 × Hs) := (gm117 a1 x).bind fun w1 => (if w1 = 0 then (gm122_20 a1 a2 x) else ((gm117 a2 x).bind fun w3 => (if w3 = 0 then (gm122_20 a1 a2 x) else (gm122_21 a1 a2 1 x))))
theorem em122 {N : Nat} (a1 : Int32) (a2 : Int32) (x : Hs) (r : Int32 × Hs) (h : gm122 a1 a2 x = some r) : Ev 122 (0, 0) (0, aPad [.ref 138, .int a1, .int a2] 4, []) (hp N x) (cvMi N r) := by
  show Ev 122 (0, 0) (0, [some (.ref 138), some (.int a1), some (.int a2), none], []) (hp N x) _
  unfold gm122 at h
  refine ev_run (n := 2) (u' := (0, 0)) (f' := (2, [some (.ref 138), some (.int a1), some (.int a2), none], [.int a1, .ref 138])) (h' := hp N x) rfl ?_
  obtain ⟨w1, h2, h⟩ := bind_ok h
  refine ev_call (v := some (.int w1)) (h1 := hp N x) rfl rfl rfl rfl (em117 a1 x _ h2) ?_
  show Ev 122 (0, 0) (5, [some (.ref 138), some (.int a1), some (.int a2), none], [.int w1]) (hp N x) _
  rcases ite_or h with ⟨h6, h⟩ | ⟨h6, h⟩
  · refine ev_ift rfl (decide_eq_true h6) ?_
    exact em122_20 a1 a2 x _ h
  · refine ev_iff rfl (decide_eq_false h6) ?_
    refine ev_run (n := 2) (u' := (0, 0)) (f' := (10, [some (.ref 138), some (.int a1), some (.int a2), none], [.int a2, .ref 138])) (h' := hp N x) rfl ?_
    obtain ⟨w3, h4, h⟩ := bind_ok h
    refine ev_call (v := some (.int w3)) (h1 := hp N x) rfl rfl rfl rfl (em117 a2 x _ h4) ?_
    show Ev 122 (0, 0) (13, [some (.ref 138), some (.int a1), some (.int a2), none], [.int w3]) (hp N x) _
    rcases ite_or h with ⟨h5, h⟩ | ⟨h5, h⟩
    · refine ev_ift rfl (decide_eq_true h5) ?_
      exact em122_20 a1 a2 x _ h
    · refine ev_iff rfl (decide_eq_false h5) ?_
      refine ev_run (n := 2) (u' := (0, 0)) (f' := (21, [some (.ref 138), some (.int a1), some (.int a2), none], [.int 1])) (h' := hp N x) rfl ?_
      exact em122_21 a1 a2 1 x _ h
def gm123_97 (x : Hs) : Option (Int32 × Hs) := some (((wI x 138 3 (x.1 138 3 + 1)).1 138 3 - 1), (wI x 138 3 (x.1 138 3 + 1)))
theorem em123_97 {N : Nat} (x : Hs) (r : Int32 × Hs) (h : gm123_97 x = some r) : Ev 123 (0, 0) (97, [some (.ref 138), none, none, none], []) (hp N x) (cvMi N r) := by
  unfold gm123_97 at h
  refine ev_run (n := 10) (u' := (0, 0)) (f' := (113, [some (.ref 138), none, none, none], [.int ((wI x 138 3 (x.1 138 3 + 1)).1 138 3 - 1)])) (h' := hp N (wI x 138 3 (x.1 138 3 + 1))) rfl ?_
  cases h
  exact ev_iret rfl rfl rfl (Or.inl rfl)
def gm123_71 : Nat → Int32 → Hs → Option (Int32 × Hs)
  | 0, _, _ => none
  | n + 1, a3, x => if a3 ≥ 5 then (gm123_97 x) else (cond (aIn ((5 * x.1 138 3) + a3) 120) (gm123_71 n (a3 + 1) (wI x 143 (xi ((5 * x.1 138 3) + a3)) 9)) none)
theorem em123_71 {N : Nat} : ∀ (n : Nat) (a3 : Int32) (x : Hs) (r : Int32 × Hs), gm123_71 n a3 x = some r → Ev 123 (0, 0) (71, [some (.ref 138), none, none, some (.int a3)], []) (hp N x) (cvMi N r)
  | 0, a3, x, r, h => by
    have e9 : (none : Option (Int32 × Hs)) = some r := h
    cases e9
  | n + 1, a3, x, r, h => by
    have q71 := em123_71 (N := N) n
    rw [gm123_71] at h
    refine ev_run (n := 2) (u' := (0, 0)) (f' := (73, [some (.ref 138), none, none, some (.int a3)], [.int 5, .int a3])) (h' := hp N x) rfl ?_
    rcases ite_or h with ⟨h14, h⟩ | ⟨h14, h⟩
    · refine ev_ict rfl (decide_eq_true h14) ?_
      exact em123_97 x _ h
    · refine ev_icf rfl (decide_eq_false h14) ?_
      refine ev_run (n := 9) (u' := (0, 0)) (f' := (90, [some (.ref 138), none, none, some (.int a3)], [.int 9, .int ((5 * x.1 138 3) + a3), .ref 143])) (h' := hp N x) rfl ?_
      obtain ⟨h13, h⟩ := cond_some h
      refine ev_iast rfl rfl h13 ?_
      show Ev 123 (0, 0) (91, [some (.ref 138), none, none, some (.int a3)], []) (hp N (wI x 143 (xi ((5 * x.1 138 3) + a3)) 9)) _
      refine ev_run (n := 2) (u' := (0, 0)) (f' := (71, [some (.ref 138), none, none, some (.int (a3 + 1))], [])) (h' := hp N (wI x 143 (xi ((5 * x.1 138 3) + a3)) 9)) rfl ?_
      exact q71 (a3 + 1) (wI x 143 (xi ((5 * x.1 138 3) + a3)) 9) _ h
def gm123_41 (a1 : Int32) (a2 : Int32) (s1 : Int32) (x : Hs) : Option (Int32 × Hs) := (gm113 s1 x).bind fun w8 => (if w8.1 = 0 then (cond (aIn (w8.2.1 138 3) 24) (cond (aIn ((wI w8.2 140 (xi (w8.2.1 138 3)) a1).1 138 3) 24) (gm123_71 FU 0 (wI (wI w8.2 140 (xi (w8.2.1 138 3)) a1) 141 (xi ((wI w8.2 140 (xi (w8.2.1 138 3)) a1).1 138 3)) a2)) none) none) else (some (0, w8.2)))
theorem em123_41 {N : Nat} (a1 : Int32) (a2 : Int32) (s1 : Int32) (x : Hs) (r : Int32 × Hs) (h : gm123_41 a1 a2 s1 x = some r) : Ev 123 (0, 0) (41, [some (.ref 138), some (.int a1), some (.int a2), none], [.int s1, .ref 138]) (hp N x) (cvMi N r) := by
  unfold gm123_41 at h
  obtain ⟨w8, h9, h⟩ := bind_ok h
  refine ev_call (v := some (.int w8.1)) (h1 := hp N w8.2) rfl rfl rfl rfl (em113 s1 x _ h9) ?_
  show Ev 123 (0, 0) (44, [some (.ref 138), some (.int a1), some (.int a2), none], [.int w8.1]) (hp N w8.2) _
  rcases ite_or h with ⟨h12, h⟩ | ⟨h12, h⟩
  · refine ev_ift rfl (decide_eq_true h12) ?_
    refine ev_run (n := 5) (u' := (0, 0)) (f' := (58, [some (.ref 138), some (.int a1), some (.int a2), none], [.int a1, .int (w8.2.1 138 3), .ref 140])) (h' := hp N w8.2) rfl ?_
    obtain ⟨h10, h⟩ := cond_some h
    refine ev_iast rfl rfl h10 ?_
    show Ev 123 (0, 0) (59, [some (.ref 138), some (.int a1), some (.int a2), none], []) (hp N (wI w8.2 140 (xi (w8.2.1 138 3)) a1)) _
    refine ev_run (n := 5) (u' := (0, 0)) (f' := (68, [some (.ref 138), some (.int a1), some (.int a2), none], [.int a2, .int ((wI w8.2 140 (xi (w8.2.1 138 3)) a1).1 138 3), .ref 141])) (h' := hp N (wI w8.2 140 (xi (w8.2.1 138 3)) a1)) rfl ?_
    obtain ⟨h11, h⟩ := cond_some h
    refine ev_iast rfl rfl h11 ?_
    show Ev 123 (0, 0) (69, [some (.ref 138), some (.int a1), some (.int a2), none], []) (hp N (wI (wI w8.2 140 (xi (w8.2.1 138 3)) a1) 141 (xi ((wI w8.2 140 (xi (w8.2.1 138 3)) a1).1 138 3)) a2)) _
    refine ev_run (n := 2) (u' := (0, 0)) (f' := (71, [some (.ref 138), none, none, some (.int 0)], [])) (h' := hp N (wI (wI w8.2 140 (xi (w8.2.1 138 3)) a1) 141 (xi ((wI w8.2 140 (xi (w8.2.1 138 3)) a1).1 138 3)) a2)) rfl ?_
    exact em123_71 FU 0 (wI (wI w8.2 140 (xi (w8.2.1 138 3)) a1) 141 (xi ((wI w8.2 140 (xi (w8.2.1 138 3)) a1).1 138 3)) a2) _ h
  · refine ev_iff rfl (decide_eq_false h12) ?_
    refine ev_run (n := 1) (u' := (0, 0)) (f' := (48, [some (.ref 138), some (.int a1), some (.int a2), none], [.int 0])) (h' := hp N w8.2) rfl ?_
    cases h
    exact ev_iret rfl rfl rfl (Or.inl rfl)
def gm123 (a1 : Int32) (a2 : Int32) (x : Hs) : Option (Int32 × Hs) := (gm117 a1 x).bind fun w1 => (if w1 = 0 then (gm123_41 a1 a2 1 x) else ((gm114 a2 0 9 x).bind fun w3 => (if w3 = 0 then (gm123_41 a1 a2 2 x) else (if x.1 138 3 = 24 then (gm123_41 a1 a2 3 x) else (gm123_41 a1 a2 0 x)))))
theorem em123 {N : Nat} (a1 : Int32) (a2 : Int32) (x : Hs) (r : Int32 × Hs) (h : gm123 a1 a2 x = some r) : Ev 123 (0, 0) (0, aPad [.ref 138, .int a1, .int a2] 4, []) (hp N x) (cvMi N r) := by
  show Ev 123 (0, 0) (0, [some (.ref 138), some (.int a1), some (.int a2), none], []) (hp N x) _
  unfold gm123 at h
  refine ev_run (n := 3) (u' := (0, 0)) (f' := (3, [some (.ref 138), some (.int a1), some (.int a2), none], [.int a1, .ref 138, .ref 138])) (h' := hp N x) rfl ?_
  obtain ⟨w1, h2, h⟩ := bind_ok h
  refine ev_call (v := some (.int w1)) (h1 := hp N x) rfl rfl rfl rfl (em117 a1 x _ h2) ?_
  show Ev 123 (0, 0) (6, [some (.ref 138), some (.int a1), some (.int a2), none], [.int w1, .ref 138]) (hp N x) _
  rcases ite_or h with ⟨h7, h⟩ | ⟨h7, h⟩
  · refine ev_iff rfl (decide_eq_false (fun w => w h7)) ?_
    refine ev_run (n := 2) (u' := (0, 0)) (f' := (41, [some (.ref 138), some (.int a1), some (.int a2), none], [.int 1, .ref 138])) (h' := hp N x) rfl ?_
    exact em123_41 a1 a2 1 x _ h
  · refine ev_ift rfl (decide_eq_true h7) ?_
    refine ev_run (n := 3) (u' := (0, 0)) (f' := (17, [some (.ref 138), some (.int a1), some (.int a2), none], [.int 9, .int 0, .int a2, .ref 138])) (h' := hp N x) rfl ?_
    obtain ⟨w3, h4, h⟩ := bind_ok h
    refine ev_call (v := some (.int w3)) (h1 := hp N x) rfl rfl rfl rfl (em114 a2 0 9 x _ h4) ?_
    show Ev 123 (0, 0) (20, [some (.ref 138), some (.int a1), some (.int a2), none], [.int w3, .ref 138]) (hp N x) _
    rcases ite_or h with ⟨h6, h⟩ | ⟨h6, h⟩
    · refine ev_iff rfl (decide_eq_false (fun w => w h6)) ?_
      refine ev_run (n := 2) (u' := (0, 0)) (f' := (41, [some (.ref 138), some (.int a1), some (.int a2), none], [.int 2, .ref 138])) (h' := hp N x) rfl ?_
      exact em123_41 a1 a2 2 x _ h
    · refine ev_ift rfl (decide_eq_true h6) ?_
      refine ev_run (n := 3) (u' := (0, 0)) (f' := (33, [some (.ref 138), some (.int a1), some (.int a2), none], [.int 24, .int (x.1 138 3), .ref 138])) (h' := hp N x) rfl ?_
      rcases ite_or h with ⟨h5, h⟩ | ⟨h5, h⟩
      · refine ev_icf rfl (decide_eq_false (fun w => w h5)) ?_
        refine ev_run (n := 2) (u' := (0, 0)) (f' := (41, [some (.ref 138), some (.int a1), some (.int a2), none], [.int 3, .ref 138])) (h' := hp N x) rfl ?_
        exact em123_41 a1 a2 3 x _ h
      · refine ev_ict rfl (decide_eq_true h5) ?_
        refine ev_run (n := 1) (u' := (0, 0)) (f' := (41, [some (.ref 138), some (.int a1), some (.int a2), none], [.int 0, .ref 138])) (h' := hp N x) rfl ?_
        exact em123_41 a1 a2 0 x _ h
def gm124_39 (k4 : Int32 → Int32 → Int32 → Hs → Option (Int32)) (a1 : Int32) (a3 : Int32) (s0 : Int32) (x : Hs) : Option (Int32) := k4 a1 s0 (a3 + 1) x
theorem em124_39 {N : Nat} (k4 : Int32 → Int32 → Int32 → Hs → Option (Int32)) (q4 : ∀ (a1 : Int32) (a2 : Int32) (a3 : Int32) (x : Hs) (r : Int32), k4 a1 a2 a3 x = some r → Ev 124 (0, 0) (4, [some (.ref 138), some (.int a1), some (.int a2), some (.int a3)], []) (hp N x) (cvPi N x r)) (a1 : Int32) (a3 : Int32) (s0 : Int32) (x : Hs) (r : Int32) (h : gm124_39 k4 a1 a3 s0 x = some r) : Ev 124 (0, 0) (39, [some (.ref 138), some (.int a1), none, some (.int a3)], [.int s0]) (hp N x) (cvPi N x r) := by
  unfold gm124_39 at h
  refine ev_run (n := 3) (u' := (0, 0)) (f' := (4, [some (.ref 138), some (.int a1), some (.int s0), some (.int (a3 + 1))], [])) (h' := hp N x) rfl ?_
  exact q4 a1 s0 (a3 + 1) x _ h
def gm124_34 (k4 : Int32 → Int32 → Int32 → Hs → Option (Int32)) (a1 : Int32) (a3 : Int32) (x : Hs) : Option (Int32) := gm124_39 k4 a1 a3 1 x
theorem em124_34 {N : Nat} (k4 : Int32 → Int32 → Int32 → Hs → Option (Int32)) (q4 : ∀ (a1 : Int32) (a2 : Int32) (a3 : Int32) (x : Hs) (r : Int32), k4 a1 a2 a3 x = some r → Ev 124 (0, 0) (4, [some (.ref 138), some (.int a1), some (.int a2), some (.int a3)], []) (hp N x) (cvPi N x r)) (a1 : Int32) (a3 : Int32) (x : Hs) (r : Int32) (h : gm124_34 k4 a1 a3 x = some r) : Ev 124 (0, 0) (34, [some (.ref 138), some (.int a1), none, some (.int a3)], []) (hp N x) (cvPi N x r) := by
  unfold gm124_34 at h
  refine ev_run (n := 2) (u' := (0, 0)) (f' := (39, [some (.ref 138), some (.int a1), none, some (.int a3)], [.int 1])) (h' := hp N x) rfl ?_
  exact em124_39 k4 q4 a1 a3 1 x _ h
theorem em124_34_k1 {N : Nat} (k4 : Int32 → Int32 → Int32 → Hs → Option (Int32)) (q4 : ∀ (a1 : Int32) (a2 : Int32) (a3 : Int32) (x : Hs) (r : Int32), k4 a1 a2 a3 x = some r → Ev 124 (0, 0) (4, [some (.ref 138), some (.int a1), some (.int a2), some (.int a3)], []) (hp N x) (cvPi N x r)) (a1 : Int32) (a2 : Int32) (a3 : Int32) (x : Hs) (r : Int32) (h : gm124_34 k4 a1 a3 x = some r) : Ev 124 (0, 0) (34, [some (.ref 138), some (.int a1), some (.int a2), some (.int a3)], []) (hp N x) (cvPi N x r) := by
  unfold gm124_34 at h
  refine ev_run (n := 2) (u' := (0, 0)) (f' := (39, [some (.ref 138), some (.int a1), none, some (.int a3)], [.int 1])) (h' := hp N x) rfl ?_
  exact em124_39 k4 q4 a1 a3 1 x _ h
def gm124_4 : Nat → Int32 → Int32 → Int32 → Hs → Option (Int32)
  | 0, _, _, _, _ => none
  | n + 1, a1, a2, a3, x => if a3 ≥ 20 then (cond (aBit a2) (some a2) none) else (if a2 = 0 then (cond (aIn a3 20) (if x.1 147 (xi a3) = a1 then (gm124_34 (gm124_4 n) a1 a3 x) else (cond (aIn a3 20) (if x.1 148 (xi a3) = a1 then (gm124_34 (gm124_4 n) a1 a3 x) else (gm124_39 (gm124_4 n) a1 a3 0 x)) none)) none) else (gm124_34 (gm124_4 n) a1 a3 x))
theorem em124_4 {N : Nat} : ∀ (n : Nat) (a1 : Int32) (a2 : Int32) (a3 : Int32) (x : Hs) (r : Int32), gm124_4 n a1 a2 a3 x = some r → Ev 124 (0, 0) (4, [some (.ref 138), some (.int a1), some (.int a2), some (.int a3)], []) (hp N x) (cvPi N x r)
  | 0, a1, a2, a3, x, r, h => by
    have e9 : (none : Option (Int32)) = some r := h
    cases e9
  | n + 1, a1, a2, a3, x, r, h => by
    have q4 := em124_4 (N := N) n
    rw [gm124_4] at h
    refine ev_run (n := 2) (u' := (0, 0)) (f' := (7, [some (.ref 138), some (.int a1), some (.int a2), some (.int a3)], [.int 20, .int a3])) (h' := hp N x) rfl ?_
    rcases ite_or h with ⟨h7, h⟩ | ⟨h7, h⟩
    · refine ev_ict rfl (decide_eq_true h7) ?_
      refine ev_run (n := 1) (u' := (0, 0)) (f' := (47, [none, none, some (.int a2), none], [.int a2])) (h' := hp N x) rfl ?_
      obtain ⟨h1, h⟩ := cond_some h
      cases h
      exact ev_iret rfl rfl rfl (Or.inr ⟨rfl, h1⟩)
    · refine ev_icf rfl (decide_eq_false h7) ?_
      refine ev_run (n := 1) (u' := (0, 0)) (f' := (11, [some (.ref 138), some (.int a1), some (.int a2), some (.int a3)], [.int a2])) (h' := hp N x) rfl ?_
      rcases ite_or h with ⟨h6, h⟩ | ⟨h6, h⟩
      · refine ev_iff rfl (decide_eq_false (fun w => w h6)) ?_
        refine ev_run (n := 3) (u' := (0, 0)) (f' := (19, [some (.ref 138), some (.int a1), some (.int a2), some (.int a3)], [.int a3, .ref 147])) (h' := hp N x) rfl ?_
        obtain ⟨h2, h⟩ := cond_some h
        refine ev_iald rfl rfl h2 ?_
        refine ev_run (n := 1) (u' := (0, 0)) (f' := (21, [some (.ref 138), some (.int a1), some (.int a2), some (.int a3)], [.int a1, .int (x.1 147 (xi a3))])) (h' := hp N x) rfl ?_
        rcases ite_or h with ⟨h5, h⟩ | ⟨h5, h⟩
        · refine ev_ict rfl (decide_eq_true h5) ?_
          exact em124_34 (gm124_4 n) q4 a1 a3 x _ h
        · refine ev_icf rfl (decide_eq_false h5) ?_
          refine ev_run (n := 3) (u' := (0, 0)) (f' := (29, [some (.ref 138), some (.int a1), some (.int a2), some (.int a3)], [.int a3, .ref 148])) (h' := hp N x) rfl ?_
          obtain ⟨h3, h⟩ := cond_some h
          refine ev_iald rfl rfl h3 ?_
          refine ev_run (n := 1) (u' := (0, 0)) (f' := (31, [some (.ref 138), some (.int a1), some (.int a2), some (.int a3)], [.int a1, .int (x.1 148 (xi a3))])) (h' := hp N x) rfl ?_
          rcases ite_or h with ⟨h4, h⟩ | ⟨h4, h⟩
          · refine ev_icf rfl (decide_eq_false (fun w => w h4)) ?_
            exact em124_34_k1 (gm124_4 n) q4 a1 a2 a3 x _ h
          · refine ev_ict rfl (decide_eq_true h4) ?_
            refine ev_run (n := 1) (u' := (0, 0)) (f' := (39, [some (.ref 138), some (.int a1), none, some (.int a3)], [.int 0])) (h' := hp N x) rfl ?_
            exact em124_39 (gm124_4 n) q4 a1 a3 0 x _ h
      · refine ev_ift rfl (decide_eq_true h6) ?_
        exact em124_34 (gm124_4 n) q4 a1 a3 x _ h
def gm124 (a1 : Int32) (x : Hs) : Option (Int32) := gm124_4 FU a1 0 0 x
theorem em124 {N : Nat} (a1 : Int32) (x : Hs) (r : Int32) (h : gm124 a1 x = some r) : Ev 124 (0, 0) (0, aPad [.ref 138, .int a1] 4, []) (hp N x) (cvPi N x r) := by
  show Ev 124 (0, 0) (0, [some (.ref 138), some (.int a1), none, none], []) (hp N x) _
  unfold gm124 at h
  refine ev_run (n := 4) (u' := (0, 0)) (f' := (4, [some (.ref 138), some (.int a1), some (.int 0), some (.int 0)], [])) (h' := hp N x) rfl ?_
  exact em124_4 FU a1 0 0 x _ h
def gm125_101 (a1 : Int32) (a2 : Int32) (a3 : Int32) (a4 : Int32) (s1 : Int32) (x : Hs) : Option (Hs) := (gm113 s1 x).bind fun w23 => (if w23.1 = 0 then (cond (aIn ((5 * a1) + a2) 120) (cond (aIn ((5 * a1) + a2) 120) (some (wI (wI w23.2 142 (xi ((5 * a1) + a2)) a3) 143 (xi ((5 * a1) + a2)) a4)) none) none) else (some w23.2))
theorem em125_101 {N : Nat} (a1 : Int32) (a2 : Int32) (a3 : Int32) (a4 : Int32) (s1 : Int32) (x : Hs) (r : Hs) (h : gm125_101 a1 a2 a3 a4 s1 x = some r) : Ev 125 (0, 0) (101, [some (.ref 138), some (.int a1), some (.int a2), some (.int a3), some (.int a4), none, none], [.int s1, .ref 138]) (hp N x) (cvMv N r) := by
  unfold gm125_101 at h
  obtain ⟨w23, h24, h⟩ := bind_ok h
  refine ev_call (v := some (.int w23.1)) (h1 := hp N w23.2) rfl rfl rfl rfl (em113 s1 x _ h24) ?_
  show Ev 125 (0, 0) (104, [some (.ref 138), some (.int a1), some (.int a2), some (.int a3), some (.int a4), none, none], [.int w23.1]) (hp N w23.2) _
  rcases ite_or h with ⟨h27, h⟩ | ⟨h27, h⟩
  · refine ev_iff rfl (decide_eq_false (fun w => w h27)) ?_
    refine ev_run (n := 8) (u' := (0, 0)) (f' := (117, [some (.ref 138), some (.int a1), some (.int a2), some (.int a3), some (.int a4), none, none], [.int a3, .int ((5 * a1) + a2), .ref 142])) (h' := hp N w23.2) rfl ?_
    obtain ⟨h25, h⟩ := cond_some h
    refine ev_iast rfl rfl h25 ?_
    show Ev 125 (0, 0) (118, [some (.ref 138), some (.int a1), some (.int a2), some (.int a3), some (.int a4), none, none], []) (hp N (wI w23.2 142 (xi ((5 * a1) + a2)) a3)) _
    refine ev_run (n := 8) (u' := (0, 0)) (f' := (129, [some (.ref 138), some (.int a1), some (.int a2), some (.int a3), some (.int a4), none, none], [.int a4, .int ((5 * a1) + a2), .ref 143])) (h' := hp N (wI w23.2 142 (xi ((5 * a1) + a2)) a3)) rfl ?_
    obtain ⟨h26, h⟩ := cond_some h
    refine ev_iast rfl rfl h26 ?_
    show Ev 125 (0, 0) (130, [some (.ref 138), some (.int a1), some (.int a2), some (.int a3), some (.int a4), none, none], []) (hp N (wI (wI w23.2 142 (xi ((5 * a1) + a2)) a3) 143 (xi ((5 * a1) + a2)) a4)) _
    cases h
    exact ev_vret rfl rfl rfl
  · refine ev_ift rfl (decide_eq_true h27) ?_
    cases h
    exact ev_vret rfl rfl rfl
def gm125_96 (a1 : Int32) (a2 : Int32) (a3 : Int32) (a4 : Int32) (x : Hs) : Option (Hs) := gm125_101 a1 a2 a3 a4 3 x
theorem em125_96 {N : Nat} (a1 : Int32) (a2 : Int32) (a3 : Int32) (a4 : Int32) (x : Hs) (r : Hs) (h : gm125_96 a1 a2 a3 a4 x = some r) : Ev 125 (0, 0) (96, [some (.ref 138), some (.int a1), some (.int a2), some (.int a3), some (.int a4), none, none], [.ref 138]) (hp N x) (cvMv N r) := by
  unfold gm125_96 at h
  refine ev_run (n := 2) (u' := (0, 0)) (f' := (101, [some (.ref 138), some (.int a1), some (.int a2), some (.int a3), some (.int a4), none, none], [.int 3, .ref 138])) (h' := hp N x) rfl ?_
  exact em125_101 a1 a2 a3 a4 3 x _ h
def gm125_49 (a1 : Int32) (a2 : Int32) (a3 : Int32) (a4 : Int32) (a5 : Int32) (s0 : Int32) (x : Hs) : Option (Hs) := if a5 = 0 then (gm125_101 a1 a2 a3 a4 1 x) else (if s0 = 0 then (gm125_101 a1 a2 a3 a4 2 x) else (cond (aIn a1 24) (cond (aIn (x.1 140 (xi a1)) 5) ((gm115 (x.1 139 (xi (x.1 140 (xi a1)))) a2 x).bind fun w15 => (if w15 = 0 then (gm125_96 a1 a2 a3 a4 x) else ((gm124 a1 x).bind fun w17 => (if w17 = 0 then (gm125_101 a1 a2 a3 a4 0 x) else (gm125_96 a1 a2 a3 a4 x))))) none) none))
theorem em125_49 {N : Nat} (a1 : Int32) (a2 : Int32) (a3 : Int32) (a4 : Int32) (a5 : Int32) (s0 : Int32) (x : Hs) (r : Hs) (h : gm125_49 a1 a2 a3 a4 a5 s0 x = some r) : Ev 125 (0, 0) (49, [some (.ref 138), some (.int a1), some (.int a2), some (.int a3), some (.int a4), some (.int a5), none], [.int s0]) (hp N x) (cvMv N r) := by
  unfold gm125_49 at h
  refine ev_run (n := 3) (u' := (0, 0)) (f' := (54, [some (.ref 138), some (.int a1), some (.int a2), some (.int a3), some (.int a4), some (.int a5), some (.int s0)], [.int a5, .ref 138])) (h' := hp N x) rfl ?_
  rcases ite_or h with ⟨h22, h⟩ | ⟨h22, h⟩
  · refine ev_iff rfl (decide_eq_false (fun w => w h22)) ?_
    refine ev_run (n := 2) (u' := (0, 0)) (f' := (101, [some (.ref 138), some (.int a1), some (.int a2), some (.int a3), some (.int a4), none, none], [.int 1, .ref 138])) (h' := hp N x) rfl ?_
    exact em125_101 a1 a2 a3 a4 1 x _ h
  · refine ev_ift rfl (decide_eq_true h22) ?_
    refine ev_run (n := 1) (u' := (0, 0)) (f' := (63, [some (.ref 138), some (.int a1), some (.int a2), some (.int a3), some (.int a4), none, some (.int s0)], [.int s0, .ref 138])) (h' := hp N x) rfl ?_
    rcases ite_or h with ⟨h21, h⟩ | ⟨h21, h⟩
    · refine ev_iff rfl (decide_eq_false (fun w => w h21)) ?_
      refine ev_run (n := 2) (u' := (0, 0)) (f' := (101, [some (.ref 138), some (.int a1), some (.int a2), some (.int a3), some (.int a4), none, none], [.int 2, .ref 138])) (h' := hp N x) rfl ?_
      exact em125_101 a1 a2 a3 a4 2 x _ h
    · refine ev_ift rfl (decide_eq_true h21) ?_
      refine ev_run (n := 5) (u' := (0, 0)) (f' := (79, [some (.ref 138), some (.int a1), some (.int a2), some (.int a3), some (.int a4), none, none], [.int a1, .ref 140, .ref 139, .ref 138])) (h' := hp N x) rfl ?_
      obtain ⟨h13, h⟩ := cond_some h
      refine ev_iald rfl rfl h13 ?_
      obtain ⟨h14, h⟩ := cond_some h
      refine ev_iald rfl rfl h14 ?_
      refine ev_run (n := 1) (u' := (0, 0)) (f' := (82, [some (.ref 138), some (.int a1), some (.int a2), some (.int a3), some (.int a4), none, none], [.int a2, .int (x.1 139 (xi (x.1 140 (xi a1)))), .ref 138])) (h' := hp N x) rfl ?_
      obtain ⟨w15, h16, h⟩ := bind_ok h
      refine ev_call (v := some (.int w15)) (h1 := hp N x) rfl rfl rfl rfl (em115 (x.1 139 (xi (x.1 140 (xi a1)))) a2 x _ h16) ?_
      show Ev 125 (0, 0) (85, [some (.ref 138), some (.int a1), some (.int a2), some (.int a3), some (.int a4), none, none], [.int w15, .ref 138]) (hp N x) _
      rcases ite_or h with ⟨h20, h⟩ | ⟨h20, h⟩
      · refine ev_ift rfl (decide_eq_true h20) ?_
        exact em125_96 a1 a2 a3 a4 x _ h
      · refine ev_iff rfl (decide_eq_false h20) ?_
        refine ev_run (n := 2) (u' := (0, 0)) (f' := (90, [some (.ref 138), some (.int a1), some (.int a2), some (.int a3), some (.int a4), none, none], [.int a1, .ref 138, .ref 138])) (h' := hp N x) rfl ?_
        obtain ⟨w17, h18, h⟩ := bind_ok h
        refine ev_call (v := some (.int w17)) (h1 := hp N x) rfl rfl rfl rfl (em124 a1 x _ h18) ?_
        show Ev 125 (0, 0) (93, [some (.ref 138), some (.int a1), some (.int a2), some (.int a3), some (.int a4), none, none], [.int w17, .ref 138]) (hp N x) _
        rcases ite_or h with ⟨h19, h⟩ | ⟨h19, h⟩
        · refine ev_ift rfl (decide_eq_true h19) ?_
          refine ev_run (n := 1) (u' := (0, 0)) (f' := (101, [some (.ref 138), some (.int a1), some (.int a2), some (.int a3), some (.int a4), none, none], [.int 0, .ref 138])) (h' := hp N x) rfl ?_
          exact em125_101 a1 a2 a3 a4 0 x _ h
        · refine ev_iff rfl (decide_eq_false h19) ?_
          exact em125_96 a1 a2 a3 a4 x _ h
