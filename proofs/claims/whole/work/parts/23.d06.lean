/-! The methods as functions; printed by dec.py -/
def gm125_48 (a1 : Int32) (a2 : Int32) (a3 : Int32) (a4 : Int32) (a5 : Int32) (x : Hs) : Option (Hs) := gm125_49 a1 a2 a3 a4 a5 0 x
theorem em125_48 {N : Nat} (a1 : Int32) (a2 : Int32) (a3 : Int32) (a4 : Int32) (a5 : Int32) (x : Hs) (r : Hs) (h : gm125_48 a1 a2 a3 a4 a5 x = some r) : Ev 125 (0, 0) (48, [some (.ref 138), some (.int a1), some (.int a2), some (.int a3), some (.int a4), some (.int a5), none], []) (hp N x) (cvMv N r) := by
  unfold gm125_48 at h
  refine ev_run (n := 1) (u' := (0, 0)) (f' := (49, [some (.ref 138), some (.int a1), some (.int a2), some (.int a3), some (.int a4), some (.int a5), none], [.int 0])) (h' := hp N x) rfl ?_
  exact em125_49 a1 a2 a3 a4 a5 0 x _ h
def gm125_21 (a1 : Int32) (a2 : Int32) (a3 : Int32) (a4 : Int32) (s0 : Int32) (x : Hs) : Option (Hs) := (gm114 a3 0 9 x).bind fun w7 => (if w7 = 0 then (gm125_48 a1 a2 a3 a4 s0 x) else ((gm114 a4 a3 9 x).bind fun w9 => (if w9 = 0 then (gm125_48 a1 a2 a3 a4 s0 x) else (gm125_49 a1 a2 a3 a4 s0 1 x))))
theorem em125_21 {N : Nat} (a1 : Int32) (a2 : Int32) (a3 : Int32) (a4 : Int32) (s0 : Int32) (x : Hs) (r : Hs) (h : gm125_21 a1 a2 a3 a4 s0 x = some r) : Ev 125 (0, 0) (21, [some (.ref 138), some (.int a1), some (.int a2), some (.int a3), some (.int a4), none, none], [.int s0]) (hp N x) (cvMv N r) := by
  unfold gm125_21 at h
  refine ev_run (n := 4) (u' := (0, 0)) (f' := (27, [some (.ref 138), some (.int a1), some (.int a2), some (.int a3), some (.int a4), some (.int s0), none], [.int 9, .int 0, .int a3])) (h' := hp N x) rfl ?_
  obtain ⟨w7, h8, h⟩ := bind_ok h
  refine ev_call (v := some (.int w7)) (h1 := hp N x) rfl rfl rfl rfl (em114 a3 0 9 x _ h8) ?_
  show Ev 125 (0, 0) (30, [some (.ref 138), some (.int a1), some (.int a2), some (.int a3), some (.int a4), some (.int s0), none], [.int w7]) (hp N x) _
  rcases ite_or h with ⟨h12, h⟩ | ⟨h12, h⟩
  · refine ev_ift rfl (decide_eq_true h12) ?_
    exact em125_48 a1 a2 a3 a4 s0 x _ h
  · refine ev_iff rfl (decide_eq_false h12) ?_
    refine ev_run (n := 3) (u' := (0, 0)) (f' := (38, [some (.ref 138), some (.int a1), some (.int a2), some (.int a3), some (.int a4), some (.int s0), none], [.int 9, .int a3, .int a4])) (h' := hp N x) rfl ?_
    obtain ⟨w9, h10, h⟩ := bind_ok h
    refine ev_call (v := some (.int w9)) (h1 := hp N x) rfl rfl rfl rfl (em114 a4 a3 9 x _ h10) ?_
    show Ev 125 (0, 0) (41, [some (.ref 138), some (.int a1), some (.int a2), some (.int a3), some (.int a4), some (.int s0), none], [.int w9]) (hp N x) _
    rcases ite_or h with ⟨h11, h⟩ | ⟨h11, h⟩
    · refine ev_ift rfl (decide_eq_true h11) ?_
      exact em125_48 a1 a2 a3 a4 s0 x _ h
    · refine ev_iff rfl (decide_eq_false h11) ?_
      refine ev_run (n := 2) (u' := (0, 0)) (f' := (49, [some (.ref 138), some (.int a1), some (.int a2), some (.int a3), some (.int a4), some (.int s0), none], [.int 1])) (h' := hp N x) rfl ?_
      exact em125_49 a1 a2 a3 a4 s0 1 x _ h
def gm125_20 (a1 : Int32) (a2 : Int32) (a3 : Int32) (a4 : Int32) (x : Hs) : Option (Hs) := gm125_21 a1 a2 a3 a4 0 x
theorem em125_20 {N : Nat} (a1 : Int32) (a2 : Int32) (a3 : Int32) (a4 : Int32) (x : Hs) (r : Hs) (h : gm125_20 a1 a2 a3 a4 x = some r) : Ev 125 (0, 0) (20, [some (.ref 138), some (.int a1), some (.int a2), some (.int a3), some (.int a4), none, none], []) (hp N x) (cvMv N r) := by
  unfold gm125_20 at h
  refine ev_run (n := 1) (u' := (0, 0)) (f' := (21, [some (.ref 138), some (.int a1), some (.int a2), some (.int a3), some (.int a4), none, none], [.int 0])) (h' := hp N x) rfl ?_
  exact em125_21 a1 a2 a3 a4 0 x _ h
def gm125 (a1 : Int32) (a2 : Int32) (a3 : Int32) (a4 : Int32) (x : Hs) : Option (Hs) := (gm118 a1 x).bind fun w1 => (if w1 = 0 then (gm125_20 a1 a2 a3 a4 x) else ((gm117 a2 x).bind fun w3 => (if w3 = 0 then (gm125_20 a1 a2 a3 a4 x) else (gm125_21 a1 a2 a3 a4 1 x))))
theorem em125 {N : Nat} (a1 : Int32) (a2 : Int32) (a3 : Int32) (a4 : Int32) (x : Hs) (r : Hs) (h : gm125 a1 a2 a3 a4 x = some r) : Ev 125 (0, 0) (0, aPad [.ref 138, .int a1, .int a2, .int a3, .int a4] 7, []) (hp N x) (cvMv N r) := by
  show Ev 125 (0, 0) (0, [some (.ref 138), some (.int a1), some (.int a2), some (.int a3), some (.int a4), none, none], []) (hp N x) _
  unfold gm125 at h
  refine ev_run (n := 2) (u' := (0, 0)) (f' := (2, [some (.ref 138), some (.int a1), some (.int a2), some (.int a3), some (.int a4), none, none], [.int a1, .ref 138])) (h' := hp N x) rfl ?_
  obtain ⟨w1, h2, h⟩ := bind_ok h
  refine ev_call (v := some (.int w1)) (h1 := hp N x) rfl rfl rfl rfl (em118 a1 x _ h2) ?_
  show Ev 125 (0, 0) (5, [some (.ref 138), some (.int a1), some (.int a2), some (.int a3), some (.int a4), none, none], [.int w1]) (hp N x) _
  rcases ite_or h with ⟨h6, h⟩ | ⟨h6, h⟩
  · refine ev_ift rfl (decide_eq_true h6) ?_
    exact em125_20 a1 a2 a3 a4 x _ h
  · refine ev_iff rfl (decide_eq_false h6) ?_
    refine ev_run (n := 2) (u' := (0, 0)) (f' := (10, [some (.ref 138), some (.int a1), some (.int a2), some (.int a3), some (.int a4), none, none], [.int a2, .ref 138])) (h' := hp N x) rfl ?_
    obtain ⟨w3, h4, h⟩ := bind_ok h
    refine ev_call (v := some (.int w3)) (h1 := hp N x) rfl rfl rfl rfl (em117 a2 x _ h4) ?_
    show Ev 125 (0, 0) (13, [some (.ref 138), some (.int a1), some (.int a2), some (.int a3), some (.int a4), none, none], [.int w3]) (hp N x) _
    rcases ite_or h with ⟨h5, h⟩ | ⟨h5, h⟩
    · refine ev_ift rfl (decide_eq_true h5) ?_
      exact em125_20 a1 a2 a3 a4 x _ h
    · refine ev_iff rfl (decide_eq_false h5) ?_
      refine ev_run (n := 2) (u' := (0, 0)) (f' := (21, [some (.ref 138), some (.int a1), some (.int a2), some (.int a3), some (.int a4), none, none], [.int 1])) (h' := hp N x) rfl ?_
      exact em125_21 a1 a2 a3 a4 1 x _ h
def gm126_58 (a1 : Int32) (a2 : Int32) (s1 : Int32) (x : Hs) : Option (Hs) := (gm113 s1 x).bind fun w15 => (if w15.1 = 0 then (cond (aIn a1 24) (cond (aIn a1 24) (some (wI w15.2 144 (xi a1) (w15.2.1 144 (xi a1) ||| (1 <<< (a2 &&& 31))))) none) none) else (some w15.2))
theorem em126_58 {N : Nat} (a1 : Int32) (a2 : Int32) (s1 : Int32) (x : Hs) (r : Hs) (h : gm126_58 a1 a2 s1 x = some r) : Ev 126 (0, 0) (58, [some (.ref 138), some (.int a1), some (.int a2), none], [.int s1, .ref 138]) (hp N x) (cvMv N r) := by
  unfold gm126_58 at h
  obtain ⟨w15, h16, h⟩ := bind_ok h
  refine ev_call (v := some (.int w15.1)) (h1 := hp N w15.2) rfl rfl rfl rfl (em113 s1 x _ h16) ?_
  show Ev 126 (0, 0) (61, [some (.ref 138), some (.int a1), some (.int a2), none], [.int w15.1]) (hp N w15.2) _
  rcases ite_or h with ⟨h19, h⟩ | ⟨h19, h⟩
  · refine ev_iff rfl (decide_eq_false (fun w => w h19)) ?_
    refine ev_run (n := 4) (u' := (0, 0)) (f' := (70, [some (.ref 138), some (.int a1), some (.int a2), none], [.int a1, .ref 144, .int a1, .ref 144])) (h' := hp N w15.2) rfl ?_
    obtain ⟨h17, h⟩ := cond_some h
    refine ev_iald rfl rfl h17 ?_
    refine ev_run (n := 4) (u' := (0, 0)) (f' := (75, [some (.ref 138), some (.int a1), some (.int a2), none], [.int (w15.2.1 144 (xi a1) ||| (1 <<< (a2 &&& 31))), .int a1, .ref 144])) (h' := hp N w15.2) rfl ?_
    obtain ⟨h18, h⟩ := cond_some h
    refine ev_iast rfl rfl h18 ?_
    show Ev 126 (0, 0) (76, [some (.ref 138), some (.int a1), some (.int a2), none], []) (hp N (wI w15.2 144 (xi a1) (w15.2.1 144 (xi a1) ||| (1 <<< (a2 &&& 31))))) _
    cases h
    exact ev_vret rfl rfl rfl
  · refine ev_ift rfl (decide_eq_true h19) ?_
    cases h
    exact ev_vret rfl rfl rfl
def gm126_53 (a1 : Int32) (a2 : Int32) (x : Hs) : Option (Hs) := gm126_58 a1 a2 2 x
theorem em126_53 {N : Nat} (a1 : Int32) (a2 : Int32) (x : Hs) (r : Hs) (h : gm126_53 a1 a2 x = some r) : Ev 126 (0, 0) (53, [some (.ref 138), some (.int a1), some (.int a2), none], [.ref 138]) (hp N x) (cvMv N r) := by
  unfold gm126_53 at h
  refine ev_run (n := 2) (u' := (0, 0)) (f' := (58, [some (.ref 138), some (.int a1), some (.int a2), none], [.int 2, .ref 138])) (h' := hp N x) rfl ?_
  exact em126_58 a1 a2 2 x _ h
def gm126_22 (a1 : Int32) (a2 : Int32) (s0 : Int32) (x : Hs) : Option (Hs) := if s0 = 0 then (gm126_58 a1 a2 1 x) else (cond (aIn a1 24) ((gm115 (x.1 144 (xi a1)) a2 x).bind fun w8 => (if w8 = 0 then ((gm124 a1 x).bind fun w10 => (if w10 = 0 then (gm126_58 a1 a2 0 x) else (gm126_53 a1 a2 x))) else (gm126_53 a1 a2 x))) none)
theorem em126_22 {N : Nat} (a1 : Int32) (a2 : Int32) (s0 : Int32) (x : Hs) (r : Hs) (h : gm126_22 a1 a2 s0 x = some r) : Ev 126 (0, 0) (22, [some (.ref 138), some (.int a1), some (.int a2), none], [.int s0]) (hp N x) (cvMv N r) := by
  unfold gm126_22 at h
  refine ev_run (n := 3) (u' := (0, 0)) (f' := (25, [some (.ref 138), some (.int a1), some (.int a2), some (.int s0)], [.int s0, .ref 138])) (h' := hp N x) rfl ?_
  rcases ite_or h with ⟨h14, h⟩ | ⟨h14, h⟩
  · refine ev_iff rfl (decide_eq_false (fun w => w h14)) ?_
    refine ev_run (n := 2) (u' := (0, 0)) (f' := (58, [some (.ref 138), some (.int a1), some (.int a2), none], [.int 1, .ref 138])) (h' := hp N x) rfl ?_
    exact em126_58 a1 a2 1 x _ h
  · refine ev_ift rfl (decide_eq_true h14) ?_
    refine ev_run (n := 3) (u' := (0, 0)) (f' := (37, [some (.ref 138), some (.int a1), some (.int a2), none], [.int a1, .ref 144, .ref 138])) (h' := hp N x) rfl ?_
    obtain ⟨h7, h⟩ := cond_some h
    refine ev_iald rfl rfl h7 ?_
    refine ev_run (n := 1) (u' := (0, 0)) (f' := (39, [some (.ref 138), some (.int a1), some (.int a2), none], [.int a2, .int (x.1 144 (xi a1)), .ref 138])) (h' := hp N x) rfl ?_
    obtain ⟨w8, h9, h⟩ := bind_ok h
    refine ev_call (v := some (.int w8)) (h1 := hp N x) rfl rfl rfl rfl (em115 (x.1 144 (xi a1)) a2 x _ h9) ?_
    show Ev 126 (0, 0) (42, [some (.ref 138), some (.int a1), some (.int a2), none], [.int w8, .ref 138]) (hp N x) _
    rcases ite_or h with ⟨h13, h⟩ | ⟨h13, h⟩
    · refine ev_iff rfl (decide_eq_false (fun w => w h13)) ?_
      refine ev_run (n := 2) (u' := (0, 0)) (f' := (47, [some (.ref 138), some (.int a1), some (.int a2), none], [.int a1, .ref 138, .ref 138])) (h' := hp N x) rfl ?_
      obtain ⟨w10, h11, h⟩ := bind_ok h
      refine ev_call (v := some (.int w10)) (h1 := hp N x) rfl rfl rfl rfl (em124 a1 x _ h11) ?_
      show Ev 126 (0, 0) (50, [some (.ref 138), some (.int a1), some (.int a2), none], [.int w10, .ref 138]) (hp N x) _
      rcases ite_or h with ⟨h12, h⟩ | ⟨h12, h⟩
      · refine ev_ift rfl (decide_eq_true h12) ?_
        refine ev_run (n := 1) (u' := (0, 0)) (f' := (58, [some (.ref 138), some (.int a1), some (.int a2), none], [.int 0, .ref 138])) (h' := hp N x) rfl ?_
        exact em126_58 a1 a2 0 x _ h
      · refine ev_iff rfl (decide_eq_false h12) ?_
        exact em126_53 a1 a2 x _ h
    · refine ev_ift rfl (decide_eq_true h13) ?_
      exact em126_53 a1 a2 x _ h
def gm126_21 (a1 : Int32) (a2 : Int32) (x : Hs) : Option (Hs) := gm126_22 a1 a2 0 x
theorem em126_21 {N : Nat} (a1 : Int32) (a2 : Int32) (x : Hs) (r : Hs) (h : gm126_21 a1 a2 x = some r) : Ev 126 (0, 0) (21, [some (.ref 138), some (.int a1), some (.int a2), none], []) (hp N x) (cvMv N r) := by
  unfold gm126_21 at h
  refine ev_run (n := 1) (u' := (0, 0)) (f' := (22, [some (.ref 138), some (.int a1), some (.int a2), none], [.int 0])) (h' := hp N x) rfl ?_
  exact em126_22 a1 a2 0 x _ h
def gm126 (a1 : Int32) (a2 : Int32) (x : Hs) : Option (Hs) := (gm118 a1 x).bind fun w1 => (if w1 = 0 then (gm126_21 a1 a2 x) else ((gm114 a2 0 4 x).bind fun w3 => (if w3 = 0 then (gm126_21 a1 a2 x) else (gm126_22 a1 a2 1 x))))
theorem em126 {N : Nat} (a1 : Int32) (a2 : Int32) (x : Hs) (r : Hs) (h : gm126 a1 a2 x = some r) : Ev 126 (0, 0) (0, aPad [.ref 138, .int a1, .int a2] 4, []) (hp N x) (cvMv N r) := by
  show Ev 126 (0, 0) (0, [some (.ref 138), some (.int a1), some (.int a2), none], []) (hp N x) _
  unfold gm126 at h
  refine ev_run (n := 2) (u' := (0, 0)) (f' := (2, [some (.ref 138), some (.int a1), some (.int a2), none], [.int a1, .ref 138])) (h' := hp N x) rfl ?_
  obtain ⟨w1, h2, h⟩ := bind_ok h
  refine ev_call (v := some (.int w1)) (h1 := hp N x) rfl rfl rfl rfl (em118 a1 x _ h2) ?_
  show Ev 126 (0, 0) (5, [some (.ref 138), some (.int a1), some (.int a2), none], [.int w1]) (hp N x) _
  rcases ite_or h with ⟨h6, h⟩ | ⟨h6, h⟩
  · refine ev_ift rfl (decide_eq_true h6) ?_
    exact em126_21 a1 a2 x _ h
  · refine ev_iff rfl (decide_eq_false h6) ?_
    refine ev_run (n := 3) (u' := (0, 0)) (f' := (11, [some (.ref 138), some (.int a1), some (.int a2), none], [.int 4, .int 0, .int a2])) (h' := hp N x) rfl ?_
    obtain ⟨w3, h4, h⟩ := bind_ok h
    refine ev_call (v := some (.int w3)) (h1 := hp N x) rfl rfl rfl rfl (em114 a2 0 4 x _ h4) ?_
    show Ev 126 (0, 0) (14, [some (.ref 138), some (.int a1), some (.int a2), none], [.int w3]) (hp N x) _
    rcases ite_or h with ⟨h5, h⟩ | ⟨h5, h⟩
    · refine ev_ift rfl (decide_eq_true h5) ?_
      exact em126_21 a1 a2 x _ h
    · refine ev_iff rfl (decide_eq_false h5) ?_
      refine ev_run (n := 2) (u' := (0, 0)) (f' := (22, [some (.ref 138), some (.int a1), some (.int a2), none], [.int 1])) (h' := hp N x) rfl ?_
      exact em126_22 a1 a2 1 x _ h
def gm127_41 (a1 : Int32) (s1 : Int32) (s2 : Int32) (x : Hs) : Option (Int32 × Hs) := cond (aIn s1 24) (cond (aBit s2) (cond (aIn a1 24) (cond (aBit ((wI x 145 (xi s1) s2).1 145 (xi a1))) (some ((wI x 145 (xi s1) s2).1 145 (xi a1), (wI x 145 (xi s1) s2))) none) none) none) none
theorem em127_41 {N : Nat} (a1 : Int32) (s1 : Int32) (s2 : Int32) (x : Hs) (r : Int32 × Hs) (h : gm127_41 a1 s1 s2 x = some r) : Ev 127 (0, 0) (41, [some (.ref 138), some (.int a1)], [.int s2, .int s1, .ref 145]) (hp N x) (cvMi N r) := by
  unfold gm127_41 at h
  obtain ⟨h9, h⟩ := cond_some h
  obtain ⟨h10, h⟩ := cond_some h
  refine ev_bast rfl rfl h9 h10 ?_
  show Ev 127 (0, 0) (42, [some (.ref 138), some (.int a1)], []) (hp N (wI x 145 (xi s1) s2)) _
  refine ev_run (n := 3) (u' := (0, 0)) (f' := (47, [some (.ref 138), some (.int a1)], [.int a1, .ref 145])) (h' := hp N (wI x 145 (xi s1) s2)) rfl ?_
  obtain ⟨h11, h⟩ := cond_some h
  refine ev_bald rfl rfl h11 ?_
  obtain ⟨h12, h⟩ := cond_some h
  cases h
  exact ev_iret rfl rfl rfl (Or.inr ⟨rfl, h12⟩)
def gm127_14 (a1 : Int32) (s1 : Int32) (x : Hs) : Option (Int32 × Hs) := (gm113 s1 x).bind fun w4 => (if w4.1 = 0 then (cond (aIn a1 24) (if w4.2.1 145 (xi a1) = 0 then (gm127_41 a1 a1 1 w4.2) else (gm127_41 a1 a1 0 w4.2)) none) else (some (0, w4.2)))
theorem em127_14 {N : Nat} (a1 : Int32) (s1 : Int32) (x : Hs) (r : Int32 × Hs) (h : gm127_14 a1 s1 x = some r) : Ev 127 (0, 0) (14, [some (.ref 138), some (.int a1)], [.int s1, .ref 138]) (hp N x) (cvMi N r) := by
  unfold gm127_14 at h
  obtain ⟨w4, h5, h⟩ := bind_ok h
  refine ev_call (v := some (.int w4.1)) (h1 := hp N w4.2) rfl rfl rfl rfl (em113 s1 x _ h5) ?_
  show Ev 127 (0, 0) (17, [some (.ref 138), some (.int a1)], [.int w4.1]) (hp N w4.2) _
  rcases ite_or h with ⟨h8, h⟩ | ⟨h8, h⟩
  · refine ev_ift rfl (decide_eq_true h8) ?_
    refine ev_run (n := 6) (u' := (0, 0)) (f' := (32, [some (.ref 138), some (.int a1)], [.int a1, .ref 145, .int a1, .ref 145])) (h' := hp N w4.2) rfl ?_
    obtain ⟨h6, h⟩ := cond_some h
    refine ev_bald rfl rfl h6 ?_
    rcases ite_or h with ⟨h7, h⟩ | ⟨h7, h⟩
    · refine ev_iff rfl (decide_eq_false (fun w => w h7)) ?_
      refine ev_run (n := 2) (u' := (0, 0)) (f' := (41, [some (.ref 138), some (.int a1)], [.int 1, .int a1, .ref 145])) (h' := hp N w4.2) rfl ?_
      exact em127_41 a1 a1 1 w4.2 _ h
    · refine ev_ift rfl (decide_eq_true h7) ?_
      refine ev_run (n := 1) (u' := (0, 0)) (f' := (41, [some (.ref 138), some (.int a1)], [.int 0, .int a1, .ref 145])) (h' := hp N w4.2) rfl ?_
      exact em127_41 a1 a1 0 w4.2 _ h
  · refine ev_iff rfl (decide_eq_false h8) ?_
    refine ev_run (n := 1) (u' := (0, 0)) (f' := (21, [some (.ref 138), some (.int a1)], [.int 0])) (h' := hp N w4.2) rfl ?_
    cases h
    exact ev_iret rfl rfl rfl (Or.inr ⟨rfl, rfl⟩)
def gm127 (a1 : Int32) (x : Hs) : Option (Int32 × Hs) := (gm118 a1 x).bind fun w1 => (if w1 = 0 then (gm127_14 a1 1 x) else (gm127_14 a1 0 x))
theorem em127 {N : Nat} (a1 : Int32) (x : Hs) (r : Int32 × Hs) (h : gm127 a1 x = some r) : Ev 127 (0, 0) (0, aPad [.ref 138, .int a1] 2, []) (hp N x) (cvMi N r) := by
  show Ev 127 (0, 0) (0, [some (.ref 138), some (.int a1)], []) (hp N x) _
  unfold gm127 at h
  refine ev_run (n := 3) (u' := (0, 0)) (f' := (3, [some (.ref 138), some (.int a1)], [.int a1, .ref 138, .ref 138])) (h' := hp N x) rfl ?_
  obtain ⟨w1, h2, h⟩ := bind_ok h
  refine ev_call (v := some (.int w1)) (h1 := hp N x) rfl rfl rfl rfl (em118 a1 x _ h2) ?_
  show Ev 127 (0, 0) (6, [some (.ref 138), some (.int a1)], [.int w1, .ref 138]) (hp N x) _
  rcases ite_or h with ⟨h3, h⟩ | ⟨h3, h⟩
  · refine ev_ift rfl (decide_eq_true h3) ?_
    refine ev_run (n := 1) (u' := (0, 0)) (f' := (14, [some (.ref 138), some (.int a1)], [.int 1, .ref 138])) (h' := hp N x) rfl ?_
    exact em127_14 a1 1 x _ h
  · refine ev_iff rfl (decide_eq_false h3) ?_
    refine ev_run (n := 2) (u' := (0, 0)) (f' := (14, [some (.ref 138), some (.int a1)], [.int 0, .ref 138])) (h' := hp N x) rfl ?_
    exact em127_14 a1 0 x _ h
def gm128_42 (k4 : Int32 → Int32 → Int32 → Hs → Option (Int32)) (a1 : Int32) (a3 : Int32) (s0 : Int32) (x : Hs) : Option (Int32) := k4 a1 s0 (a3 + 1) x
theorem em128_42 {N : Nat} (k4 : Int32 → Int32 → Int32 → Hs → Option (Int32)) (q4 : ∀ (a1 : Int32) (a2 : Int32) (a3 : Int32) (x : Hs) (r : Int32), k4 a1 a2 a3 x = some r → Ev 128 (0, 0) (4, [some (.ref 138), some (.int a1), some (.int a2), some (.int a3)], []) (hp N x) (cvPi N x r)) (a1 : Int32) (a3 : Int32) (s0 : Int32) (x : Hs) (r : Int32) (h : gm128_42 k4 a1 a3 s0 x = some r) : Ev 128 (0, 0) (42, [some (.ref 138), some (.int a1), none, some (.int a3)], [.int s0]) (hp N x) (cvPi N x r) := by
  unfold gm128_42 at h
  refine ev_run (n := 3) (u' := (0, 0)) (f' := (4, [some (.ref 138), some (.int a1), some (.int s0), some (.int (a3 + 1))], [])) (h' := hp N x) rfl ?_
  exact q4 a1 s0 (a3 + 1) x _ h
def gm128_37 (k4 : Int32 → Int32 → Int32 → Hs → Option (Int32)) (a1 : Int32) (a3 : Int32) (x : Hs) : Option (Int32) := gm128_42 k4 a1 a3 1 x
theorem em128_37 {N : Nat} (k4 : Int32 → Int32 → Int32 → Hs → Option (Int32)) (q4 : ∀ (a1 : Int32) (a2 : Int32) (a3 : Int32) (x : Hs) (r : Int32), k4 a1 a2 a3 x = some r → Ev 128 (0, 0) (4, [some (.ref 138), some (.int a1), some (.int a2), some (.int a3)], []) (hp N x) (cvPi N x r)) (a1 : Int32) (a3 : Int32) (x : Hs) (r : Int32) (h : gm128_37 k4 a1 a3 x = some r) : Ev 128 (0, 0) (37, [some (.ref 138), some (.int a1), none, some (.int a3)], []) (hp N x) (cvPi N x r) := by
  unfold gm128_37 at h
  refine ev_run (n := 2) (u' := (0, 0)) (f' := (42, [some (.ref 138), some (.int a1), none, some (.int a3)], [.int 1])) (h' := hp N x) rfl ?_
  exact em128_42 k4 q4 a1 a3 1 x _ h
theorem em128_37_k1 {N : Nat} (k4 : Int32 → Int32 → Int32 → Hs → Option (Int32)) (q4 : ∀ (a1 : Int32) (a2 : Int32) (a3 : Int32) (x : Hs) (r : Int32), k4 a1 a2 a3 x = some r → Ev 128 (0, 0) (4, [some (.ref 138), some (.int a1), some (.int a2), some (.int a3)], []) (hp N x) (cvPi N x r)) (a1 : Int32) (a2 : Int32) (a3 : Int32) (x : Hs) (r : Int32) (h : gm128_37 k4 a1 a3 x = some r) : Ev 128 (0, 0) (37, [some (.ref 138), some (.int a1), some (.int a2), some (.int a3)], []) (hp N x) (cvPi N x r) := by
  unfold gm128_37 at h
  refine ev_run (n := 2) (u' := (0, 0)) (f' := (42, [some (.ref 138), some (.int a1), none, some (.int a3)], [.int 1])) (h' := hp N x) rfl ?_
  exact em128_42 k4 q4 a1 a3 1 x _ h
def gm128_41 (k4 : Int32 → Int32 → Int32 → Hs → Option (Int32)) (a1 : Int32) (a3 : Int32) (x : Hs) : Option (Int32) := gm128_42 k4 a1 a3 0 x
theorem em128_41 {N : Nat} (k4 : Int32 → Int32 → Int32 → Hs → Option (Int32)) (q4 : ∀ (a1 : Int32) (a2 : Int32) (a3 : Int32) (x : Hs) (r : Int32), k4 a1 a2 a3 x = some r → Ev 128 (0, 0) (4, [some (.ref 138), some (.int a1), some (.int a2), some (.int a3)], []) (hp N x) (cvPi N x r)) (a1 : Int32) (a3 : Int32) (x : Hs) (r : Int32) (h : gm128_41 k4 a1 a3 x = some r) : Ev 128 (0, 0) (41, [some (.ref 138), some (.int a1), none, some (.int a3)], []) (hp N x) (cvPi N x r) := by
  unfold gm128_41 at h
  refine ev_run (n := 1) (u' := (0, 0)) (f' := (42, [some (.ref 138), some (.int a1), none, some (.int a3)], [.int 0])) (h' := hp N x) rfl ?_
  exact em128_42 k4 q4 a1 a3 0 x _ h
def gm128_4 : Nat → Int32 → Int32 → Int32 → Hs → Option (Int32)
  | 0, _, _, _, _ => none
  | n + 1, a1, a2, a3, x => if a3 ≥ x.1 138 3 then (cond (aBit a2) (some a2) none) else (if a2 = 0 then (cond (aIn a3 24) ((gm115 (x.1 144 (xi a3)) a1 x).bind fun w3 => (if w3 = 0 then (gm128_41 (gm128_4 n) a1 a3 x) else ((gm124 a3 x).bind fun w5 => (if w5 = 0 then (gm128_41 (gm128_4 n) a1 a3 x) else (gm128_37 (gm128_4 n) a1 a3 x))))) none) else (gm128_37 (gm128_4 n) a1 a3 x))
theorem em128_4 {N : Nat} : ∀ (n : Nat) (a1 : Int32) (a2 : Int32) (a3 : Int32) (x : Hs) (r : Int32), gm128_4 n a1 a2 a3 x = some r → Ev 128 (0, 0) (4, [some (.ref 138), some (.int a1), some (.int a2), some (.int a3)], []) (hp N x) (cvPi N x r)
  | 0, a1, a2, a3, x, r, h => by
    have e9 : (none : Option (Int32)) = some r := h
    cases e9
  | n + 1, a1, a2, a3, x, r, h => by
    have q4 := em128_4 (N := N) n
    rw [gm128_4] at h
    refine ev_run (n := 3) (u' := (0, 0)) (f' := (9, [some (.ref 138), some (.int a1), some (.int a2), some (.int a3)], [.int (x.1 138 3), .int a3])) (h' := hp N x) rfl ?_
    rcases ite_or h with ⟨h10, h⟩ | ⟨h10, h⟩
    · refine ev_ict rfl (decide_eq_true h10) ?_
      refine ev_run (n := 1) (u' := (0, 0)) (f' := (50, [none, none, some (.int a2), none], [.int a2])) (h' := hp N x) rfl ?_
      obtain ⟨h1, h⟩ := cond_some h
      cases h
      exact ev_iret rfl rfl rfl (Or.inr ⟨rfl, h1⟩)
    · refine ev_icf rfl (decide_eq_false h10) ?_
      refine ev_run (n := 1) (u' := (0, 0)) (f' := (13, [some (.ref 138), some (.int a1), some (.int a2), some (.int a3)], [.int a2])) (h' := hp N x) rfl ?_
      rcases ite_or h with ⟨h9, h⟩ | ⟨h9, h⟩
      · refine ev_iff rfl (decide_eq_false (fun w => w h9)) ?_
        refine ev_run (n := 3) (u' := (0, 0)) (f' := (21, [some (.ref 138), some (.int a1), some (.int a2), some (.int a3)], [.int a3, .ref 144])) (h' := hp N x) rfl ?_
        obtain ⟨h2, h⟩ := cond_some h
        refine ev_iald rfl rfl h2 ?_
        refine ev_run (n := 1) (u' := (0, 0)) (f' := (23, [some (.ref 138), some (.int a1), some (.int a2), some (.int a3)], [.int a1, .int (x.1 144 (xi a3))])) (h' := hp N x) rfl ?_
        obtain ⟨w3, h4, h⟩ := bind_ok h
        refine ev_call (v := some (.int w3)) (h1 := hp N x) rfl rfl rfl rfl (em115 (x.1 144 (xi a3)) a1 x _ h4) ?_
        show Ev 128 (0, 0) (26, [some (.ref 138), some (.int a1), some (.int a2), some (.int a3)], [.int w3]) (hp N x) _
        rcases ite_or h with ⟨h8, h⟩ | ⟨h8, h⟩
        · refine ev_ift rfl (decide_eq_true h8) ?_
          exact em128_41 (gm128_4 n) q4 a1 a3 x _ h
        · refine ev_iff rfl (decide_eq_false h8) ?_
          refine ev_run (n := 2) (u' := (0, 0)) (f' := (31, [some (.ref 138), some (.int a1), some (.int a2), some (.int a3)], [.int a3, .ref 138])) (h' := hp N x) rfl ?_
          obtain ⟨w5, h6, h⟩ := bind_ok h
          refine ev_call (v := some (.int w5)) (h1 := hp N x) rfl rfl rfl rfl (em124 a3 x _ h6) ?_
          show Ev 128 (0, 0) (34, [some (.ref 138), some (.int a1), some (.int a2), some (.int a3)], [.int w5]) (hp N x) _
          rcases ite_or h with ⟨h7, h⟩ | ⟨h7, h⟩
          · refine ev_ift rfl (decide_eq_true h7) ?_
            exact em128_41 (gm128_4 n) q4 a1 a3 x _ h
          · refine ev_iff rfl (decide_eq_false h7) ?_
            exact em128_37_k1 (gm128_4 n) q4 a1 a2 a3 x _ h
      · refine ev_ift rfl (decide_eq_true h9) ?_
        exact em128_37 (gm128_4 n) q4 a1 a3 x _ h
def gm128 (a1 : Int32) (x : Hs) : Option (Int32) := gm128_4 FU a1 0 0 x
theorem em128 {N : Nat} (a1 : Int32) (x : Hs) (r : Int32) (h : gm128 a1 x = some r) : Ev 128 (0, 0) (0, aPad [.ref 138, .int a1] 4, []) (hp N x) (cvPi N x r) := by
  show Ev 128 (0, 0) (0, [some (.ref 138), some (.int a1), none, none], []) (hp N x) _
  unfold gm128 at h
  refine ev_run (n := 4) (u' := (0, 0)) (f' := (4, [some (.ref 138), some (.int a1), some (.int 0), some (.int 0)], [])) (h' := hp N x) rfl ?_
  exact em128_4 FU a1 0 0 x _ h
def gm129_185 (a1 : Int32) (s1 : Int32) (s2 : Int32) (x : Hs) : Option (Int32 × Hs) := cond (aIn s1 5) (cond (aIn a1 5) (some ((wI x 146 (xi s1) s2).1 146 (xi a1), (wI x 146 (xi s1) s2))) none) none
theorem em129_185 {N : Nat} (a1 : Int32) (a2 : Int32) (s1 : Int32) (s2 : Int32) (x : Hs) (r : Int32 × Hs) (h : gm129_185 a1 s1 s2 x = some r) : Ev 129 (0, 0) (185, [some (.ref 138), some (.int a1), some (.int a2), none, none, none], [.int s2, .int s1, .ref 146]) (hp N x) (cvMi N r) := by
  unfold gm129_185 at h
  obtain ⟨h31, h⟩ := cond_some h
  refine ev_iast rfl rfl h31 ?_
  show Ev 129 (0, 0) (186, [some (.ref 138), some (.int a1), some (.int a2), none, none, none], []) (hp N (wI x 146 (xi s1) s2)) _
  refine ev_run (n := 3) (u' := (0, 0)) (f' := (191, [some (.ref 138), some (.int a1), some (.int a2), none, none, none], [.int a1, .ref 146])) (h' := hp N (wI x 146 (xi s1) s2)) rfl ?_
  obtain ⟨h32, h⟩ := cond_some h
  refine ev_iald rfl rfl h32 ?_
  cases h
  exact ev_iret rfl rfl rfl (Or.inl rfl)
theorem em129_185_k1 {N : Nat} (a1 : Int32) (s1 : Int32) (s2 : Int32) (x : Hs) (r : Int32 × Hs) (h : gm129_185 a1 s1 s2 x = some r) : Ev 129 (0, 0) (185, [some (.ref 138), some (.int a1), none, none, none, none], [.int s2, .int s1, .ref 146]) (hp N x) (cvMi N r) := by
  unfold gm129_185 at h
  obtain ⟨h33, h⟩ := cond_some h
  refine ev_iast rfl rfl h33 ?_
  show Ev 129 (0, 0) (186, [some (.ref 138), some (.int a1), none, none, none, none], []) (hp N (wI x 146 (xi s1) s2)) _
  refine ev_run (n := 3) (u' := (0, 0)) (f' := (191, [some (.ref 138), some (.int a1), none, none, none, none], [.int a1, .ref 146])) (h' := hp N (wI x 146 (xi s1) s2)) rfl ?_
  obtain ⟨h34, h⟩ := cond_some h
  refine ev_iald rfl rfl h34 ?_
  cases h
  exact ev_iret rfl rfl rfl (Or.inl rfl)
def gm129_117 (a1 : Int32) (a2 : Int32) (s1 : Int32) (x : Hs) : Option (Int32 × Hs) := (gm113 s1 x).bind fun w21 => (if w21.1 = 0 then (if a2 = (-1) then (cond (aIn a1 5) (some ((-1), (wI w21.2 146 (xi a1) (-2)))) none) else (cond (aIn a1 5) (if w21.2.1 146 (xi a1) = (-1) then (gm129_185 a1 a1 0 w21.2) else (cond (aIn a1 5) (if (w21.2.1 146 (xi a1) + a2) ≤ 100 then (cond (aIn a1 5) (gm129_185 a1 a1 (w21.2.1 146 (xi a1) + a2) w21.2) none) else (gm129_185 a1 a1 100 w21.2)) none)) none)) else (some (0, w21.2)))
theorem em129_117 {N : Nat} (a1 : Int32) (a2 : Int32) (s1 : Int32) (x : Hs) (r : Int32 × Hs) (h : gm129_117 a1 a2 s1 x = some r) : Ev 129 (0, 0) (117, [some (.ref 138), some (.int a1), some (.int a2), none, none, none], [.int s1, .ref 138]) (hp N x) (cvMi N r) := by
  unfold gm129_117 at h
  obtain ⟨w21, h22, h⟩ := bind_ok h
  refine ev_call (v := some (.int w21.1)) (h1 := hp N w21.2) rfl rfl rfl rfl (em113 s1 x _ h22) ?_
  show Ev 129 (0, 0) (120, [some (.ref 138), some (.int a1), some (.int a2), none, none, none], [.int w21.1]) (hp N w21.2) _
  rcases ite_or h with ⟨h30, h⟩ | ⟨h30, h⟩
  · refine ev_ift rfl (decide_eq_true h30) ?_
    refine ev_run (n := 2) (u' := (0, 0)) (f' := (127, [some (.ref 138), some (.int a1), some (.int a2), none, none, none], [.int (-1), .int a2])) (h' := hp N w21.2) rfl ?_
    rcases ite_or h with ⟨h29, h⟩ | ⟨h29, h⟩
    · refine ev_icf rfl (decide_eq_false (fun w => w h29)) ?_
      refine ev_run (n := 4) (u' := (0, 0)) (f' := (137, [some (.ref 138), some (.int a1), some (.int a2), none, none, none], [.int (-2), .int a1, .ref 146])) (h' := hp N w21.2) rfl ?_
      obtain ⟨h28, h⟩ := cond_some h
      refine ev_iast rfl rfl h28 ?_
      show Ev 129 (0, 0) (138, [some (.ref 138), some (.int a1), some (.int a2), none, none, none], []) (hp N (wI w21.2 146 (xi a1) (-2))) _
      refine ev_run (n := 1) (u' := (0, 0)) (f' := (139, [some (.ref 138), some (.int a1), some (.int a2), none, none, none], [.int (-1)])) (h' := hp N (wI w21.2 146 (xi a1) (-2))) rfl ?_
      cases h
      exact ev_iret rfl rfl rfl (Or.inl rfl)
    · refine ev_ict rfl (decide_eq_true h29) ?_
      refine ev_run (n := 6) (u' := (0, 0)) (f' := (150, [some (.ref 138), some (.int a1), some (.int a2), none, none, none], [.int a1, .ref 146, .int a1, .ref 146])) (h' := hp N w21.2) rfl ?_
      obtain ⟨h23, h⟩ := cond_some h
      refine ev_iald rfl rfl h23 ?_
      refine ev_run (n := 1) (u' := (0, 0)) (f' := (152, [some (.ref 138), some (.int a1), some (.int a2), none, none, none], [.int (-1), .int (w21.2.1 146 (xi a1)), .int a1, .ref 146])) (h' := hp N w21.2) rfl ?_
      rcases ite_or h with ⟨h27, h⟩ | ⟨h27, h⟩
      · refine ev_icf rfl (decide_eq_false (fun w => w h27)) ?_
        refine ev_run (n := 2) (u' := (0, 0)) (f' := (185, [some (.ref 138), some (.int a1), none, none, none, none], [.int 0, .int a1, .ref 146])) (h' := hp N w21.2) rfl ?_
        exact em129_185_k1 a1 a1 0 w21.2 _ h
      · refine ev_ict rfl (decide_eq_true h27) ?_
        refine ev_run (n := 3) (u' := (0, 0)) (f' := (164, [some (.ref 138), some (.int a1), some (.int a2), none, none, none], [.int a1, .ref 146, .int a1, .ref 146])) (h' := hp N w21.2) rfl ?_
        obtain ⟨h24, h⟩ := cond_some h
        refine ev_iald rfl rfl h24 ?_
        refine ev_run (n := 3) (u' := (0, 0)) (f' := (169, [some (.ref 138), some (.int a1), some (.int a2), none, none, none], [.int 100, .int (w21.2.1 146 (xi a1) + a2), .int a1, .ref 146])) (h' := hp N w21.2) rfl ?_
        rcases ite_or h with ⟨h26, h⟩ | ⟨h26, h⟩
        · refine ev_ict rfl (decide_eq_true h26) ?_
          refine ev_run (n := 3) (u' := (0, 0)) (f' := (182, [some (.ref 138), some (.int a1), some (.int a2), none, none, none], [.int a1, .ref 146, .int a1, .ref 146])) (h' := hp N w21.2) rfl ?_
          obtain ⟨h25, h⟩ := cond_some h
          refine ev_iald rfl rfl h25 ?_
          refine ev_run (n := 2) (u' := (0, 0)) (f' := (185, [some (.ref 138), some (.int a1), some (.int a2), none, none, none], [.int (w21.2.1 146 (xi a1) + a2), .int a1, .ref 146])) (h' := hp N w21.2) rfl ?_
          exact em129_185 a1 a2 a1 (w21.2.1 146 (xi a1) + a2) w21.2 _ h
        · refine ev_icf rfl (decide_eq_false h26) ?_
          refine ev_run (n := 2) (u' := (0, 0)) (f' := (185, [some (.ref 138), some (.int a1), none, none, none, none], [.int 100, .int a1, .ref 146])) (h' := hp N w21.2) rfl ?_
          exact em129_185_k1 a1 a1 100 w21.2 _ h
  · refine ev_iff rfl (decide_eq_false h30) ?_
    refine ev_run (n := 1) (u' := (0, 0)) (f' := (124, [some (.ref 138), some (.int a1), some (.int a2), none, none, none], [.int 0])) (h' := hp N w21.2) rfl ?_
    cases h
    exact ev_iret rfl rfl rfl (Or.inl rfl)
def gm129_87 (a1 : Int32) (a2 : Int32) (a3 : Int32) (a4 : Int32) (s0 : Int32) (x : Hs) : Option (Int32 × Hs) := if a3 = 0 then (gm129_117 a1 a2 1 x) else (if a4 = 0 then (gm129_117 a1 a2 2 x) else (if s0 = 0 then (gm129_117 a1 a2 3 x) else (gm129_117 a1 a2 0 x)))
theorem em129_87 {N : Nat} (a1 : Int32) (a2 : Int32) (a3 : Int32) (a4 : Int32) (s0 : Int32) (x : Hs) (r : Int32 × Hs) (h : gm129_87 a1 a2 a3 a4 s0 x = some r) : Ev 129 (0, 0) (87, [some (.ref 138), some (.int a1), some (.int a2), some (.int a3), some (.int a4), none], [.int s0]) (hp N x) (cvMi N r) := by
  unfold gm129_87 at h
  refine ev_run (n := 3) (u' := (0, 0)) (f' := (91, [some (.ref 138), some (.int a1), some (.int a2), some (.int a3), some (.int a4), some (.int s0)], [.int a3, .ref 138])) (h' := hp N x) rfl ?_
  rcases ite_or h with ⟨h20, h⟩ | ⟨h20, h⟩
  · refine ev_iff rfl (decide_eq_false (fun w => w h20)) ?_
    refine ev_run (n := 2) (u' := (0, 0)) (f' := (117, [some (.ref 138), some (.int a1), some (.int a2), none, none, none], [.int 1, .ref 138])) (h' := hp N x) rfl ?_
    exact em129_117 a1 a2 1 x _ h
  · refine ev_ift rfl (decide_eq_true h20) ?_
    refine ev_run (n := 1) (u' := (0, 0)) (f' := (100, [some (.ref 138), some (.int a1), some (.int a2), none, some (.int a4), some (.int s0)], [.int a4, .ref 138])) (h' := hp N x) rfl ?_
    rcases ite_or h with ⟨h19, h⟩ | ⟨h19, h⟩
    · refine ev_iff rfl (decide_eq_false (fun w => w h19)) ?_
      refine ev_run (n := 2) (u' := (0, 0)) (f' := (117, [some (.ref 138), some (.int a1), some (.int a2), none, none, none], [.int 2, .ref 138])) (h' := hp N x) rfl ?_
      exact em129_117 a1 a2 2 x _ h
    · refine ev_ift rfl (decide_eq_true h19) ?_
      refine ev_run (n := 1) (u' := (0, 0)) (f' := (109, [some (.ref 138), some (.int a1), some (.int a2), none, none, some (.int s0)], [.int s0, .ref 138])) (h' := hp N x) rfl ?_
      rcases ite_or h with ⟨h18, h⟩ | ⟨h18, h⟩
      · refine ev_ift rfl (decide_eq_true h18) ?_
        refine ev_run (n := 1) (u' := (0, 0)) (f' := (117, [some (.ref 138), some (.int a1), some (.int a2), none, none, none], [.int 3, .ref 138])) (h' := hp N x) rfl ?_
        exact em129_117 a1 a2 3 x _ h
      · refine ev_iff rfl (decide_eq_false h18) ?_
        refine ev_run (n := 2) (u' := (0, 0)) (f' := (117, [some (.ref 138), some (.int a1), some (.int a2), none, none, none], [.int 0, .ref 138])) (h' := hp N x) rfl ?_
        exact em129_117 a1 a2 0 x _ h
def gm129_82 (a1 : Int32) (a2 : Int32) (a3 : Int32) (a4 : Int32) (x : Hs) : Option (Int32 × Hs) := gm129_87 a1 a2 a3 a4 1 x
theorem em129_82 {N : Nat} (a1 : Int32) (a2 : Int32) (a3 : Int32) (a4 : Int32) (x : Hs) (r : Int32 × Hs) (h : gm129_82 a1 a2 a3 a4 x = some r) : Ev 129 (0, 0) (82, [some (.ref 138), some (.int a1), some (.int a2), some (.int a3), some (.int a4), none], []) (hp N x) (cvMi N r) := by
  unfold gm129_82 at h
  refine ev_run (n := 2) (u' := (0, 0)) (f' := (87, [some (.ref 138), some (.int a1), some (.int a2), some (.int a3), some (.int a4), none], [.int 1])) (h' := hp N x) rfl ?_
  exact em129_87 a1 a2 a3 a4 1 x _ h
def gm129_86 (a1 : Int32) (a2 : Int32) (a3 : Int32) (a4 : Int32) (x : Hs) : Option (Int32 × Hs) := gm129_87 a1 a2 a3 a4 0 x
theorem em129_86 {N : Nat} (a1 : Int32) (a2 : Int32) (a3 : Int32) (a4 : Int32) (x : Hs) (r : Int32 × Hs) (h : gm129_86 a1 a2 a3 a4 x = some r) : Ev 129 (0, 0) (86, [some (.ref 138), some (.int a1), some (.int a2), some (.int a3), some (.int a4), none], []) (hp N x) (cvMi N r) := by
  unfold gm129_86 at h
  refine ev_run (n := 1) (u' := (0, 0)) (f' := (87, [some (.ref 138), some (.int a1), some (.int a2), some (.int a3), some (.int a4), none], [.int 0])) (h' := hp N x) rfl ?_
  exact em129_87 a1 a2 a3 a4 0 x _ h
def gm129_27 (a1 : Int32) (a2 : Int32) (a3 : Int32) (s0 : Int32) (x : Hs) : Option (Int32 × Hs) := if a3 = 0 then (gm129_86 a1 a2 a3 s0 x) else (cond (aIn a1 5) (if x.1 146 (xi a1) = (-2) then (gm129_86 a1 a2 a3 s0 x) else (if a2 = (-1) then (cond (aIn a1 5) (if x.1 146 (xi a1) = 100 then ((gm128 a1 x).bind fun w11 => (if w11 = 0 then (gm129_82 a1 a2 a3 s0 x) else (gm129_86 a1 a2 a3 s0 x))) else (gm129_86 a1 a2 a3 s0 x)) none) else (cond (aIn a1 5) (if x.1 146 (xi a1) ≥ 100 then (gm129_86 a1 a2 a3 s0 x) else (gm129_82 a1 a2 a3 s0 x)) none))) none)
theorem em129_27 {N : Nat} (a1 : Int32) (a2 : Int32) (a3 : Int32) (s0 : Int32) (x : Hs) (r : Int32 × Hs) (h : gm129_27 a1 a2 a3 s0 x = some r) : Ev 129 (0, 0) (27, [some (.ref 138), some (.int a1), some (.int a2), some (.int a3), none, none], [.int s0]) (hp N x) (cvMi N r) := by
  unfold gm129_27 at h
  refine ev_run (n := 2) (u' := (0, 0)) (f' := (30, [some (.ref 138), some (.int a1), some (.int a2), some (.int a3), some (.int s0), none], [.int a3])) (h' := hp N x) rfl ?_
  rcases ite_or h with ⟨h17, h⟩ | ⟨h17, h⟩
  · refine ev_ift rfl (decide_eq_true h17) ?_
    exact em129_86 a1 a2 a3 s0 x _ h
  · refine ev_iff rfl (decide_eq_false h17) ?_
    refine ev_run (n := 3) (u' := (0, 0)) (f' := (38, [some (.ref 138), some (.int a1), some (.int a2), some (.int a3), some (.int s0), none], [.int a1, .ref 146])) (h' := hp N x) rfl ?_
    obtain ⟨h7, h⟩ := cond_some h
    refine ev_iald rfl rfl h7 ?_
    refine ev_run (n := 1) (u' := (0, 0)) (f' := (41, [some (.ref 138), some (.int a1), some (.int a2), some (.int a3), some (.int s0), none], [.int (-2), .int (x.1 146 (xi a1))])) (h' := hp N x) rfl ?_
    rcases ite_or h with ⟨h16, h⟩ | ⟨h16, h⟩
    · refine ev_ict rfl (decide_eq_true h16) ?_
      exact em129_86 a1 a2 a3 s0 x _ h
    · refine ev_icf rfl (decide_eq_false h16) ?_
      refine ev_run (n := 2) (u' := (0, 0)) (f' := (46, [some (.ref 138), some (.int a1), some (.int a2), some (.int a3), some (.int s0), none], [.int (-1), .int a2])) (h' := hp N x) rfl ?_
      rcases ite_or h with ⟨h15, h⟩ | ⟨h15, h⟩
      · refine ev_icf rfl (decide_eq_false (fun w => w h15)) ?_
        refine ev_run (n := 3) (u' := (0, 0)) (f' := (54, [some (.ref 138), some (.int a1), some (.int a2), some (.int a3), some (.int s0), none], [.int a1, .ref 146])) (h' := hp N x) rfl ?_
        obtain ⟨h10, h⟩ := cond_some h
        refine ev_iald rfl rfl h10 ?_
        refine ev_run (n := 1) (u' := (0, 0)) (f' := (57, [some (.ref 138), some (.int a1), some (.int a2), some (.int a3), some (.int s0), none], [.int 100, .int (x.1 146 (xi a1))])) (h' := hp N x) rfl ?_
        rcases ite_or h with ⟨h14, h⟩ | ⟨h14, h⟩
        · refine ev_icf rfl (decide_eq_false (fun w => w h14)) ?_
          refine ev_run (n := 2) (u' := (0, 0)) (f' := (62, [some (.ref 138), some (.int a1), some (.int a2), some (.int a3), some (.int s0), none], [.int a1, .ref 138])) (h' := hp N x) rfl ?_
          obtain ⟨w11, h12, h⟩ := bind_ok h
          refine ev_call (v := some (.int w11)) (h1 := hp N x) rfl rfl rfl rfl (em128 a1 x _ h12) ?_
          show Ev 129 (0, 0) (65, [some (.ref 138), some (.int a1), some (.int a2), some (.int a3), some (.int s0), none], [.int w11]) (hp N x) _
          rcases ite_or h with ⟨h13, h⟩ | ⟨h13, h⟩
          · refine ev_iff rfl (decide_eq_false (fun w => w h13)) ?_
            refine ev_run (n := 1) (u' := (0, 0)) (f' := (82, [some (.ref 138), some (.int a1), some (.int a2), some (.int a3), some (.int s0), none], [])) (h' := hp N x) rfl ?_
            exact em129_82 a1 a2 a3 s0 x _ h
          · refine ev_ift rfl (decide_eq_true h13) ?_
            exact em129_86 a1 a2 a3 s0 x _ h
        · refine ev_ict rfl (decide_eq_true h14) ?_
          exact em129_86 a1 a2 a3 s0 x _ h
      · refine ev_ict rfl (decide_eq_true h15) ?_
        refine ev_run (n := 3) (u' := (0, 0)) (f' := (76, [some (.ref 138), some (.int a1), some (.int a2), some (.int a3), some (.int s0), none], [.int a1, .ref 146])) (h' := hp N x) rfl ?_
        obtain ⟨h8, h⟩ := cond_some h
        refine ev_iald rfl rfl h8 ?_
        refine ev_run (n := 1) (u' := (0, 0)) (f' := (79, [some (.ref 138), some (.int a1), some (.int a2), some (.int a3), some (.int s0), none], [.int 100, .int (x.1 146 (xi a1))])) (h' := hp N x) rfl ?_
        rcases ite_or h with ⟨h9, h⟩ | ⟨h9, h⟩
        · refine ev_ict rfl (decide_eq_true h9) ?_
          exact em129_86 a1 a2 a3 s0 x _ h
        · refine ev_icf rfl (decide_eq_false h9) ?_
          exact em129_82 a1 a2 a3 s0 x _ h
def gm129_22 (a1 : Int32) (a2 : Int32) (a3 : Int32) (x : Hs) : Option (Int32 × Hs) := gm129_27 a1 a2 a3 1 x
theorem em129_22 {N : Nat} (a1 : Int32) (a2 : Int32) (a3 : Int32) (x : Hs) (r : Int32 × Hs) (h : gm129_22 a1 a2 a3 x = some r) : Ev 129 (0, 0) (22, [some (.ref 138), some (.int a1), some (.int a2), some (.int a3), none, none], []) (hp N x) (cvMi N r) := by
  unfold gm129_22 at h
  refine ev_run (n := 2) (u' := (0, 0)) (f' := (27, [some (.ref 138), some (.int a1), some (.int a2), some (.int a3), none, none], [.int 1])) (h' := hp N x) rfl ?_
  exact em129_27 a1 a2 a3 1 x _ h
def gm129 (a1 : Int32) (a2 : Int32) (x : Hs) : Option (Int32 × Hs) := (gm114 a1 0 4 x).bind fun w1 => (if a2 = (-1) then (gm129_22 a1 a2 w1 x) else ((gm114 a2 1 100 x).bind fun w3 => (if w3 = 0 then (gm129_27 a1 a2 w1 0 x) else (gm129_22 a1 a2 w1 x))))
theorem em129 {N : Nat} (a1 : Int32) (a2 : Int32) (x : Hs) (r : Int32 × Hs) (h : gm129 a1 a2 x = some r) : Ev 129 (0, 0) (0, aPad [.ref 138, .int a1, .int a2] 6, []) (hp N x) (cvMi N r) := by
  show Ev 129 (0, 0) (0, [some (.ref 138), some (.int a1), some (.int a2), none, none, none], []) (hp N x) _
  unfold gm129 at h
  refine ev_run (n := 3) (u' := (0, 0)) (f' := (3, [some (.ref 138), some (.int a1), some (.int a2), none, none, none], [.int 4, .int 0, .int a1])) (h' := hp N x) rfl ?_
  obtain ⟨w1, h2, h⟩ := bind_ok h
  refine ev_call (v := some (.int w1)) (h1 := hp N x) rfl rfl rfl rfl (em114 a1 0 4 x _ h2) ?_
  show Ev 129 (0, 0) (6, [some (.ref 138), some (.int a1), some (.int a2), none, none, none], [.int w1]) (hp N x) _
  refine ev_run (n := 3) (u' := (0, 0)) (f' := (9, [some (.ref 138), some (.int a1), some (.int a2), some (.int w1), none, none], [.int (-1), .int a2])) (h' := hp N x) rfl ?_
  rcases ite_or h with ⟨h6, h⟩ | ⟨h6, h⟩
  · refine ev_ict rfl (decide_eq_true h6) ?_
    exact em129_22 a1 a2 w1 x _ h
  · refine ev_icf rfl (decide_eq_false h6) ?_
    refine ev_run (n := 3) (u' := (0, 0)) (f' := (16, [some (.ref 138), some (.int a1), some (.int a2), some (.int w1), none, none], [.int 100, .int 1, .int a2])) (h' := hp N x) rfl ?_
    obtain ⟨w3, h4, h⟩ := bind_ok h
    refine ev_call (v := some (.int w3)) (h1 := hp N x) rfl rfl rfl rfl (em114 a2 1 100 x _ h4) ?_
    show Ev 129 (0, 0) (19, [some (.ref 138), some (.int a1), some (.int a2), some (.int w1), none, none], [.int w3]) (hp N x) _
    rcases ite_or h with ⟨h5, h⟩ | ⟨h5, h⟩
    · refine ev_ift rfl (decide_eq_true h5) ?_
      refine ev_run (n := 1) (u' := (0, 0)) (f' := (27, [some (.ref 138), some (.int a1), some (.int a2), some (.int w1), none, none], [.int 0])) (h' := hp N x) rfl ?_
      exact em129_27 a1 a2 w1 0 x _ h
    · refine ev_iff rfl (decide_eq_false h5) ?_
      exact em129_22 a1 a2 w1 x _ h
def gm130_42 (k4 : Int32 → Int32 → Int32 → Hs → Option (Int32)) (a1 : Int32) (a3 : Int32) (s0 : Int32) (x : Hs) : Option (Int32) := k4 a1 s0 (a3 + 1) x
theorem em130_42 {N : Nat} (k4 : Int32 → Int32 → Int32 → Hs → Option (Int32)) (q4 : ∀ (a1 : Int32) (a2 : Int32) (a3 : Int32) (x : Hs) (r : Int32), k4 a1 a2 a3 x = some r → Ev 130 (0, 0) (4, [some (.ref 138), some (.int a1), some (.int a2), some (.int a3)], []) (hp N x) (cvPi N x r)) (a1 : Int32) (a3 : Int32) (s0 : Int32) (x : Hs) (r : Int32) (h : gm130_42 k4 a1 a3 s0 x = some r) : Ev 130 (0, 0) (42, [some (.ref 138), some (.int a1), none, some (.int a3)], [.int s0]) (hp N x) (cvPi N x r) := by
  unfold gm130_42 at h
  refine ev_run (n := 3) (u' := (0, 0)) (f' := (4, [some (.ref 138), some (.int a1), some (.int s0), some (.int (a3 + 1))], [])) (h' := hp N x) rfl ?_
  exact q4 a1 s0 (a3 + 1) x _ h
def gm130_37 (k4 : Int32 → Int32 → Int32 → Hs → Option (Int32)) (a1 : Int32) (a3 : Int32) (x : Hs) : Option (Int32) := gm130_42 k4 a1 a3 1 x
theorem em130_37 {N : Nat} (k4 : Int32 → Int32 → Int32 → Hs → Option (Int32)) (q4 : ∀ (a1 : Int32) (a2 : Int32) (a3 : Int32) (x : Hs) (r : Int32), k4 a1 a2 a3 x = some r → Ev 130 (0, 0) (4, [some (.ref 138), some (.int a1), some (.int a2), some (.int a3)], []) (hp N x) (cvPi N x r)) (a1 : Int32) (a3 : Int32) (x : Hs) (r : Int32) (h : gm130_37 k4 a1 a3 x = some r) : Ev 130 (0, 0) (37, [some (.ref 138), some (.int a1), none, some (.int a3)], []) (hp N x) (cvPi N x r) := by
  unfold gm130_37 at h
  refine ev_run (n := 2) (u' := (0, 0)) (f' := (42, [some (.ref 138), some (.int a1), none, some (.int a3)], [.int 1])) (h' := hp N x) rfl ?_
  exact em130_42 k4 q4 a1 a3 1 x _ h
theorem em130_37_k1 {N : Nat} (k4 : Int32 → Int32 → Int32 → Hs → Option (Int32)) (q4 : ∀ (a1 : Int32) (a2 : Int32) (a3 : Int32) (x : Hs) (r : Int32), k4 a1 a2 a3 x = some r → Ev 130 (0, 0) (4, [some (.ref 138), some (.int a1), some (.int a2), some (.int a3)], []) (hp N x) (cvPi N x r)) (a1 : Int32) (a2 : Int32) (a3 : Int32) (x : Hs) (r : Int32) (h : gm130_37 k4 a1 a3 x = some r) : Ev 130 (0, 0) (37, [some (.ref 138), some (.int a1), some (.int a2), some (.int a3)], []) (hp N x) (cvPi N x r) := by
  unfold gm130_37 at h
  refine ev_run (n := 2) (u' := (0, 0)) (f' := (42, [some (.ref 138), some (.int a1), none, some (.int a3)], [.int 1])) (h' := hp N x) rfl ?_
  exact em130_42 k4 q4 a1 a3 1 x _ h
def gm130_41 (k4 : Int32 → Int32 → Int32 → Hs → Option (Int32)) (a1 : Int32) (a3 : Int32) (x : Hs) : Option (Int32) := gm130_42 k4 a1 a3 0 x
theorem em130_41 {N : Nat} (k4 : Int32 → Int32 → Int32 → Hs → Option (Int32)) (q4 : ∀ (a1 : Int32) (a2 : Int32) (a3 : Int32) (x : Hs) (r : Int32), k4 a1 a2 a3 x = some r → Ev 130 (0, 0) (4, [some (.ref 138), some (.int a1), some (.int a2), some (.int a3)], []) (hp N x) (cvPi N x r)) (a1 : Int32) (a3 : Int32) (x : Hs) (r : Int32) (h : gm130_41 k4 a1 a3 x = some r) : Ev 130 (0, 0) (41, [some (.ref 138), some (.int a1), none, some (.int a3)], []) (hp N x) (cvPi N x r) := by
  unfold gm130_41 at h
  refine ev_run (n := 1) (u' := (0, 0)) (f' := (42, [some (.ref 138), some (.int a1), none, some (.int a3)], [.int 0])) (h' := hp N x) rfl ?_
  exact em130_42 k4 q4 a1 a3 0 x _ h
def gm130_4 : Nat → Int32 → Int32 → Int32 → Hs → Option (Int32)
  | 0, _, _, _, _ => none
  | n + 1, a1, a2, a3, x => if a3 ≥ 5 then (cond (aBit a2) (some a2) none) else (if a2 = 0 then (gm130_41 (gm130_4 n) a1 a3 x) else (cond (aIn a1 24) ((gm115 (x.1 144 (xi a1)) a3 x).bind fun w3 => (if w3 = 0 then (gm130_37 (gm130_4 n) a1 a3 x) else (cond (aIn a3 5) (if x.1 146 (xi a3) = 100 then (gm130_37 (gm130_4 n) a1 a3 x) else (gm130_41 (gm130_4 n) a1 a3 x)) none))) none))
theorem em130_4 {N : Nat} : ∀ (n : Nat) (a1 : Int32) (a2 : Int32) (a3 : Int32) (x : Hs) (r : Int32), gm130_4 n a1 a2 a3 x = some r → Ev 130 (0, 0) (4, [some (.ref 138), some (.int a1), some (.int a2), some (.int a3)], []) (hp N x) (cvPi N x r)
  | 0, a1, a2, a3, x, r, h => by
    have e9 : (none : Option (Int32)) = some r := h
    cases e9
  | n + 1, a1, a2, a3, x, r, h => by
    have q4 := em130_4 (N := N) n
    rw [gm130_4] at h
    refine ev_run (n := 2) (u' := (0, 0)) (f' := (6, [some (.ref 138), some (.int a1), some (.int a2), some (.int a3)], [.int 5, .int a3])) (h' := hp N x) rfl ?_
    rcases ite_or h with ⟨h9, h⟩ | ⟨h9, h⟩
    · refine ev_ict rfl (decide_eq_true h9) ?_
      refine ev_run (n := 1) (u' := (0, 0)) (f' := (50, [none, none, some (.int a2), none], [.int a2])) (h' := hp N x) rfl ?_
      obtain ⟨h1, h⟩ := cond_some h
      cases h
      exact ev_iret rfl rfl rfl (Or.inr ⟨rfl, h1⟩)
    · refine ev_icf rfl (decide_eq_false h9) ?_
      refine ev_run (n := 1) (u' := (0, 0)) (f' := (10, [some (.ref 138), some (.int a1), some (.int a2), some (.int a3)], [.int a2])) (h' := hp N x) rfl ?_
      rcases ite_or h with ⟨h8, h⟩ | ⟨h8, h⟩
      · refine ev_ift rfl (decide_eq_true h8) ?_
        exact em130_41 (gm130_4 n) q4 a1 a3 x _ h
      · refine ev_iff rfl (decide_eq_false h8) ?_
        refine ev_run (n := 3) (u' := (0, 0)) (f' := (18, [some (.ref 138), some (.int a1), some (.int a2), some (.int a3)], [.int a1, .ref 144])) (h' := hp N x) rfl ?_
        obtain ⟨h2, h⟩ := cond_some h
        refine ev_iald rfl rfl h2 ?_
        refine ev_run (n := 1) (u' := (0, 0)) (f' := (20, [some (.ref 138), some (.int a1), some (.int a2), some (.int a3)], [.int a3, .int (x.1 144 (xi a1))])) (h' := hp N x) rfl ?_
        obtain ⟨w3, h4, h⟩ := bind_ok h
        refine ev_call (v := some (.int w3)) (h1 := hp N x) rfl rfl rfl rfl (em115 (x.1 144 (xi a1)) a3 x _ h4) ?_
        show Ev 130 (0, 0) (23, [some (.ref 138), some (.int a1), some (.int a2), some (.int a3)], [.int w3]) (hp N x) _
        rcases ite_or h with ⟨h7, h⟩ | ⟨h7, h⟩
        · refine ev_ift rfl (decide_eq_true h7) ?_
          exact em130_37 (gm130_4 n) q4 a1 a3 x _ h
        · refine ev_iff rfl (decide_eq_false h7) ?_
          refine ev_run (n := 3) (u' := (0, 0)) (f' := (31, [some (.ref 138), some (.int a1), some (.int a2), some (.int a3)], [.int a3, .ref 146])) (h' := hp N x) rfl ?_
          obtain ⟨h5, h⟩ := cond_some h
          refine ev_iald rfl rfl h5 ?_
          refine ev_run (n := 1) (u' := (0, 0)) (f' := (34, [some (.ref 138), some (.int a1), some (.int a2), some (.int a3)], [.int 100, .int (x.1 146 (xi a3))])) (h' := hp N x) rfl ?_
          rcases ite_or h with ⟨h6, h⟩ | ⟨h6, h⟩
          · refine ev_icf rfl (decide_eq_false (fun w => w h6)) ?_
            exact em130_37_k1 (gm130_4 n) q4 a1 a2 a3 x _ h
          · refine ev_ict rfl (decide_eq_true h6) ?_
            exact em130_41 (gm130_4 n) q4 a1 a3 x _ h
def gm130 (a1 : Int32) (x : Hs) : Option (Int32) := gm130_4 FU a1 1 0 x
theorem em130 {N : Nat} (a1 : Int32) (x : Hs) (r : Int32) (h : gm130 a1 x = some r) : Ev 130 (0, 0) (0, aPad [.ref 138, .int a1] 4, []) (hp N x) (cvPi N x r) := by
  show Ev 130 (0, 0) (0, [some (.ref 138), some (.int a1), none, none], []) (hp N x) _
  unfold gm130 at h
  refine ev_run (n := 4) (u' := (0, 0)) (f' := (4, [some (.ref 138), some (.int a1), some (.int 1), some (.int 0)], [])) (h' := hp N x) rfl ?_
  exact em130_4 FU a1 1 0 x _ h
def gm131_52 (x : Hs) : Option (Int32) := some 1
theorem em131_52 {N : Nat} (x : Hs) (r : Int32) (h : gm131_52 x = some r) : Ev 131 (0, 0) (52, [none, none, none], []) (hp N x) (cvPi N x r) := by
  unfold gm131_52 at h
  refine ev_run (n := 2) (u' := (0, 0)) (f' := (57, [none, none, none], [.int 1])) (h' := hp N x) rfl ?_
  cases h
  exact ev_iret rfl rfl rfl (Or.inr ⟨rfl, rfl⟩)
theorem em131_52_k1 {N : Nat} (a1 : Int32) (a2 : Int32) (x : Hs) (r : Int32) (h : gm131_52 x = some r) : Ev 131 (0, 0) (52, [some (.ref 138), some (.int a1), some (.int a2)], []) (hp N x) (cvPi N x r) := by
  unfold gm131_52 at h
  refine ev_run (n := 2) (u' := (0, 0)) (f' := (57, [none, none, none], [.int 1])) (h' := hp N x) rfl ?_
  cases h
  exact ev_iret rfl rfl rfl (Or.inr ⟨rfl, rfl⟩)
def gm131 (a1 : Int32) (a2 : Int32) (x : Hs) : Option (Int32) := if a1 = (-1) then (gm131_52 x) else (if a2 = (-1) then (gm131_52 x) else (cond (aIn a2 24) (cond (aIn a2 24) (cond (aIn ((5 * a1) + x.1 140 (xi a2)) 120) (cond (aIn a2 24) (cond (aIn ((5 * a1) + x.1 140 (xi a2)) 120) ((gm114 (x.1 141 (xi a2)) (x.1 142 (xi ((5 * a1) + x.1 140 (xi a2)))) (x.1 143 (xi ((5 * a1) + x.1 140 (xi a2)))) x).bind fun w6 => (if w6 = 0 then (some 0) else (gm131_52 x))) none) none) none) none) none))
theorem em131 {N : Nat} (a1 : Int32) (a2 : Int32) (x : Hs) (r : Int32) (h : gm131 a1 a2 x = some r) : Ev 131 (0, 0) (0, aPad [.ref 138, .int a1, .int a2] 3, []) (hp N x) (cvPi N x r) := by
  show Ev 131 (0, 0) (0, [some (.ref 138), some (.int a1), some (.int a2)], []) (hp N x) _
  unfold gm131 at h
  refine ev_run (n := 2) (u' := (0, 0)) (f' := (2, [some (.ref 138), some (.int a1), some (.int a2)], [.int (-1), .int a1])) (h' := hp N x) rfl ?_
  rcases ite_or h with ⟨h10, h⟩ | ⟨h10, h⟩
  · refine ev_ict rfl (decide_eq_true h10) ?_
    exact em131_52 x _ h
  · refine ev_icf rfl (decide_eq_false h10) ?_
    refine ev_run (n := 2) (u' := (0, 0)) (f' := (7, [some (.ref 138), some (.int a1), some (.int a2)], [.int (-1), .int a2])) (h' := hp N x) rfl ?_
    rcases ite_or h with ⟨h9, h⟩ | ⟨h9, h⟩
    · refine ev_ict rfl (decide_eq_true h9) ?_
      exact em131_52 x _ h
    · refine ev_icf rfl (decide_eq_false h9) ?_
      refine ev_run (n := 3) (u' := (0, 0)) (f' := (15, [some (.ref 138), some (.int a1), some (.int a2)], [.int a2, .ref 141])) (h' := hp N x) rfl ?_
      obtain ⟨h1, h⟩ := cond_some h
      refine ev_iald rfl rfl h1 ?_
      refine ev_run (n := 8) (u' := (0, 0)) (f' := (28, [some (.ref 138), some (.int a1), some (.int a2)], [.int a2, .ref 140, .int (5 * a1), .ref 142, .int (x.1 141 (xi a2))])) (h' := hp N x) rfl ?_
      obtain ⟨h2, h⟩ := cond_some h
      refine ev_iald rfl rfl h2 ?_
      refine ev_run (n := 1) (u' := (0, 0)) (f' := (30, [some (.ref 138), some (.int a1), some (.int a2)], [.int ((5 * a1) + x.1 140 (xi a2)), .ref 142, .int (x.1 141 (xi a2))])) (h' := hp N x) rfl ?_
      obtain ⟨h3, h⟩ := cond_some h
      refine ev_iald rfl rfl h3 ?_
      refine ev_run (n := 8) (u' := (0, 0)) (f' := (43, [some (.ref 138), some (.int a1), some (.int a2)], [.int a2, .ref 140, .int (5 * a1), .ref 143, .int (x.1 142 (xi ((5 * a1) + x.1 140 (xi a2)))), .int (x.1 141 (xi a2))])) (h' := hp N x) rfl ?_
      obtain ⟨h4, h⟩ := cond_some h
      refine ev_iald rfl rfl h4 ?_
      refine ev_run (n := 1) (u' := (0, 0)) (f' := (45, [some (.ref 138), some (.int a1), some (.int a2)], [.int ((5 * a1) + x.1 140 (xi a2)), .ref 143, .int (x.1 142 (xi ((5 * a1) + x.1 140 (xi a2)))), .int (x.1 141 (xi a2))])) (h' := hp N x) rfl ?_
      obtain ⟨h5, h⟩ := cond_some h
      refine ev_iald rfl rfl h5 ?_
      obtain ⟨w6, h7, h⟩ := bind_ok h
      refine ev_call (v := some (.int w6)) (h1 := hp N x) rfl rfl rfl rfl (em114 (x.1 141 (xi a2)) (x.1 142 (xi ((5 * a1) + x.1 140 (xi a2)))) (x.1 143 (xi ((5 * a1) + x.1 140 (xi a2)))) x _ h7) ?_
      show Ev 131 (0, 0) (49, [some (.ref 138), some (.int a1), some (.int a2)], [.int w6]) (hp N x) _
      rcases ite_or h with ⟨h8, h⟩ | ⟨h8, h⟩
      · refine ev_ift rfl (decide_eq_true h8) ?_
        refine ev_run (n := 1) (u' := (0, 0)) (f' := (57, [none, none, none], [.int 0])) (h' := hp N x) rfl ?_
        cases h
        exact ev_iret rfl rfl rfl (Or.inr ⟨rfl, rfl⟩)
      · refine ev_iff rfl (decide_eq_false h8) ?_
        exact em131_52_k1 a1 a2 x _ h
def gm132_160 (k4 : Int32 → Int32 → Int32 → Hs → Option (Int32)) (k39 : Int32 → Int32 → Int32 → Int32 → Int32 → Int32 → Hs → Option (Int32)) (a1 : Int32) (a2 : Int32) (a3 : Int32) (a4 : Int32) (a5 : Int32) (a6 : Int32) (x : Hs) : Option (Int32) := k39 a1 a2 a3 a4 a5 (a6 + 1) x
theorem em132_160 {N : Nat} (k4 : Int32 → Int32 → Int32 → Hs → Option (Int32)) (k39 : Int32 → Int32 → Int32 → Int32 → Int32 → Int32 → Hs → Option (Int32)) (q4 : ∀ (a1 : Int32) (a2 : Int32) (a3 : Int32) (x : Hs) (r : Int32), k4 a1 a2 a3 x = some r → Ev 132 (0, 0) (4, [some (.ref 138), some (.int a1), some (.int a2), some (.int a3), none, none, none, none, none], []) (hp N x) (cvPi N x r)) (q39 : ∀ (a1 : Int32) (a2 : Int32) (a3 : Int32) (a4 : Int32) (a5 : Int32) (a6 : Int32) (x : Hs) (r : Int32), k39 a1 a2 a3 a4 a5 a6 x = some r → Ev 132 (0, 0) (39, [some (.ref 138), some (.int a1), some (.int a2), some (.int a3), some (.int a4), some (.int a5), some (.int a6), none, none], []) (hp N x) (cvPi N x r)) (a1 : Int32) (a2 : Int32) (a3 : Int32) (a4 : Int32) (a5 : Int32) (a6 : Int32) (x : Hs) (r : Int32) (h : gm132_160 k4 k39 a1 a2 a3 a4 a5 a6 x = some r) : Ev 132 (0, 0) (160, [some (.ref 138), some (.int a1), some (.int a2), some (.int a3), some (.int a4), some (.int a5), some (.int a6), none, none], []) (hp N x) (cvPi N x r) := by
  unfold gm132_160 at h
  refine ev_run (n := 2) (u' := (0, 0)) (f' := (39, [some (.ref 138), some (.int a1), some (.int a2), some (.int a3), some (.int a4), some (.int a5), some (.int (a6 + 1)), none, none], [])) (h' := hp N x) rfl ?_
  exact q39 a1 a2 a3 a4 a5 (a6 + 1) x _ h
def gm132_159 (k4 : Int32 → Int32 → Int32 → Hs → Option (Int32)) (k39 : Int32 → Int32 → Int32 → Int32 → Int32 → Int32 → Hs → Option (Int32)) (a1 : Int32) (a3 : Int32) (a4 : Int32) (a5 : Int32) (a6 : Int32) (s0 : Int32) (x : Hs) : Option (Int32) := gm132_160 k4 k39 a1 s0 a3 a4 a5 a6 x
theorem em132_159 {N : Nat} (k4 : Int32 → Int32 → Int32 → Hs → Option (Int32)) (k39 : Int32 → Int32 → Int32 → Int32 → Int32 → Int32 → Hs → Option (Int32)) (q4 : ∀ (a1 : Int32) (a2 : Int32) (a3 : Int32) (x : Hs) (r : Int32), k4 a1 a2 a3 x = some r → Ev 132 (0, 0) (4, [some (.ref 138), some (.int a1), some (.int a2), some (.int a3), none, none, none, none, none], []) (hp N x) (cvPi N x r)) (q39 : ∀ (a1 : Int32) (a2 : Int32) (a3 : Int32) (a4 : Int32) (a5 : Int32) (a6 : Int32) (x : Hs) (r : Int32), k39 a1 a2 a3 a4 a5 a6 x = some r → Ev 132 (0, 0) (39, [some (.ref 138), some (.int a1), some (.int a2), some (.int a3), some (.int a4), some (.int a5), some (.int a6), none, none], []) (hp N x) (cvPi N x r)) (a1 : Int32) (a3 : Int32) (a4 : Int32) (a5 : Int32) (a6 : Int32) (s0 : Int32) (x : Hs) (r : Int32) (h : gm132_159 k4 k39 a1 a3 a4 a5 a6 s0 x = some r) : Ev 132 (0, 0) (159, [some (.ref 138), some (.int a1), none, some (.int a3), some (.int a4), some (.int a5), some (.int a6), none, none], [.int s0]) (hp N x) (cvPi N x r) := by
  unfold gm132_159 at h
  refine ev_run (n := 1) (u' := (0, 0)) (f' := (160, [some (.ref 138), some (.int a1), some (.int s0), some (.int a3), some (.int a4), some (.int a5), some (.int a6), none, none], [])) (h' := hp N x) rfl ?_
  exact em132_160 k4 k39 q4 q39 a1 s0 a3 a4 a5 a6 x _ h
def gm132_158 (k4 : Int32 → Int32 → Int32 → Hs → Option (Int32)) (k39 : Int32 → Int32 → Int32 → Int32 → Int32 → Int32 → Hs → Option (Int32)) (a1 : Int32) (a3 : Int32) (a4 : Int32) (a5 : Int32) (a6 : Int32) (x : Hs) : Option (Int32) := gm132_159 k4 k39 a1 a3 a4 a5 a6 0 x
theorem em132_158 {N : Nat} (k4 : Int32 → Int32 → Int32 → Hs → Option (Int32)) (k39 : Int32 → Int32 → Int32 → Int32 → Int32 → Int32 → Hs → Option (Int32)) (q4 : ∀ (a1 : Int32) (a2 : Int32) (a3 : Int32) (x : Hs) (r : Int32), k4 a1 a2 a3 x = some r → Ev 132 (0, 0) (4, [some (.ref 138), some (.int a1), some (.int a2), some (.int a3), none, none, none, none, none], []) (hp N x) (cvPi N x r)) (q39 : ∀ (a1 : Int32) (a2 : Int32) (a3 : Int32) (a4 : Int32) (a5 : Int32) (a6 : Int32) (x : Hs) (r : Int32), k39 a1 a2 a3 a4 a5 a6 x = some r → Ev 132 (0, 0) (39, [some (.ref 138), some (.int a1), some (.int a2), some (.int a3), some (.int a4), some (.int a5), some (.int a6), none, none], []) (hp N x) (cvPi N x r)) (a1 : Int32) (a3 : Int32) (a4 : Int32) (a5 : Int32) (a6 : Int32) (x : Hs) (r : Int32) (h : gm132_158 k4 k39 a1 a3 a4 a5 a6 x = some r) : Ev 132 (0, 0) (158, [some (.ref 138), some (.int a1), none, some (.int a3), some (.int a4), some (.int a5), some (.int a6), none, none], []) (hp N x) (cvPi N x r) := by
  unfold gm132_158 at h
  refine ev_run (n := 1) (u' := (0, 0)) (f' := (159, [some (.ref 138), some (.int a1), none, some (.int a3), some (.int a4), some (.int a5), some (.int a6), none, none], [.int 0])) (h' := hp N x) rfl ?_
  exact em132_159 k4 k39 q4 q39 a1 a3 a4 a5 a6 0 x _ h
def gm132_74 (k4 : Int32 → Int32 → Int32 → Hs → Option (Int32)) (k39 : Int32 → Int32 → Int32 → Int32 → Int32 → Int32 → Hs → Option (Int32)) (a1 : Int32) (a2 : Int32) (a3 : Int32) (a4 : Int32) (a5 : Int32) (a6 : Int32) (x : Hs) : Option (Int32) := cond (aIn ((5 * a1) + a6) 20) (cond (aIn ((5 * a1) + a6) 20) (if a2 = 0 then (gm132_158 k4 k39 a1 a3 a4 a5 a6 x) else (if x.1 147 (xi ((5 * a1) + a6)) = (-1) then (gm132_158 k4 k39 a1 a3 a4 a5 a6 x) else ((gm131 a4 (x.1 147 (xi ((5 * a1) + a6))) x).bind fun w14 => (if w14 = 0 then (gm132_158 k4 k39 a1 a3 a4 a5 a6 x) else ((gm131 a4 (x.1 148 (xi ((5 * a1) + a6))) x).bind fun w16 => (if w16 = 0 then (gm132_158 k4 k39 a1 a3 a4 a5 a6 x) else ((gm131 a5 (x.1 147 (xi ((5 * a1) + a6))) x).bind fun w18 => (if w18 = 0 then (gm132_158 k4 k39 a1 a3 a4 a5 a6 x) else ((gm131 a5 (x.1 148 (xi ((5 * a1) + a6))) x).bind fun w20 => (if w20 = 0 then (gm132_158 k4 k39 a1 a3 a4 a5 a6 x) else (gm132_159 k4 k39 a1 a3 a4 a5 a6 1 x))))))))))) none) none
theorem em132_74 {N : Nat} (k4 : Int32 → Int32 → Int32 → Hs → Option (Int32)) (k39 : Int32 → Int32 → Int32 → Int32 → Int32 → Int32 → Hs → Option (Int32)) (q4 : ∀ (a1 : Int32) (a2 : Int32) (a3 : Int32) (x : Hs) (r : Int32), k4 a1 a2 a3 x = some r → Ev 132 (0, 0) (4, [some (.ref 138), some (.int a1), some (.int a2), some (.int a3), none, none, none, none, none], []) (hp N x) (cvPi N x r)) (q39 : ∀ (a1 : Int32) (a2 : Int32) (a3 : Int32) (a4 : Int32) (a5 : Int32) (a6 : Int32) (x : Hs) (r : Int32), k39 a1 a2 a3 a4 a5 a6 x = some r → Ev 132 (0, 0) (39, [some (.ref 138), some (.int a1), some (.int a2), some (.int a3), some (.int a4), some (.int a5), some (.int a6), none, none], []) (hp N x) (cvPi N x r)) (a1 : Int32) (a2 : Int32) (a3 : Int32) (a4 : Int32) (a5 : Int32) (a6 : Int32) (x : Hs) (r : Int32) (h : gm132_74 k4 k39 a1 a2 a3 a4 a5 a6 x = some r) : Ev 132 (0, 0) (74, [some (.ref 138), some (.int a1), some (.int a2), some (.int a3), some (.int a4), some (.int a5), some (.int a6), none, none], []) (hp N x) (cvPi N x r) := by
  unfold gm132_74 at h
  refine ev_run (n := 7) (u' := (0, 0)) (f' := (84, [some (.ref 138), some (.int a1), some (.int a2), some (.int a3), some (.int a4), some (.int a5), some (.int a6), none, none], [.int ((5 * a1) + a6), .ref 147])) (h' := hp N x) rfl ?_
  obtain ⟨h12, h⟩ := cond_some h
  refine ev_iald rfl rfl h12 ?_
  refine ev_run (n := 8) (u' := (0, 0)) (f' := (97, [some (.ref 138), some (.int a1), some (.int a2), some (.int a3), some (.int a4), some (.int a5), some (.int a6), some (.int (x.1 147 (xi ((5 * a1) + a6)))), none], [.int ((5 * a1) + a6), .ref 148])) (h' := hp N x) rfl ?_
  obtain ⟨h13, h⟩ := cond_some h
  refine ev_iald rfl rfl h13 ?_
  refine ev_run (n := 2) (u' := (0, 0)) (f' := (101, [some (.ref 138), some (.int a1), some (.int a2), some (.int a3), some (.int a4), some (.int a5), some (.int a6), some (.int (x.1 147 (xi ((5 * a1) + a6)))), some (.int (x.1 148 (xi ((5 * a1) + a6))))], [.int a2])) (h' := hp N x) rfl ?_
  rcases ite_or h with ⟨h27, h⟩ | ⟨h27, h⟩
  · refine ev_ift rfl (decide_eq_true h27) ?_
    exact em132_158 k4 k39 q4 q39 a1 a3 a4 a5 a6 x _ h
  · refine ev_iff rfl (decide_eq_false h27) ?_
    refine ev_run (n := 2) (u' := (0, 0)) (f' := (107, [some (.ref 138), some (.int a1), some (.int a2), some (.int a3), some (.int a4), some (.int a5), some (.int a6), some (.int (x.1 147 (xi ((5 * a1) + a6)))), some (.int (x.1 148 (xi ((5 * a1) + a6))))], [.int (-1), .int (x.1 147 (xi ((5 * a1) + a6)))])) (h' := hp N x) rfl ?_
    rcases ite_or h with ⟨h26, h⟩ | ⟨h26, h⟩
    · refine ev_ict rfl (decide_eq_true h26) ?_
      exact em132_158 k4 k39 q4 q39 a1 a3 a4 a5 a6 x _ h
    · refine ev_icf rfl (decide_eq_false h26) ?_
      refine ev_run (n := 3) (u' := (0, 0)) (f' := (115, [some (.ref 138), some (.int a1), some (.int a2), some (.int a3), some (.int a4), some (.int a5), some (.int a6), some (.int (x.1 147 (xi ((5 * a1) + a6)))), some (.int (x.1 148 (xi ((5 * a1) + a6))))], [.int (x.1 147 (xi ((5 * a1) + a6))), .int a4, .ref 138])) (h' := hp N x) rfl ?_
      obtain ⟨w14, h15, h⟩ := bind_ok h
      refine ev_call (v := some (.int w14)) (h1 := hp N x) rfl rfl rfl rfl (em131 a4 (x.1 147 (xi ((5 * a1) + a6))) x _ h15) ?_
      show Ev 132 (0, 0) (118, [some (.ref 138), some (.int a1), some (.int a2), some (.int a3), some (.int a4), some (.int a5), some (.int a6), some (.int (x.1 147 (xi ((5 * a1) + a6)))), some (.int (x.1 148 (xi ((5 * a1) + a6))))], [.int w14]) (hp N x) _
      rcases ite_or h with ⟨h25, h⟩ | ⟨h25, h⟩
      · refine ev_ift rfl (decide_eq_true h25) ?_
        exact em132_158 k4 k39 q4 q39 a1 a3 a4 a5 a6 x _ h
      · refine ev_iff rfl (decide_eq_false h25) ?_
        refine ev_run (n := 3) (u' := (0, 0)) (f' := (126, [some (.ref 138), some (.int a1), some (.int a2), some (.int a3), some (.int a4), some (.int a5), some (.int a6), some (.int (x.1 147 (xi ((5 * a1) + a6)))), some (.int (x.1 148 (xi ((5 * a1) + a6))))], [.int (x.1 148 (xi ((5 * a1) + a6))), .int a4, .ref 138])) (h' := hp N x) rfl ?_
        obtain ⟨w16, h17, h⟩ := bind_ok h
        refine ev_call (v := some (.int w16)) (h1 := hp N x) rfl rfl rfl rfl (em131 a4 (x.1 148 (xi ((5 * a1) + a6))) x _ h17) ?_
        show Ev 132 (0, 0) (129, [some (.ref 138), some (.int a1), some (.int a2), some (.int a3), some (.int a4), some (.int a5), some (.int a6), some (.int (x.1 147 (xi ((5 * a1) + a6)))), some (.int (x.1 148 (xi ((5 * a1) + a6))))], [.int w16]) (hp N x) _
        rcases ite_or h with ⟨h24, h⟩ | ⟨h24, h⟩
        · refine ev_ift rfl (decide_eq_true h24) ?_
          exact em132_158 k4 k39 q4 q39 a1 a3 a4 a5 a6 x _ h
        · refine ev_iff rfl (decide_eq_false h24) ?_
          refine ev_run (n := 3) (u' := (0, 0)) (f' := (137, [some (.ref 138), some (.int a1), some (.int a2), some (.int a3), some (.int a4), some (.int a5), some (.int a6), some (.int (x.1 147 (xi ((5 * a1) + a6)))), some (.int (x.1 148 (xi ((5 * a1) + a6))))], [.int (x.1 147 (xi ((5 * a1) + a6))), .int a5, .ref 138])) (h' := hp N x) rfl ?_
          obtain ⟨w18, h19, h⟩ := bind_ok h
          refine ev_call (v := some (.int w18)) (h1 := hp N x) rfl rfl rfl rfl (em131 a5 (x.1 147 (xi ((5 * a1) + a6))) x _ h19) ?_
          show Ev 132 (0, 0) (140, [some (.ref 138), some (.int a1), some (.int a2), some (.int a3), some (.int a4), some (.int a5), some (.int a6), some (.int (x.1 147 (xi ((5 * a1) + a6)))), some (.int (x.1 148 (xi ((5 * a1) + a6))))], [.int w18]) (hp N x) _
          rcases ite_or h with ⟨h23, h⟩ | ⟨h23, h⟩
          · refine ev_ift rfl (decide_eq_true h23) ?_
            exact em132_158 k4 k39 q4 q39 a1 a3 a4 a5 a6 x _ h
          · refine ev_iff rfl (decide_eq_false h23) ?_
            refine ev_run (n := 3) (u' := (0, 0)) (f' := (148, [some (.ref 138), some (.int a1), some (.int a2), some (.int a3), some (.int a4), some (.int a5), some (.int a6), some (.int (x.1 147 (xi ((5 * a1) + a6)))), some (.int (x.1 148 (xi ((5 * a1) + a6))))], [.int (x.1 148 (xi ((5 * a1) + a6))), .int a5, .ref 138])) (h' := hp N x) rfl ?_
            obtain ⟨w20, h21, h⟩ := bind_ok h
            refine ev_call (v := some (.int w20)) (h1 := hp N x) rfl rfl rfl rfl (em131 a5 (x.1 148 (xi ((5 * a1) + a6))) x _ h21) ?_
            show Ev 132 (0, 0) (151, [some (.ref 138), some (.int a1), some (.int a2), some (.int a3), some (.int a4), some (.int a5), some (.int a6), some (.int (x.1 147 (xi ((5 * a1) + a6)))), some (.int (x.1 148 (xi ((5 * a1) + a6))))], [.int w20]) (hp N x) _
            rcases ite_or h with ⟨h22, h⟩ | ⟨h22, h⟩
            · refine ev_ift rfl (decide_eq_true h22) ?_
              exact em132_158 k4 k39 q4 q39 a1 a3 a4 a5 a6 x _ h
            · refine ev_iff rfl (decide_eq_false h22) ?_
              refine ev_run (n := 2) (u' := (0, 0)) (f' := (159, [some (.ref 138), some (.int a1), none, some (.int a3), some (.int a4), some (.int a5), some (.int a6), none, none], [.int 1])) (h' := hp N x) rfl ?_
              exact em132_159 k4 k39 q4 q39 a1 a3 a4 a5 a6 1 x _ h
def gm132_166 (k4 : Int32 → Int32 → Int32 → Hs → Option (Int32)) (a1 : Int32) (a2 : Int32) (a3 : Int32) (x : Hs) : Option (Int32) := k4 a1 a2 (a3 + 1) x
theorem em132_166 {N : Nat} (k4 : Int32 → Int32 → Int32 → Hs → Option (Int32)) (q4 : ∀ (a1 : Int32) (a2 : Int32) (a3 : Int32) (x : Hs) (r : Int32), k4 a1 a2 a3 x = some r → Ev 132 (0, 0) (4, [some (.ref 138), some (.int a1), some (.int a2), some (.int a3), none, none, none, none, none], []) (hp N x) (cvPi N x r)) (a1 : Int32) (a2 : Int32) (a3 : Int32) (x : Hs) (r : Int32) (h : gm132_166 k4 a1 a2 a3 x = some r) : Ev 132 (0, 0) (166, [some (.ref 138), some (.int a1), some (.int a2), some (.int a3), none, none, none, none, none], []) (hp N x) (cvPi N x r) := by
  unfold gm132_166 at h
  refine ev_run (n := 2) (u' := (0, 0)) (f' := (4, [some (.ref 138), some (.int a1), some (.int a2), some (.int (a3 + 1)), none, none, none, none, none], [])) (h' := hp N x) rfl ?_
  exact q4 a1 a2 (a3 + 1) x _ h
def gm132_39 (k4 : Int32 → Int32 → Int32 → Hs → Option (Int32)) : Nat → Int32 → Int32 → Int32 → Int32 → Int32 → Int32 → Hs → Option (Int32)
  | 0, _, _, _, _, _, _, _ => none
  | n + 1, a1, a2, a3, a4, a5, a6, x => if a6 ≥ x.1 138 1 then (gm132_166 k4 a1 a2 a3 x) else (cond (aIn a3 5) ((gm115 (x.1 139 (xi a3)) a6 x).bind fun w6 => (if w6 = 0 then (gm132_160 k4 (gm132_39 k4 n) a1 a2 a3 a4 a5 a6 x) else (if a4 = (-1) then (if a5 = (-1) then (gm132_160 k4 (gm132_39 k4 n) a1 a2 a3 a4 a5 a6 x) else (gm132_74 k4 (gm132_39 k4 n) a1 a2 a3 a4 a5 a6 x)) else (gm132_74 k4 (gm132_39 k4 n) a1 a2 a3 a4 a5 a6 x)))) none)
theorem em132_39 {N : Nat} (k4 : Int32 → Int32 → Int32 → Hs → Option (Int32)) (q4 : ∀ (a1 : Int32) (a2 : Int32) (a3 : Int32) (x : Hs) (r : Int32), k4 a1 a2 a3 x = some r → Ev 132 (0, 0) (4, [some (.ref 138), some (.int a1), some (.int a2), some (.int a3), none, none, none, none, none], []) (hp N x) (cvPi N x r)) : ∀ (n : Nat) (a1 : Int32) (a2 : Int32) (a3 : Int32) (a4 : Int32) (a5 : Int32) (a6 : Int32) (x : Hs) (r : Int32), gm132_39 k4 n a1 a2 a3 a4 a5 a6 x = some r → Ev 132 (0, 0) (39, [some (.ref 138), some (.int a1), some (.int a2), some (.int a3), some (.int a4), some (.int a5), some (.int a6), none, none], []) (hp N x) (cvPi N x r)
  | 0, a1, a2, a3, a4, a5, a6, x, r, h => by
    have e9 : (none : Option (Int32)) = some r := h
    cases e9
  | n + 1, a1, a2, a3, a4, a5, a6, x, r, h => by
    have q39 := em132_39 k4 q4 (N := N) n
    rw [gm132_39] at h
    refine ev_run (n := 3) (u' := (0, 0)) (f' := (45, [some (.ref 138), some (.int a1), some (.int a2), some (.int a3), some (.int a4), some (.int a5), some (.int a6), none, none], [.int (x.1 138 1), .int a6])) (h' := hp N x) rfl ?_
    rcases ite_or h with ⟨h11, h⟩ | ⟨h11, h⟩
    · refine ev_ict rfl (decide_eq_true h11) ?_
      exact em132_166 k4 q4 a1 a2 a3 x _ h
    · refine ev_icf rfl (decide_eq_false h11) ?_
      refine ev_run (n := 3) (u' := (0, 0)) (f' := (53, [some (.ref 138), some (.int a1), some (.int a2), some (.int a3), some (.int a4), some (.int a5), some (.int a6), none, none], [.int a3, .ref 139])) (h' := hp N x) rfl ?_
      obtain ⟨h5, h⟩ := cond_some h
      refine ev_iald rfl rfl h5 ?_
      refine ev_run (n := 1) (u' := (0, 0)) (f' := (56, [some (.ref 138), some (.int a1), some (.int a2), some (.int a3), some (.int a4), some (.int a5), some (.int a6), none, none], [.int a6, .int (x.1 139 (xi a3))])) (h' := hp N x) rfl ?_
      obtain ⟨w6, h7, h⟩ := bind_ok h
      refine ev_call (v := some (.int w6)) (h1 := hp N x) rfl rfl rfl rfl (em115 (x.1 139 (xi a3)) a6 x _ h7) ?_
      show Ev 132 (0, 0) (59, [some (.ref 138), some (.int a1), some (.int a2), some (.int a3), some (.int a4), some (.int a5), some (.int a6), none, none], [.int w6]) (hp N x) _
      rcases ite_or h with ⟨h10, h⟩ | ⟨h10, h⟩
      · refine ev_ift rfl (decide_eq_true h10) ?_
        exact em132_160 k4 (gm132_39 k4 n) q4 q39 a1 a2 a3 a4 a5 a6 x _ h
      · refine ev_iff rfl (decide_eq_false h10) ?_
        refine ev_run (n := 2) (u' := (0, 0)) (f' := (65, [some (.ref 138), some (.int a1), some (.int a2), some (.int a3), some (.int a4), some (.int a5), some (.int a6), none, none], [.int (-1), .int a4])) (h' := hp N x) rfl ?_
        rcases ite_or h with ⟨h9, h⟩ | ⟨h9, h⟩
        · refine ev_icf rfl (decide_eq_false (fun w => w h9)) ?_
          refine ev_run (n := 2) (u' := (0, 0)) (f' := (71, [some (.ref 138), some (.int a1), some (.int a2), some (.int a3), some (.int a4), some (.int a5), some (.int a6), none, none], [.int (-1), .int a5])) (h' := hp N x) rfl ?_
          rcases ite_or h with ⟨h8, h⟩ | ⟨h8, h⟩
          · refine ev_ict rfl (decide_eq_true h8) ?_
            exact em132_160 k4 (gm132_39 k4 n) q4 q39 a1 a2 a3 a4 a5 a6 x _ h
          · refine ev_icf rfl (decide_eq_false h8) ?_
            exact em132_74 k4 (gm132_39 k4 n) q4 q39 a1 a2 a3 a4 a5 a6 x _ h
        · refine ev_ict rfl (decide_eq_true h9) ?_
          exact em132_74 k4 (gm132_39 k4 n) q4 q39 a1 a2 a3 a4 a5 a6 x _ h
def gm132_4 : Nat → Int32 → Int32 → Int32 → Hs → Option (Int32)
  | 0, _, _, _, _ => none
  | n + 1, a1, a2, a3, x => if a3 ≥ x.1 138 1 then (cond (aBit a2) (some a2) none) else (cond (aIn ((5 * a1) + a3) 20) (cond (aIn ((5 * a1) + a3) 20) (gm132_39 (gm132_4 n) FU a1 a2 a3 (x.1 147 (xi ((5 * a1) + a3))) (x.1 148 (xi ((5 * a1) + a3))) 0 x) none) none)
theorem em132_4 {N : Nat} : ∀ (n : Nat) (a1 : Int32) (a2 : Int32) (a3 : Int32) (x : Hs) (r : Int32), gm132_4 n a1 a2 a3 x = some r → Ev 132 (0, 0) (4, [some (.ref 138), some (.int a1), some (.int a2), some (.int a3), none, none, none, none, none], []) (hp N x) (cvPi N x r)
  | 0, a1, a2, a3, x, r, h => by
    have e9 : (none : Option (Int32)) = some r := h
    cases e9
  | n + 1, a1, a2, a3, x, r, h => by
    have q4 := em132_4 (N := N) n
    rw [gm132_4] at h
    refine ev_run (n := 3) (u' := (0, 0)) (f' := (9, [some (.ref 138), some (.int a1), some (.int a2), some (.int a3), none, none, none, none, none], [.int (x.1 138 1), .int a3])) (h' := hp N x) rfl ?_
    rcases ite_or h with ⟨h4, h⟩ | ⟨h4, h⟩
    · refine ev_ict rfl (decide_eq_true h4) ?_
      refine ev_run (n := 1) (u' := (0, 0)) (f' := (173, [none, none, some (.int a2), none, none, none, none, none, none], [.int a2])) (h' := hp N x) rfl ?_
      obtain ⟨h1, h⟩ := cond_some h
      cases h
      exact ev_iret rfl rfl rfl (Or.inr ⟨rfl, h1⟩)
    · refine ev_icf rfl (decide_eq_false h4) ?_
      refine ev_run (n := 7) (u' := (0, 0)) (f' := (21, [some (.ref 138), some (.int a1), some (.int a2), some (.int a3), none, none, none, none, none], [.int ((5 * a1) + a3), .ref 147])) (h' := hp N x) rfl ?_
      obtain ⟨h2, h⟩ := cond_some h
      refine ev_iald rfl rfl h2 ?_
      refine ev_run (n := 8) (u' := (0, 0)) (f' := (33, [some (.ref 138), some (.int a1), some (.int a2), some (.int a3), some (.int (x.1 147 (xi ((5 * a1) + a3)))), none, none, none, none], [.int ((5 * a1) + a3), .ref 148])) (h' := hp N x) rfl ?_
      obtain ⟨h3, h⟩ := cond_some h
      refine ev_iald rfl rfl h3 ?_
      refine ev_run (n := 3) (u' := (0, 0)) (f' := (39, [some (.ref 138), some (.int a1), some (.int a2), some (.int a3), some (.int (x.1 147 (xi ((5 * a1) + a3)))), some (.int (x.1 148 (xi ((5 * a1) + a3)))), some (.int 0), none, none], [])) (h' := hp N x) rfl ?_
      exact em132_39 (gm132_4 n) q4 FU a1 a2 a3 (x.1 147 (xi ((5 * a1) + a3))) (x.1 148 (xi ((5 * a1) + a3))) 0 x _ h
def gm132 (a1 : Int32) (x : Hs) : Option (Int32) := gm132_4 FU a1 1 0 x
theorem em132 {N : Nat} (a1 : Int32) (x : Hs) (r : Int32) (h : gm132 a1 x = some r) : Ev 132 (0, 0) (0, aPad [.ref 138, .int a1] 9, []) (hp N x) (cvPi N x r) := by
  show Ev 132 (0, 0) (0, [some (.ref 138), some (.int a1), none, none, none, none, none, none, none], []) (hp N x) _
  unfold gm132 at h
  refine ev_run (n := 4) (u' := (0, 0)) (f' := (4, [some (.ref 138), some (.int a1), some (.int 1), some (.int 0), none, none, none, none, none], [])) (h' := hp N x) rfl ?_
  exact em132_4 FU a1 1 0 x _ h
def gm133 (a1 : Int32) (a2 : Int32) (a3 : Int32) (x : Hs) : Option (Int32 × Hs) := cond (aIn a1 20) (cond (aIn a1 20) (cond (aIn a1 20) (cond (aIn a1 20) ((gm132 (a1 / 5) (wI (wI x 147 (xi a1) a2) 148 (xi a1) a3)).bind fun w5 => (cond (aIn a1 20) (cond (aIn a1 20) (cond (aBit w5) (some (w5, (wI (wI (wI (wI x 147 (xi a1) a2) 148 (xi a1) a3) 147 (xi a1) (x.1 147 (xi a1))) 148 (xi a1) (x.1 148 (xi a1))))) none) none) none)) none) none) none) none
theorem em133 {N : Nat} (a1 : Int32) (a2 : Int32) (a3 : Int32) (x : Hs) (r : Int32 × Hs) (h : gm133 a1 a2 a3 x = some r) : Ev 133 (0, 0) (0, aPad [.ref 138, .int a1, .int a2, .int a3] 7, []) (hp N x) (cvMi N r) := by
  show Ev 133 (0, 0) (0, [some (.ref 138), some (.int a1), some (.int a2), some (.int a3), none, none, none], []) (hp N x) _
  unfold gm133 at h
  refine ev_run (n := 3) (u' := (0, 0)) (f' := (5, [some (.ref 138), some (.int a1), some (.int a2), some (.int a3), none, none, none], [.int a1, .ref 147])) (h' := hp N x) rfl ?_
  obtain ⟨h1, h⟩ := cond_some h
  refine ev_iald rfl rfl h1 ?_
  refine ev_run (n := 4) (u' := (0, 0)) (f' := (13, [some (.ref 138), some (.int a1), some (.int a2), some (.int a3), some (.int (x.1 147 (xi a1))), none, none], [.int a1, .ref 148])) (h' := hp N x) rfl ?_
  obtain ⟨h2, h⟩ := cond_some h
  refine ev_iald rfl rfl h2 ?_
  refine ev_run (n := 5) (u' := (0, 0)) (f' := (22, [some (.ref 138), some (.int a1), some (.int a2), some (.int a3), some (.int (x.1 147 (xi a1))), some (.int (x.1 148 (xi a1))), none], [.int a2, .int a1, .ref 147])) (h' := hp N x) rfl ?_
  obtain ⟨h3, h⟩ := cond_some h
  refine ev_iast rfl rfl h3 ?_
  show Ev 133 (0, 0) (23, [some (.ref 138), some (.int a1), some (.int a2), some (.int a3), some (.int (x.1 147 (xi a1))), some (.int (x.1 148 (xi a1))), none], []) (hp N (wI x 147 (xi a1) a2)) _
  refine ev_run (n := 4) (u' := (0, 0)) (f' := (29, [some (.ref 138), some (.int a1), some (.int a2), some (.int a3), some (.int (x.1 147 (xi a1))), some (.int (x.1 148 (xi a1))), none], [.int a3, .int a1, .ref 148])) (h' := hp N (wI x 147 (xi a1) a2)) rfl ?_
  obtain ⟨h4, h⟩ := cond_some h
  refine ev_iast rfl rfl h4 ?_
  show Ev 133 (0, 0) (30, [some (.ref 138), some (.int a1), some (.int a2), some (.int a3), some (.int (x.1 147 (xi a1))), some (.int (x.1 148 (xi a1))), none], []) (hp N (wI (wI x 147 (xi a1) a2) 148 (xi a1) a3)) _
  refine ev_run (n := 3) (u' := (0, 0)) (f' := (33, [some (.ref 138), some (.int a1), some (.int a2), some (.int a3), some (.int (x.1 147 (xi a1))), some (.int (x.1 148 (xi a1))), none], [.int 5, .int a1, .ref 138])) (h' := hp N (wI (wI x 147 (xi a1) a2) 148 (xi a1) a3)) rfl ?_
  refine ev_idiv rfl (by decide) ?_
  obtain ⟨w5, h6, h⟩ := bind_ok h
  refine ev_call (v := some (.int w5)) (h1 := hp N (wI (wI x 147 (xi a1) a2) 148 (xi a1) a3)) rfl rfl rfl rfl (em132 (a1 / 5) (wI (wI x 147 (xi a1) a2) 148 (xi a1) a3) _ h6) ?_
  show Ev 133 (0, 0) (37, [some (.ref 138), some (.int a1), some (.int a2), some (.int a3), some (.int (x.1 147 (xi a1))), some (.int (x.1 148 (xi a1))), none], [.int w5]) (hp N (wI (wI x 147 (xi a1) a2) 148 (xi a1) a3)) _
  refine ev_run (n := 5) (u' := (0, 0)) (f' := (46, [some (.ref 138), some (.int a1), some (.int a2), some (.int a3), some (.int (x.1 147 (xi a1))), some (.int (x.1 148 (xi a1))), some (.int w5)], [.int (x.1 147 (xi a1)), .int a1, .ref 147])) (h' := hp N (wI (wI x 147 (xi a1) a2) 148 (xi a1) a3)) rfl ?_
  obtain ⟨h7, h⟩ := cond_some h
  refine ev_iast rfl rfl h7 ?_
  show Ev 133 (0, 0) (47, [some (.ref 138), some (.int a1), some (.int a2), some (.int a3), some (.int (x.1 147 (xi a1))), some (.int (x.1 148 (xi a1))), some (.int w5)], []) (hp N (wI (wI (wI x 147 (xi a1) a2) 148 (xi a1) a3) 147 (xi a1) (x.1 147 (xi a1)))) _
  refine ev_run (n := 4) (u' := (0, 0)) (f' := (54, [some (.ref 138), some (.int a1), some (.int a2), some (.int a3), some (.int (x.1 147 (xi a1))), some (.int (x.1 148 (xi a1))), some (.int w5)], [.int (x.1 148 (xi a1)), .int a1, .ref 148])) (h' := hp N (wI (wI (wI x 147 (xi a1) a2) 148 (xi a1) a3) 147 (xi a1) (x.1 147 (xi a1)))) rfl ?_
  obtain ⟨h8, h⟩ := cond_some h
  refine ev_iast rfl rfl h8 ?_
  show Ev 133 (0, 0) (55, [some (.ref 138), some (.int a1), some (.int a2), some (.int a3), some (.int (x.1 147 (xi a1))), some (.int (x.1 148 (xi a1))), some (.int w5)], []) (hp N (wI (wI (wI (wI x 147 (xi a1) a2) 148 (xi a1) a3) 147 (xi a1) (x.1 147 (xi a1))) 148 (xi a1) (x.1 148 (xi a1)))) _
  refine ev_run (n := 1) (u' := (0, 0)) (f' := (57, [some (.ref 138), some (.int a1), some (.int a2), some (.int a3), some (.int (x.1 147 (xi a1))), some (.int (x.1 148 (xi a1))), some (.int w5)], [.int w5])) (h' := hp N (wI (wI (wI (wI x 147 (xi a1) a2) 148 (xi a1) a3) 147 (xi a1) (x.1 147 (xi a1))) 148 (xi a1) (x.1 148 (xi a1)))) rfl ?_
  obtain ⟨h9, h⟩ := cond_some h
  cases h
  exact ev_iret rfl rfl rfl (Or.inr ⟨rfl, h9⟩)
def gm134_52 (a1 : Int32) (s1 : Int32) (x : Hs) : Option (Int32 × Hs) := (gm113 s1 x).bind fun w12 => (if w12.1 = 0 then (cond (aIn a1 24) (cond (aIn (w12.2.1 140 (xi a1)) 5) (cond (aIn a1 24) (cond (aIn ((wI w12.2 155 (xi (w12.2.1 140 (xi a1))) a1).1 140 (xi a1)) 5) (cond (aIn a1 24) (cond (aIn ((wI (wI w12.2 155 (xi (w12.2.1 140 (xi a1))) a1) 156 (xi ((wI w12.2 155 (xi (w12.2.1 140 (xi a1))) a1).1 140 (xi a1))) 0).1 140 (xi a1)) 5) (cond (aIn a1 24) (some ((wI (wI (wI w12.2 155 (xi (w12.2.1 140 (xi a1))) a1) 156 (xi ((wI w12.2 155 (xi (w12.2.1 140 (xi a1))) a1).1 140 (xi a1))) 0) 157 (xi ((wI (wI w12.2 155 (xi (w12.2.1 140 (xi a1))) a1) 156 (xi ((wI w12.2 155 (xi (w12.2.1 140 (xi a1))) a1).1 140 (xi a1))) 0).1 140 (xi a1))) 0).1 140 (xi a1), (wI (wI (wI w12.2 155 (xi (w12.2.1 140 (xi a1))) a1) 156 (xi ((wI w12.2 155 (xi (w12.2.1 140 (xi a1))) a1).1 140 (xi a1))) 0) 157 (xi ((wI (wI w12.2 155 (xi (w12.2.1 140 (xi a1))) a1) 156 (xi ((wI w12.2 155 (xi (w12.2.1 140 (xi a1))) a1).1 140 (xi a1))) 0).1 140 (xi a1))) 0))) none) none) none) none) none) none) none) else (some (0, w12.2)))
theorem em134_52 {N : Nat} (a1 : Int32) (s1 : Int32) (x : Hs) (r : Int32 × Hs) (h : gm134_52 a1 s1 x = some r) : Ev 134 (0, 0) (52, [some (.ref 138), some (.int a1), none], [.int s1, .ref 138]) (hp N x) (cvMi N r) := by
  unfold gm134_52 at h
  obtain ⟨w12, h13, h⟩ := bind_ok h
  refine ev_call (v := some (.int w12.1)) (h1 := hp N w12.2) rfl rfl rfl rfl (em113 s1 x _ h13) ?_
  show Ev 134 (0, 0) (55, [some (.ref 138), some (.int a1), none], [.int w12.1]) (hp N w12.2) _
  rcases ite_or h with ⟨h21, h⟩ | ⟨h21, h⟩
  · refine ev_ift rfl (decide_eq_true h21) ?_
    refine ev_run (n := 5) (u' := (0, 0)) (f' := (69, [some (.ref 138), some (.int a1), none], [.int a1, .ref 140, .ref 155])) (h' := hp N w12.2) rfl ?_
    obtain ⟨h14, h⟩ := cond_some h
    refine ev_iald rfl rfl h14 ?_
    refine ev_run (n := 1) (u' := (0, 0)) (f' := (71, [some (.ref 138), some (.int a1), none], [.int a1, .int (w12.2.1 140 (xi a1)), .ref 155])) (h' := hp N w12.2) rfl ?_
    obtain ⟨h15, h⟩ := cond_some h
    refine ev_iast rfl rfl h15 ?_
    show Ev 134 (0, 0) (72, [some (.ref 138), some (.int a1), none], []) (hp N (wI w12.2 155 (xi (w12.2.1 140 (xi a1))) a1)) _
    refine ev_run (n := 5) (u' := (0, 0)) (f' := (81, [some (.ref 138), some (.int a1), none], [.int a1, .ref 140, .ref 156])) (h' := hp N (wI w12.2 155 (xi (w12.2.1 140 (xi a1))) a1)) rfl ?_
    obtain ⟨h16, h⟩ := cond_some h
    refine ev_iald rfl rfl h16 ?_
    refine ev_run (n := 1) (u' := (0, 0)) (f' := (83, [some (.ref 138), some (.int a1), none], [.int 0, .int ((wI w12.2 155 (xi (w12.2.1 140 (xi a1))) a1).1 140 (xi a1)), .ref 156])) (h' := hp N (wI w12.2 155 (xi (w12.2.1 140 (xi a1))) a1)) rfl ?_
    obtain ⟨h17, h⟩ := cond_some h
    refine ev_iast rfl rfl h17 ?_
    show Ev 134 (0, 0) (84, [some (.ref 138), some (.int a1), none], []) (hp N (wI (wI w12.2 155 (xi (w12.2.1 140 (xi a1))) a1) 156 (xi ((wI w12.2 155 (xi (w12.2.1 140 (xi a1))) a1).1 140 (xi a1))) 0)) _
    refine ev_run (n := 5) (u' := (0, 0)) (f' := (93, [some (.ref 138), some (.int a1), none], [.int a1, .ref 140, .ref 157])) (h' := hp N (wI (wI w12.2 155 (xi (w12.2.1 140 (xi a1))) a1) 156 (xi ((wI w12.2 155 (xi (w12.2.1 140 (xi a1))) a1).1 140 (xi a1))) 0)) rfl ?_
    obtain ⟨h18, h⟩ := cond_some h
    refine ev_iald rfl rfl h18 ?_
    refine ev_run (n := 1) (u' := (0, 0)) (f' := (95, [some (.ref 138), some (.int a1), none], [.int 0, .int ((wI (wI w12.2 155 (xi (w12.2.1 140 (xi a1))) a1) 156 (xi ((wI w12.2 155 (xi (w12.2.1 140 (xi a1))) a1).1 140 (xi a1))) 0).1 140 (xi a1)), .ref 157])) (h' := hp N (wI (wI w12.2 155 (xi (w12.2.1 140 (xi a1))) a1) 156 (xi ((wI w12.2 155 (xi (w12.2.1 140 (xi a1))) a1).1 140 (xi a1))) 0)) rfl ?_
    obtain ⟨h19, h⟩ := cond_some h
    refine ev_bast rfl rfl h19 rfl ?_
    show Ev 134 (0, 0) (96, [some (.ref 138), some (.int a1), none], []) (hp N (wI (wI (wI w12.2 155 (xi (w12.2.1 140 (xi a1))) a1) 156 (xi ((wI w12.2 155 (xi (w12.2.1 140 (xi a1))) a1).1 140 (xi a1))) 0) 157 (xi ((wI (wI w12.2 155 (xi (w12.2.1 140 (xi a1))) a1) 156 (xi ((wI w12.2 155 (xi (w12.2.1 140 (xi a1))) a1).1 140 (xi a1))) 0).1 140 (xi a1))) 0)) _
    refine ev_run (n := 3) (u' := (0, 0)) (f' := (101, [some (.ref 138), some (.int a1), none], [.int a1, .ref 140])) (h' := hp N (wI (wI (wI w12.2 155 (xi (w12.2.1 140 (xi a1))) a1) 156 (xi ((wI w12.2 155 (xi (w12.2.1 140 (xi a1))) a1).1 140 (xi a1))) 0) 157 (xi ((wI (wI w12.2 155 (xi (w12.2.1 140 (xi a1))) a1) 156 (xi ((wI w12.2 155 (xi (w12.2.1 140 (xi a1))) a1).1 140 (xi a1))) 0).1 140 (xi a1))) 0)) rfl ?_
    obtain ⟨h20, h⟩ := cond_some h
    refine ev_iald rfl rfl h20 ?_
    cases h
    exact ev_iret rfl rfl rfl (Or.inl rfl)
  · refine ev_iff rfl (decide_eq_false h21) ?_
    refine ev_run (n := 1) (u' := (0, 0)) (f' := (59, [some (.ref 138), some (.int a1), none], [.int 0])) (h' := hp N w12.2) rfl ?_
    cases h
    exact ev_iret rfl rfl rfl (Or.inl rfl)
def gm134_47 (a1 : Int32) (x : Hs) : Option (Int32 × Hs) := gm134_52 a1 2 x
theorem em134_47 {N : Nat} (a1 : Int32) (x : Hs) (r : Int32 × Hs) (h : gm134_47 a1 x = some r) : Ev 134 (0, 0) (47, [some (.ref 138), some (.int a1), none], [.ref 138]) (hp N x) (cvMi N r) := by
  unfold gm134_47 at h
  refine ev_run (n := 2) (u' := (0, 0)) (f' := (52, [some (.ref 138), some (.int a1), none], [.int 2, .ref 138])) (h' := hp N x) rfl ?_
  exact em134_52 a1 2 x _ h
def gm134 (a1 : Int32) (x : Hs) : Option (Int32 × Hs) := (gm118 a1 x).bind fun w1 => (if w1 = 0 then (gm134_52 a1 1 x) else (cond (aIn a1 24) (cond (aIn (x.1 140 (xi a1)) 5) (if x.1 155 (xi (x.1 140 (xi a1))) = (-1) then ((gm124 a1 x).bind fun w5 => (if w5 = 0 then (cond (aIn a1 24) (if x.1 145 (xi a1) = 0 then (gm134_52 a1 0 x) else (gm134_47 a1 x)) none) else (gm134_47 a1 x))) else (gm134_47 a1 x)) none) none))
theorem em134 {N : Nat} (a1 : Int32) (x : Hs) (r : Int32 × Hs) (h : gm134 a1 x = some r) : Ev 134 (0, 0) (0, aPad [.ref 138, .int a1] 3, []) (hp N x) (cvMi N r) := by
  show Ev 134 (0, 0) (0, [some (.ref 138), some (.int a1), none], []) (hp N x) _
  unfold gm134 at h
  refine ev_run (n := 2) (u' := (0, 0)) (f' := (2, [some (.ref 138), some (.int a1), none], [.int a1, .ref 138])) (h' := hp N x) rfl ?_
  obtain ⟨w1, h2, h⟩ := bind_ok h
  refine ev_call (v := some (.int w1)) (h1 := hp N x) rfl rfl rfl rfl (em118 a1 x _ h2) ?_
  show Ev 134 (0, 0) (5, [some (.ref 138), some (.int a1), none], [.int w1]) (hp N x) _
  refine ev_run (n := 3) (u' := (0, 0)) (f' := (8, [some (.ref 138), some (.int a1), some (.int w1)], [.int w1, .ref 138])) (h' := hp N x) rfl ?_
  rcases ite_or h with ⟨h11, h⟩ | ⟨h11, h⟩
  · refine ev_iff rfl (decide_eq_false (fun w => w h11)) ?_
    refine ev_run (n := 2) (u' := (0, 0)) (f' := (52, [some (.ref 138), some (.int a1), none], [.int 1, .ref 138])) (h' := hp N x) rfl ?_
    exact em134_52 a1 1 x _ h
  · refine ev_ift rfl (decide_eq_true h11) ?_
    refine ev_run (n := 5) (u' := (0, 0)) (f' := (24, [some (.ref 138), some (.int a1), none], [.int a1, .ref 140, .ref 155, .ref 138])) (h' := hp N x) rfl ?_
    obtain ⟨h3, h⟩ := cond_some h
    refine ev_iald rfl rfl h3 ?_
    obtain ⟨h4, h⟩ := cond_some h
    refine ev_iald rfl rfl h4 ?_
    refine ev_run (n := 1) (u' := (0, 0)) (f' := (27, [some (.ref 138), some (.int a1), none], [.int (-1), .int (x.1 155 (xi (x.1 140 (xi a1)))), .ref 138])) (h' := hp N x) rfl ?_
    rcases ite_or h with ⟨h10, h⟩ | ⟨h10, h⟩
    · refine ev_icf rfl (decide_eq_false (fun w => w h10)) ?_
      refine ev_run (n := 2) (u' := (0, 0)) (f' := (32, [some (.ref 138), some (.int a1), none], [.int a1, .ref 138, .ref 138])) (h' := hp N x) rfl ?_
      obtain ⟨w5, h6, h⟩ := bind_ok h
      refine ev_call (v := some (.int w5)) (h1 := hp N x) rfl rfl rfl rfl (em124 a1 x _ h6) ?_
      show Ev 134 (0, 0) (35, [some (.ref 138), some (.int a1), none], [.int w5, .ref 138]) (hp N x) _
      rcases ite_or h with ⟨h9, h⟩ | ⟨h9, h⟩
      · refine ev_iff rfl (decide_eq_false (fun w => w h9)) ?_
        refine ev_run (n := 3) (u' := (0, 0)) (f' := (43, [some (.ref 138), some (.int a1), none], [.int a1, .ref 145, .ref 138])) (h' := hp N x) rfl ?_
        obtain ⟨h7, h⟩ := cond_some h
        refine ev_bald rfl rfl h7 ?_
        rcases ite_or h with ⟨h8, h⟩ | ⟨h8, h⟩
        · refine ev_ift rfl (decide_eq_true h8) ?_
          refine ev_run (n := 1) (u' := (0, 0)) (f' := (52, [some (.ref 138), some (.int a1), none], [.int 0, .ref 138])) (h' := hp N x) rfl ?_
          exact em134_52 a1 0 x _ h
        · refine ev_iff rfl (decide_eq_false h8) ?_
          exact em134_47 a1 x _ h
      · refine ev_ift rfl (decide_eq_true h9) ?_
        exact em134_47 a1 x _ h
    · refine ev_ict rfl (decide_eq_true h10) ?_
      exact em134_47 a1 x _ h
def gm135_67 (k4 : Int32 → Int32 → Int32 → Hs → Option (Int32)) (a1 : Int32) (a3 : Int32) (s0 : Int32) (x : Hs) : Option (Int32) := k4 a1 s0 (a3 + 1) x
theorem em135_67 {N : Nat} (k4 : Int32 → Int32 → Int32 → Hs → Option (Int32)) (q4 : ∀ (a1 : Int32) (a2 : Int32) (a3 : Int32) (x : Hs) (r : Int32), k4 a1 a2 a3 x = some r → Ev 135 (0, 0) (4, [some (.ref 138), some (.int a1), some (.int a2), some (.int a3)], []) (hp N x) (cvPi N x r)) (a1 : Int32) (a3 : Int32) (s0 : Int32) (x : Hs) (r : Int32) (h : gm135_67 k4 a1 a3 s0 x = some r) : Ev 135 (0, 0) (67, [some (.ref 138), some (.int a1), none, some (.int a3)], [.int s0]) (hp N x) (cvPi N x r) := by
  unfold gm135_67 at h
  refine ev_run (n := 3) (u' := (0, 0)) (f' := (4, [some (.ref 138), some (.int a1), some (.int s0), some (.int (a3 + 1))], [])) (h' := hp N x) rfl ?_
  exact q4 a1 s0 (a3 + 1) x _ h
def gm135_62 (k4 : Int32 → Int32 → Int32 → Hs → Option (Int32)) (a1 : Int32) (a3 : Int32) (x : Hs) : Option (Int32) := gm135_67 k4 a1 a3 1 x
theorem em135_62 {N : Nat} (k4 : Int32 → Int32 → Int32 → Hs → Option (Int32)) (q4 : ∀ (a1 : Int32) (a2 : Int32) (a3 : Int32) (x : Hs) (r : Int32), k4 a1 a2 a3 x = some r → Ev 135 (0, 0) (4, [some (.ref 138), some (.int a1), some (.int a2), some (.int a3)], []) (hp N x) (cvPi N x r)) (a1 : Int32) (a3 : Int32) (x : Hs) (r : Int32) (h : gm135_62 k4 a1 a3 x = some r) : Ev 135 (0, 0) (62, [some (.ref 138), some (.int a1), none, some (.int a3)], []) (hp N x) (cvPi N x r) := by
  unfold gm135_62 at h
  refine ev_run (n := 2) (u' := (0, 0)) (f' := (67, [some (.ref 138), some (.int a1), none, some (.int a3)], [.int 1])) (h' := hp N x) rfl ?_
  exact em135_67 k4 q4 a1 a3 1 x _ h
theorem em135_62_k1 {N : Nat} (k4 : Int32 → Int32 → Int32 → Hs → Option (Int32)) (q4 : ∀ (a1 : Int32) (a2 : Int32) (a3 : Int32) (x : Hs) (r : Int32), k4 a1 a2 a3 x = some r → Ev 135 (0, 0) (4, [some (.ref 138), some (.int a1), some (.int a2), some (.int a3)], []) (hp N x) (cvPi N x r)) (a1 : Int32) (a2 : Int32) (a3 : Int32) (x : Hs) (r : Int32) (h : gm135_62 k4 a1 a3 x = some r) : Ev 135 (0, 0) (62, [some (.ref 138), some (.int a1), some (.int a2), some (.int a3)], []) (hp N x) (cvPi N x r) := by
  unfold gm135_62 at h
  refine ev_run (n := 2) (u' := (0, 0)) (f' := (67, [some (.ref 138), some (.int a1), none, some (.int a3)], [.int 1])) (h' := hp N x) rfl ?_
  exact em135_67 k4 q4 a1 a3 1 x _ h
def gm135_66 (k4 : Int32 → Int32 → Int32 → Hs → Option (Int32)) (a1 : Int32) (a3 : Int32) (x : Hs) : Option (Int32) := gm135_67 k4 a1 a3 0 x
theorem em135_66 {N : Nat} (k4 : Int32 → Int32 → Int32 → Hs → Option (Int32)) (q4 : ∀ (a1 : Int32) (a2 : Int32) (a3 : Int32) (x : Hs) (r : Int32), k4 a1 a2 a3 x = some r → Ev 135 (0, 0) (4, [some (.ref 138), some (.int a1), some (.int a2), some (.int a3)], []) (hp N x) (cvPi N x r)) (a1 : Int32) (a3 : Int32) (x : Hs) (r : Int32) (h : gm135_66 k4 a1 a3 x = some r) : Ev 135 (0, 0) (66, [some (.ref 138), some (.int a1), none, some (.int a3)], []) (hp N x) (cvPi N x r) := by
  unfold gm135_66 at h
  refine ev_run (n := 1) (u' := (0, 0)) (f' := (67, [some (.ref 138), some (.int a1), none, some (.int a3)], [.int 0])) (h' := hp N x) rfl ?_
  exact em135_67 k4 q4 a1 a3 0 x _ h
