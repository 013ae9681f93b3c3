/-! The methods as functions; printed by dec.py -/
def gm162_102 (a1 : Int32) (a2 : Int32) (a5 : Int32) (x : Hs) : Option (Int32 × Hs) := gm162_103 a1 a2 a5 0 x
theorem em162_102 {N : Nat} (a1 : Int32) (a2 : Int32) (a5 : Int32) (x : Hs) (r : Int32 × Hs) (h : gm162_102 a1 a2 a5 x = some r) : Ev 162 (0, 0) (102, [some (.ref 138), some (.int a1), some (.int a2), none, none, some (.int a5), none], [.ref 138]) (hp N x) (cvMi N r) := by
  unfold gm162_102 at h
  refine ev_run (n := 1) (u' := (0, 0)) (f' := (103, [some (.ref 138), some (.int a1), some (.int a2), none, none, some (.int a5), none], [.int 0, .ref 138])) (h' := hp N x) rfl ?_
  exact em162_103 a1 a2 a5 0 x _ h
def gm162_65 (a1 : Int32) (a2 : Int32) (a3 : Int32) (a4 : Int32) (a5 : Int32) (x : Hs) : Option (Int32 × Hs) := if a3 = 0 then (gm162_103 a1 a2 a5 1 x) else (if a4 = 0 then (gm162_103 a1 a2 a5 2 x) else (if a5 = (-1) then (if x.1 138 42 = 12 then (gm162_103 a1 a2 a5 3 x) else (gm162_102 a1 a2 a5 x)) else (gm162_102 a1 a2 a5 x)))
theorem em162_65 {N : Nat} (a1 : Int32) (a2 : Int32) (a3 : Int32) (a4 : Int32) (a5 : Int32) (x : Hs) (r : Int32 × Hs) (h : gm162_65 a1 a2 a3 a4 a5 x = some r) : Ev 162 (0, 0) (65, [some (.ref 138), some (.int a1), some (.int a2), some (.int a3), some (.int a4), some (.int a5), none], []) (hp N x) (cvMi N r) := by
  unfold gm162_65 at h
  refine ev_run (n := 2) (u' := (0, 0)) (f' := (67, [some (.ref 138), some (.int a1), some (.int a2), some (.int a3), some (.int a4), some (.int a5), none], [.int a3, .ref 138])) (h' := hp N x) rfl ?_
  rcases ite_or h with ⟨h13, h⟩ | ⟨h13, h⟩
  · refine ev_iff rfl (decide_eq_false (fun w => w h13)) ?_
    refine ev_run (n := 2) (u' := (0, 0)) (f' := (103, [some (.ref 138), some (.int a1), some (.int a2), none, none, some (.int a5), none], [.int 1, .ref 138])) (h' := hp N x) rfl ?_
    exact em162_103 a1 a2 a5 1 x _ h
  · refine ev_ift rfl (decide_eq_true h13) ?_
    refine ev_run (n := 1) (u' := (0, 0)) (f' := (76, [some (.ref 138), some (.int a1), some (.int a2), none, some (.int a4), some (.int a5), none], [.int a4, .ref 138])) (h' := hp N x) rfl ?_
    rcases ite_or h with ⟨h12, h⟩ | ⟨h12, h⟩
    · refine ev_iff rfl (decide_eq_false (fun w => w h12)) ?_
      refine ev_run (n := 2) (u' := (0, 0)) (f' := (103, [some (.ref 138), some (.int a1), some (.int a2), none, none, some (.int a5), none], [.int 2, .ref 138])) (h' := hp N x) rfl ?_
      exact em162_103 a1 a2 a5 2 x _ h
    · refine ev_ift rfl (decide_eq_true h12) ?_
      refine ev_run (n := 2) (u' := (0, 0)) (f' := (86, [some (.ref 138), some (.int a1), some (.int a2), none, none, some (.int a5), none], [.int (-1), .int a5, .ref 138])) (h' := hp N x) rfl ?_
      rcases ite_or h with ⟨h11, h⟩ | ⟨h11, h⟩
      · refine ev_icf rfl (decide_eq_false (fun w => w h11)) ?_
        refine ev_run (n := 3) (u' := (0, 0)) (f' := (95, [some (.ref 138), some (.int a1), some (.int a2), none, none, some (.int a5), none], [.int 12, .int (x.1 138 42), .ref 138])) (h' := hp N x) rfl ?_
        rcases ite_or h with ⟨h10, h⟩ | ⟨h10, h⟩
        · refine ev_icf rfl (decide_eq_false (fun w => w h10)) ?_
          refine ev_run (n := 2) (u' := (0, 0)) (f' := (103, [some (.ref 138), some (.int a1), some (.int a2), none, none, some (.int a5), none], [.int 3, .ref 138])) (h' := hp N x) rfl ?_
          exact em162_103 a1 a2 a5 3 x _ h
        · refine ev_ict rfl (decide_eq_true h10) ?_
          exact em162_102 a1 a2 a5 x _ h
      · refine ev_ict rfl (decide_eq_true h11) ?_
        exact em162_102 a1 a2 a5 x _ h
def gm162_20 : Nat → Int32 → Int32 → Int32 → Int32 → Int32 → Int32 → Hs → Option (Int32 × Hs)
  | 0, _, _, _, _, _, _, _ => none
  | n + 1, a1, a2, a3, a4, a5, a6, x => if a6 ≥ x.1 138 42 then (gm162_65 a1 a2 a3 a4 a5 x) else (cond (aIn a6 12) (if x.1 174 (xi a6) = a1 then (cond (aIn a6 12) (if x.1 181 (xi a6) = 0 then (gm162_57 (gm162_20 n) a1 a2 a3 a4 a6 a6 x) else (gm162_55 (gm162_20 n) a1 a2 a3 a4 a5 a6 x)) none) else (gm162_55 (gm162_20 n) a1 a2 a3 a4 a5 a6 x)) none)
theorem em162_20 {N : Nat} : ∀ (n : Nat) (a1 : Int32) (a2 : Int32) (a3 : Int32) (a4 : Int32) (a5 : Int32) (a6 : Int32) (x : Hs) (r : Int32 × Hs), gm162_20 n a1 a2 a3 a4 a5 a6 x = some r → Ev 162 (0, 0) (20, [some (.ref 138), some (.int a1), some (.int a2), some (.int a3), some (.int a4), some (.int a5), some (.int a6)], []) (hp N x) (cvMi N r)
  | 0, a1, a2, a3, a4, a5, a6, x, r, h => by
    have e9 : (none : Option (Int32 × Hs)) = some r := h
    cases e9
  | n + 1, a1, a2, a3, a4, a5, a6, x, r, h => by
    have q20 := em162_20 (N := N) n
    rw [gm162_20] at h
    refine ev_run (n := 3) (u' := (0, 0)) (f' := (26, [some (.ref 138), some (.int a1), some (.int a2), some (.int a3), some (.int a4), some (.int a5), some (.int a6)], [.int (x.1 138 42), .int a6])) (h' := hp N x) rfl ?_
    rcases ite_or h with ⟨h9, h⟩ | ⟨h9, h⟩
    · refine ev_ict rfl (decide_eq_true h9) ?_
      exact em162_65 a1 a2 a3 a4 a5 x _ h
    · refine ev_icf rfl (decide_eq_false h9) ?_
      refine ev_run (n := 3) (u' := (0, 0)) (f' := (35, [some (.ref 138), some (.int a1), some (.int a2), some (.int a3), some (.int a4), some (.int a5), some (.int a6)], [.int a6, .ref 174])) (h' := hp N x) rfl ?_
      obtain ⟨h5, h⟩ := cond_some h
      refine ev_iald rfl rfl h5 ?_
      refine ev_run (n := 1) (u' := (0, 0)) (f' := (37, [some (.ref 138), some (.int a1), some (.int a2), some (.int a3), some (.int a4), some (.int a5), some (.int a6)], [.int a1, .int (x.1 174 (xi a6))])) (h' := hp N x) rfl ?_
      rcases ite_or h with ⟨h8, h⟩ | ⟨h8, h⟩
      · refine ev_icf rfl (decide_eq_false (fun w => w h8)) ?_
        refine ev_run (n := 3) (u' := (0, 0)) (f' := (46, [some (.ref 138), some (.int a1), some (.int a2), some (.int a3), some (.int a4), some (.int a5), some (.int a6)], [.int a6, .ref 181])) (h' := hp N x) rfl ?_
        obtain ⟨h6, h⟩ := cond_some h
        refine ev_bald rfl rfl h6 ?_
        rcases ite_or h with ⟨h7, h⟩ | ⟨h7, h⟩
        · refine ev_iff rfl (decide_eq_false (fun w => w h7)) ?_
          refine ev_run (n := 2) (u' := (0, 0)) (f' := (57, [some (.ref 138), some (.int a1), some (.int a2), some (.int a3), some (.int a4), none, some (.int a6)], [.int a6])) (h' := hp N x) rfl ?_
          exact em162_57 (gm162_20 n) q20 a1 a2 a3 a4 a6 a6 x _ h
        · refine ev_ift rfl (decide_eq_true h7) ?_
          exact em162_55 (gm162_20 n) q20 a1 a2 a3 a4 a5 a6 x _ h
      · refine ev_ict rfl (decide_eq_true h8) ?_
        exact em162_55 (gm162_20 n) q20 a1 a2 a3 a4 a5 a6 x _ h
def gm162 (a1 : Int32) (a2 : Int32) (x : Hs) : Option (Int32 × Hs) := (gm117 a1 x).bind fun w1 => ((gm114 a2 0 3 x).bind fun w3 => (gm162_20 FU a1 a2 w1 w3 (-1) 0 x))
theorem em162 {N : Nat} (a1 : Int32) (a2 : Int32) (x : Hs) (r : Int32 × Hs) (h : gm162 a1 a2 x = some r) : Ev 162 (0, 0) (0, aPad [.ref 138, .int a1, .int a2] 7, []) (hp N x) (cvMi N r) := by
  show Ev 162 (0, 0) (0, [some (.ref 138), some (.int a1), some (.int a2), none, none, none, none], []) (hp N x) _
  unfold gm162 at h
  refine ev_run (n := 2) (u' := (0, 0)) (f' := (2, [some (.ref 138), some (.int a1), some (.int a2), none, none, none, none], [.int a1, .ref 138])) (h' := hp N x) rfl ?_
  obtain ⟨w1, h2, h⟩ := bind_ok h
  refine ev_call (v := some (.int w1)) (h1 := hp N x) rfl rfl rfl rfl (em117 a1 x _ h2) ?_
  show Ev 162 (0, 0) (5, [some (.ref 138), some (.int a1), some (.int a2), none, none, none, none], [.int w1]) (hp N x) _
  refine ev_run (n := 4) (u' := (0, 0)) (f' := (9, [some (.ref 138), some (.int a1), some (.int a2), some (.int w1), none, none, none], [.int 3, .int 0, .int a2])) (h' := hp N x) rfl ?_
  obtain ⟨w3, h4, h⟩ := bind_ok h
  refine ev_call (v := some (.int w3)) (h1 := hp N x) rfl rfl rfl rfl (em114 a2 0 3 x _ h4) ?_
  show Ev 162 (0, 0) (12, [some (.ref 138), some (.int a1), some (.int a2), some (.int w1), none, none, none], [.int w3]) (hp N x) _
  refine ev_run (n := 5) (u' := (0, 0)) (f' := (20, [some (.ref 138), some (.int a1), some (.int a2), some (.int w1), some (.int w3), some (.int (-1)), some (.int 0)], [])) (h' := hp N x) rfl ?_
  exact em162_20 FU a1 a2 w1 w3 (-1) 0 x _ h
def gm163 (a1 : Int32) (x : Hs) : Option (Int32) := (gm114 a1 0 (x.1 138 42 - 1) x).bind fun w1 => (cond (aBit w1) (some w1) none)
theorem em163 {N : Nat} (a1 : Int32) (x : Hs) (r : Int32) (h : gm163 a1 x = some r) : Ev 163 (0, 0) (0, aPad [.ref 138, .int a1] 2, []) (hp N x) (cvPi N x r) := by
  show Ev 163 (0, 0) (0, [some (.ref 138), some (.int a1)], []) (hp N x) _
  unfold gm163 at h
  refine ev_run (n := 6) (u' := (0, 0)) (f' := (8, [some (.ref 138), some (.int a1)], [.int (x.1 138 42 - 1), .int 0, .int a1])) (h' := hp N x) rfl ?_
  obtain ⟨w1, h2, h⟩ := bind_ok h
  refine ev_call (v := some (.int w1)) (h1 := hp N x) rfl rfl rfl rfl (em114 a1 0 (x.1 138 42 - 1) x _ h2) ?_
  show Ev 163 (0, 0) (11, [some (.ref 138), some (.int a1)], [.int w1]) (hp N x) _
  obtain ⟨h3, h⟩ := cond_some h
  cases h
  exact ev_iret rfl rfl rfl (Or.inr ⟨rfl, h3⟩)
def gm164_68 (a1 : Int32) (a2 : Int32) (s1 : Int32) (x : Hs) : Option (Int32 × Hs) := (gm113 s1 x).bind fun w16 => (if w16.1 = 0 then (cond (aIn a1 12) (cond (aIn a1 12) ((gm116 ((wI w16.2 180 (xi a1) a2).1 178 (xi a1)) (wI w16.2 180 (xi a1) a2)).bind fun w20 => (some (w20, (wI w16.2 180 (xi a1) a2)))) none) none) else (some (0, w16.2)))
theorem em164_68 {N : Nat} (a1 : Int32) (a2 : Int32) (s1 : Int32) (x : Hs) (r : Int32 × Hs) (h : gm164_68 a1 a2 s1 x = some r) : Ev 164 (0, 0) (68, [some (.ref 138), some (.int a1), some (.int a2), none], [.int s1, .ref 138]) (hp N x) (cvMi N r) := by
  unfold gm164_68 at h
  obtain ⟨w16, h17, h⟩ := bind_ok h
  refine ev_call (v := some (.int w16.1)) (h1 := hp N w16.2) rfl rfl rfl rfl (em113 s1 x _ h17) ?_
  show Ev 164 (0, 0) (71, [some (.ref 138), some (.int a1), some (.int a2), none], [.int w16.1]) (hp N w16.2) _
  rcases ite_or h with ⟨h22, h⟩ | ⟨h22, h⟩
  · refine ev_ift rfl (decide_eq_true h22) ?_
    refine ev_run (n := 4) (u' := (0, 0)) (f' := (82, [some (.ref 138), some (.int a1), some (.int a2), none], [.int a2, .int a1, .ref 180])) (h' := hp N w16.2) rfl ?_
    obtain ⟨h18, h⟩ := cond_some h
    refine ev_iast rfl rfl h18 ?_
    show Ev 164 (0, 0) (83, [some (.ref 138), some (.int a1), some (.int a2), none], []) (hp N (wI w16.2 180 (xi a1) a2)) _
    refine ev_run (n := 3) (u' := (0, 0)) (f' := (88, [some (.ref 138), some (.int a1), some (.int a2), none], [.int a1, .ref 178])) (h' := hp N (wI w16.2 180 (xi a1) a2)) rfl ?_
    obtain ⟨h19, h⟩ := cond_some h
    refine ev_iald rfl rfl h19 ?_
    obtain ⟨w20, h21, h⟩ := bind_ok h
    refine ev_call (v := some (.int w20)) (h1 := hp N (wI w16.2 180 (xi a1) a2)) rfl rfl rfl rfl (em116 ((wI w16.2 180 (xi a1) a2).1 178 (xi a1)) (wI w16.2 180 (xi a1) a2) _ h21) ?_
    show Ev 164 (0, 0) (92, [some (.ref 138), some (.int a1), some (.int a2), none], [.int w20]) (hp N (wI w16.2 180 (xi a1) a2)) _
    cases h
    exact ev_iret rfl rfl rfl (Or.inl rfl)
  · refine ev_iff rfl (decide_eq_false h22) ?_
    refine ev_run (n := 1) (u' := (0, 0)) (f' := (75, [some (.ref 138), some (.int a1), some (.int a2), none], [.int 0])) (h' := hp N w16.2) rfl ?_
    cases h
    exact ev_iret rfl rfl rfl (Or.inl rfl)
def gm164_63 (a1 : Int32) (a2 : Int32) (x : Hs) : Option (Int32 × Hs) := gm164_68 a1 a2 2 x
theorem em164_63 {N : Nat} (a1 : Int32) (a2 : Int32) (x : Hs) (r : Int32 × Hs) (h : gm164_63 a1 a2 x = some r) : Ev 164 (0, 0) (63, [some (.ref 138), some (.int a1), some (.int a2), none], [.ref 138]) (hp N x) (cvMi N r) := by
  unfold gm164_63 at h
  refine ev_run (n := 2) (u' := (0, 0)) (f' := (68, [some (.ref 138), some (.int a1), some (.int a2), none], [.int 2, .ref 138])) (h' := hp N x) rfl ?_
  exact em164_68 a1 a2 2 x _ h
def gm164_21 (a1 : Int32) (a2 : Int32) (s0 : Int32) (x : Hs) : Option (Int32 × Hs) := if s0 = 0 then (gm164_68 a1 a2 1 x) else (cond (aIn a1 12) (if x.1 180 (xi a1) = (-1) then (cond (aIn a1 12) (if x.1 181 (xi a1) = 0 then (cond (aIn a1 12) ((gm115 (x.1 178 (xi a1)) a2 x).bind fun w10 => (if w10 = 0 then (gm164_63 a1 a2 x) else (gm164_68 a1 a2 0 x))) none) else (gm164_63 a1 a2 x)) none) else (gm164_63 a1 a2 x)) none)
theorem em164_21 {N : Nat} (a1 : Int32) (a2 : Int32) (s0 : Int32) (x : Hs) (r : Int32 × Hs) (h : gm164_21 a1 a2 s0 x = some r) : Ev 164 (0, 0) (21, [some (.ref 138), some (.int a1), some (.int a2), none], [.int s0]) (hp N x) (cvMi N r) := by
  unfold gm164_21 at h
  refine ev_run (n := 3) (u' := (0, 0)) (f' := (24, [some (.ref 138), some (.int a1), some (.int a2), some (.int s0)], [.int s0, .ref 138])) (h' := hp N x) rfl ?_
  rcases ite_or h with ⟨h15, h⟩ | ⟨h15, h⟩
  · refine ev_iff rfl (decide_eq_false (fun w => w h15)) ?_
    refine ev_run (n := 2) (u' := (0, 0)) (f' := (68, [some (.ref 138), some (.int a1), some (.int a2), none], [.int 1, .ref 138])) (h' := hp N x) rfl ?_
    exact em164_68 a1 a2 1 x _ h
  · refine ev_ift rfl (decide_eq_true h15) ?_
    refine ev_run (n := 3) (u' := (0, 0)) (f' := (36, [some (.ref 138), some (.int a1), some (.int a2), none], [.int a1, .ref 180, .ref 138])) (h' := hp N x) rfl ?_
    obtain ⟨h7, h⟩ := cond_some h
    refine ev_iald rfl rfl h7 ?_
    refine ev_run (n := 1) (u' := (0, 0)) (f' := (38, [some (.ref 138), some (.int a1), some (.int a2), none], [.int (-1), .int (x.1 180 (xi a1)), .ref 138])) (h' := hp N x) rfl ?_
    rcases ite_or h with ⟨h14, h⟩ | ⟨h14, h⟩
    · refine ev_icf rfl (decide_eq_false (fun w => w h14)) ?_
      refine ev_run (n := 3) (u' := (0, 0)) (f' := (46, [some (.ref 138), some (.int a1), some (.int a2), none], [.int a1, .ref 181, .ref 138])) (h' := hp N x) rfl ?_
      obtain ⟨h8, h⟩ := cond_some h
      refine ev_bald rfl rfl h8 ?_
      rcases ite_or h with ⟨h13, h⟩ | ⟨h13, h⟩
      · refine ev_iff rfl (decide_eq_false (fun w => w h13)) ?_
        refine ev_run (n := 3) (u' := (0, 0)) (f' := (55, [some (.ref 138), some (.int a1), some (.int a2), none], [.int a1, .ref 178, .ref 138])) (h' := hp N x) rfl ?_
        obtain ⟨h9, h⟩ := cond_some h
        refine ev_iald rfl rfl h9 ?_
        refine ev_run (n := 1) (u' := (0, 0)) (f' := (57, [some (.ref 138), some (.int a1), some (.int a2), none], [.int a2, .int (x.1 178 (xi a1)), .ref 138])) (h' := hp N x) rfl ?_
        obtain ⟨w10, h11, h⟩ := bind_ok h
        refine ev_call (v := some (.int w10)) (h1 := hp N x) rfl rfl rfl rfl (em115 (x.1 178 (xi a1)) a2 x _ h11) ?_
        show Ev 164 (0, 0) (60, [some (.ref 138), some (.int a1), some (.int a2), none], [.int w10, .ref 138]) (hp N x) _
        rcases ite_or h with ⟨h12, h⟩ | ⟨h12, h⟩
        · refine ev_iff rfl (decide_eq_false (fun w => w h12)) ?_
          exact em164_63 a1 a2 x _ h
        · refine ev_ift rfl (decide_eq_true h12) ?_
          refine ev_run (n := 1) (u' := (0, 0)) (f' := (68, [some (.ref 138), some (.int a1), some (.int a2), none], [.int 0, .ref 138])) (h' := hp N x) rfl ?_
          exact em164_68 a1 a2 0 x _ h
      · refine ev_ift rfl (decide_eq_true h13) ?_
        exact em164_63 a1 a2 x _ h
    · refine ev_ict rfl (decide_eq_true h14) ?_
      exact em164_63 a1 a2 x _ h
def gm164_20 (a1 : Int32) (a2 : Int32) (x : Hs) : Option (Int32 × Hs) := gm164_21 a1 a2 0 x
theorem em164_20 {N : Nat} (a1 : Int32) (a2 : Int32) (x : Hs) (r : Int32 × Hs) (h : gm164_20 a1 a2 x = some r) : Ev 164 (0, 0) (20, [some (.ref 138), some (.int a1), some (.int a2), none], []) (hp N x) (cvMi N r) := by
  unfold gm164_20 at h
  refine ev_run (n := 1) (u' := (0, 0)) (f' := (21, [some (.ref 138), some (.int a1), some (.int a2), none], [.int 0])) (h' := hp N x) rfl ?_
  exact em164_21 a1 a2 0 x _ h
def gm164 (a1 : Int32) (a2 : Int32) (x : Hs) : Option (Int32 × Hs) := (gm163 a1 x).bind fun w1 => (if w1 = 0 then (gm164_20 a1 a2 x) else ((gm159 a2 x).bind fun w3 => (if w3 = 0 then (gm164_20 a1 a2 x) else (gm164_21 a1 a2 1 x))))
theorem em164 {N : Nat} (a1 : Int32) (a2 : Int32) (x : Hs) (r : Int32 × Hs) (h : gm164 a1 a2 x = some r) : Ev 164 (0, 0) (0, aPad [.ref 138, .int a1, .int a2] 4, []) (hp N x) (cvMi N r) := by
  show Ev 164 (0, 0) (0, [some (.ref 138), some (.int a1), some (.int a2), none], []) (hp N x) _
  unfold gm164 at h
  refine ev_run (n := 2) (u' := (0, 0)) (f' := (2, [some (.ref 138), some (.int a1), some (.int a2), none], [.int a1, .ref 138])) (h' := hp N x) rfl ?_
  obtain ⟨w1, h2, h⟩ := bind_ok h
  refine ev_call (v := some (.int w1)) (h1 := hp N x) rfl rfl rfl rfl (em163 a1 x _ h2) ?_
  show Ev 164 (0, 0) (5, [some (.ref 138), some (.int a1), some (.int a2), none], [.int w1]) (hp N x) _
  rcases ite_or h with ⟨h6, h⟩ | ⟨h6, h⟩
  · refine ev_ift rfl (decide_eq_true h6) ?_
    exact em164_20 a1 a2 x _ h
  · refine ev_iff rfl (decide_eq_false h6) ?_
    refine ev_run (n := 2) (u' := (0, 0)) (f' := (10, [some (.ref 138), some (.int a1), some (.int a2), none], [.int a2, .ref 138])) (h' := hp N x) rfl ?_
    obtain ⟨w3, h4, h⟩ := bind_ok h
    refine ev_call (v := some (.int w3)) (h1 := hp N x) rfl rfl rfl rfl (em159 a2 x _ h4) ?_
    show Ev 164 (0, 0) (13, [some (.ref 138), some (.int a1), some (.int a2), none], [.int w3]) (hp N x) _
    rcases ite_or h with ⟨h5, h⟩ | ⟨h5, h⟩
    · refine ev_ift rfl (decide_eq_true h5) ?_
      exact em164_20 a1 a2 x _ h
    · refine ev_iff rfl (decide_eq_false h5) ?_
      refine ev_run (n := 2) (u' := (0, 0)) (f' := (21, [some (.ref 138), some (.int a1), some (.int a2), none], [.int 1])) (h' := hp N x) rfl ?_
      exact em164_21 a1 a2 1 x _ h
def gm165_39 (a1 : Int32) (s1 : Int32) (x : Hs) : Option (Int32 × Hs) := (gm113 s1 x).bind fun w8 => (if w8.1 = 0 then (cond (aIn a1 12) (cond (aIn a1 12) (some ((wI w8.2 181 (xi a1) 1).1 176 (xi a1), (wI w8.2 181 (xi a1) 1))) none) none) else (some (0, w8.2)))
theorem em165_39 {N : Nat} (a1 : Int32) (s1 : Int32) (x : Hs) (r : Int32 × Hs) (h : gm165_39 a1 s1 x = some r) : Ev 165 (0, 0) (39, [some (.ref 138), some (.int a1), none], [.int s1, .ref 138]) (hp N x) (cvMi N r) := by
  unfold gm165_39 at h
  obtain ⟨w8, h9, h⟩ := bind_ok h
  refine ev_call (v := some (.int w8.1)) (h1 := hp N w8.2) rfl rfl rfl rfl (em113 s1 x _ h9) ?_
  show Ev 165 (0, 0) (42, [some (.ref 138), some (.int a1), none], [.int w8.1]) (hp N w8.2) _
  rcases ite_or h with ⟨h12, h⟩ | ⟨h12, h⟩
  · refine ev_ift rfl (decide_eq_true h12) ?_
    refine ev_run (n := 4) (u' := (0, 0)) (f' := (53, [some (.ref 138), some (.int a1), none], [.int 1, .int a1, .ref 181])) (h' := hp N w8.2) rfl ?_
    obtain ⟨h10, h⟩ := cond_some h
    refine ev_bast rfl rfl h10 rfl ?_
    show Ev 165 (0, 0) (54, [some (.ref 138), some (.int a1), none], []) (hp N (wI w8.2 181 (xi a1) 1)) _
    refine ev_run (n := 3) (u' := (0, 0)) (f' := (59, [some (.ref 138), some (.int a1), none], [.int a1, .ref 176])) (h' := hp N (wI w8.2 181 (xi a1) 1)) rfl ?_
    obtain ⟨h11, h⟩ := cond_some h
    refine ev_iald rfl rfl h11 ?_
    cases h
    exact ev_iret rfl rfl rfl (Or.inl rfl)
  · refine ev_iff rfl (decide_eq_false h12) ?_
    refine ev_run (n := 1) (u' := (0, 0)) (f' := (46, [some (.ref 138), some (.int a1), none], [.int 0])) (h' := hp N w8.2) rfl ?_
    cases h
    exact ev_iret rfl rfl rfl (Or.inl rfl)
def gm165_34 (a1 : Int32) (x : Hs) : Option (Int32 × Hs) := gm165_39 a1 2 x
theorem em165_34 {N : Nat} (a1 : Int32) (x : Hs) (r : Int32 × Hs) (h : gm165_34 a1 x = some r) : Ev 165 (0, 0) (34, [some (.ref 138), some (.int a1), none], [.ref 138]) (hp N x) (cvMi N r) := by
  unfold gm165_34 at h
  refine ev_run (n := 2) (u' := (0, 0)) (f' := (39, [some (.ref 138), some (.int a1), none], [.int 2, .ref 138])) (h' := hp N x) rfl ?_
  exact em165_39 a1 2 x _ h
def gm165 (a1 : Int32) (x : Hs) : Option (Int32 × Hs) := (gm163 a1 x).bind fun w1 => (if w1 = 0 then (gm165_39 a1 1 x) else (cond (aIn a1 12) (if x.1 180 (xi a1) = (-1) then (gm165_34 a1 x) else (cond (aIn a1 12) (if x.1 181 (xi a1) = 0 then (gm165_39 a1 0 x) else (gm165_34 a1 x)) none)) none))
theorem em165 {N : Nat} (a1 : Int32) (x : Hs) (r : Int32 × Hs) (h : gm165 a1 x = some r) : Ev 165 (0, 0) (0, aPad [.ref 138, .int a1] 3, []) (hp N x) (cvMi N r) := by
  show Ev 165 (0, 0) (0, [some (.ref 138), some (.int a1), none], []) (hp N x) _
  unfold gm165 at h
  refine ev_run (n := 2) (u' := (0, 0)) (f' := (2, [some (.ref 138), some (.int a1), none], [.int a1, .ref 138])) (h' := hp N x) rfl ?_
  obtain ⟨w1, h2, h⟩ := bind_ok h
  refine ev_call (v := some (.int w1)) (h1 := hp N x) rfl rfl rfl rfl (em163 a1 x _ h2) ?_
  show Ev 165 (0, 0) (5, [some (.ref 138), some (.int a1), none], [.int w1]) (hp N x) _
  refine ev_run (n := 3) (u' := (0, 0)) (f' := (8, [some (.ref 138), some (.int a1), some (.int w1)], [.int w1, .ref 138])) (h' := hp N x) rfl ?_
  rcases ite_or h with ⟨h7, h⟩ | ⟨h7, h⟩
  · refine ev_iff rfl (decide_eq_false (fun w => w h7)) ?_
    refine ev_run (n := 2) (u' := (0, 0)) (f' := (39, [some (.ref 138), some (.int a1), none], [.int 1, .ref 138])) (h' := hp N x) rfl ?_
    exact em165_39 a1 1 x _ h
  · refine ev_ift rfl (decide_eq_true h7) ?_
    refine ev_run (n := 3) (u' := (0, 0)) (f' := (20, [some (.ref 138), some (.int a1), none], [.int a1, .ref 180, .ref 138])) (h' := hp N x) rfl ?_
    obtain ⟨h3, h⟩ := cond_some h
    refine ev_iald rfl rfl h3 ?_
    refine ev_run (n := 1) (u' := (0, 0)) (f' := (22, [some (.ref 138), some (.int a1), none], [.int (-1), .int (x.1 180 (xi a1)), .ref 138])) (h' := hp N x) rfl ?_
    rcases ite_or h with ⟨h6, h⟩ | ⟨h6, h⟩
    · refine ev_ict rfl (decide_eq_true h6) ?_
      exact em165_34 a1 x _ h
    · refine ev_icf rfl (decide_eq_false h6) ?_
      refine ev_run (n := 3) (u' := (0, 0)) (f' := (30, [some (.ref 138), some (.int a1), none], [.int a1, .ref 181, .ref 138])) (h' := hp N x) rfl ?_
      obtain ⟨h4, h⟩ := cond_some h
      refine ev_bald rfl rfl h4 ?_
      rcases ite_or h with ⟨h5, h⟩ | ⟨h5, h⟩
      · refine ev_ift rfl (decide_eq_true h5) ?_
        refine ev_run (n := 1) (u' := (0, 0)) (f' := (39, [some (.ref 138), some (.int a1), none], [.int 0, .ref 138])) (h' := hp N x) rfl ?_
        exact em165_39 a1 0 x _ h
      · refine ev_iff rfl (decide_eq_false h5) ?_
        exact em165_34 a1 x _ h
def gm166_27 (a1 : Int32) (a2 : Int32) (s1 : Int32) (x : Hs) : Option (Int32 × Hs) := (gm113 s1 x).bind fun w7 => (if w7.1 = 0 then (if a2 = 0 then (cond (aIn a1 12) (some (w7.2.1 174 (xi a1), w7.2)) none) else (if a2 = 1 then (cond (aIn a1 12) (some (w7.2.1 175 (xi a1), w7.2)) none) else (if a2 = 2 then (cond (aIn a1 12) (some (w7.2.1 176 (xi a1), w7.2)) none) else (if a2 = 3 then (cond (aIn a1 12) (some (w7.2.1 179 (xi a1), w7.2)) none) else (if a2 = 4 then (cond (aIn a1 12) (some (w7.2.1 180 (xi a1), w7.2)) none) else (cond (aIn a1 12) (if w7.2.1 181 (xi a1) = 0 then (some (0, w7.2)) else (some (1, w7.2))) none)))))) else (some (0, w7.2)))
theorem em166_27 {N : Nat} (a1 : Int32) (a2 : Int32) (s1 : Int32) (x : Hs) (r : Int32 × Hs) (h : gm166_27 a1 a2 s1 x = some r) : Ev 166 (0, 0) (27, [some (.ref 138), some (.int a1), some (.int a2)], [.int s1, .ref 138]) (hp N x) (cvMi N r) := by
  unfold gm166_27 at h
  obtain ⟨w7, h8, h⟩ := bind_ok h
  refine ev_call (v := some (.int w7.1)) (h1 := hp N w7.2) rfl rfl rfl rfl (em113 s1 x _ h8) ?_
  show Ev 166 (0, 0) (30, [some (.ref 138), some (.int a1), some (.int a2)], [.int w7.1]) (hp N w7.2) _
  rcases ite_or h with ⟨h21, h⟩ | ⟨h21, h⟩
  · refine ev_ift rfl (decide_eq_true h21) ?_
    refine ev_run (n := 1) (u' := (0, 0)) (f' := (36, [some (.ref 138), some (.int a1), some (.int a2)], [.int a2])) (h' := hp N w7.2) rfl ?_
    rcases ite_or h with ⟨h20, h⟩ | ⟨h20, h⟩
    · refine ev_iff rfl (decide_eq_false (fun w => w h20)) ?_
      refine ev_run (n := 3) (u' := (0, 0)) (f' := (44, [some (.ref 138), some (.int a1), some (.int a2)], [.int a1, .ref 174])) (h' := hp N w7.2) rfl ?_
      obtain ⟨h19, h⟩ := cond_some h
      refine ev_iald rfl rfl h19 ?_
      refine ev_run (n := 1) (u' := (0, 0)) (f' := (118, [none, none, none], [.int (w7.2.1 174 (xi a1))])) (h' := hp N w7.2) rfl ?_
      cases h
      exact ev_iret rfl rfl rfl (Or.inl rfl)
    · refine ev_ift rfl (decide_eq_true h20) ?_
      refine ev_run (n := 2) (u' := (0, 0)) (f' := (50, [some (.ref 138), some (.int a1), some (.int a2)], [.int 1, .int a2])) (h' := hp N w7.2) rfl ?_
      rcases ite_or h with ⟨h18, h⟩ | ⟨h18, h⟩
      · refine ev_icf rfl (decide_eq_false (fun w => w h18)) ?_
        refine ev_run (n := 3) (u' := (0, 0)) (f' := (58, [some (.ref 138), some (.int a1), some (.int a2)], [.int a1, .ref 175])) (h' := hp N w7.2) rfl ?_
        obtain ⟨h17, h⟩ := cond_some h
        refine ev_iald rfl rfl h17 ?_
        refine ev_run (n := 1) (u' := (0, 0)) (f' := (118, [none, none, none], [.int (w7.2.1 175 (xi a1))])) (h' := hp N w7.2) rfl ?_
        cases h
        exact ev_iret rfl rfl rfl (Or.inl rfl)
      · refine ev_ict rfl (decide_eq_true h18) ?_
        refine ev_run (n := 2) (u' := (0, 0)) (f' := (64, [some (.ref 138), some (.int a1), some (.int a2)], [.int 2, .int a2])) (h' := hp N w7.2) rfl ?_
        rcases ite_or h with ⟨h16, h⟩ | ⟨h16, h⟩
        · refine ev_icf rfl (decide_eq_false (fun w => w h16)) ?_
          refine ev_run (n := 3) (u' := (0, 0)) (f' := (72, [some (.ref 138), some (.int a1), some (.int a2)], [.int a1, .ref 176])) (h' := hp N w7.2) rfl ?_
          obtain ⟨h15, h⟩ := cond_some h
          refine ev_iald rfl rfl h15 ?_
          refine ev_run (n := 1) (u' := (0, 0)) (f' := (118, [none, none, none], [.int (w7.2.1 176 (xi a1))])) (h' := hp N w7.2) rfl ?_
          cases h
          exact ev_iret rfl rfl rfl (Or.inl rfl)
        · refine ev_ict rfl (decide_eq_true h16) ?_
          refine ev_run (n := 2) (u' := (0, 0)) (f' := (78, [some (.ref 138), some (.int a1), some (.int a2)], [.int 3, .int a2])) (h' := hp N w7.2) rfl ?_
          rcases ite_or h with ⟨h14, h⟩ | ⟨h14, h⟩
          · refine ev_icf rfl (decide_eq_false (fun w => w h14)) ?_
            refine ev_run (n := 3) (u' := (0, 0)) (f' := (86, [some (.ref 138), some (.int a1), some (.int a2)], [.int a1, .ref 179])) (h' := hp N w7.2) rfl ?_
            obtain ⟨h13, h⟩ := cond_some h
            refine ev_iald rfl rfl h13 ?_
            refine ev_run (n := 1) (u' := (0, 0)) (f' := (118, [none, none, none], [.int (w7.2.1 179 (xi a1))])) (h' := hp N w7.2) rfl ?_
            cases h
            exact ev_iret rfl rfl rfl (Or.inl rfl)
          · refine ev_ict rfl (decide_eq_true h14) ?_
            refine ev_run (n := 2) (u' := (0, 0)) (f' := (92, [some (.ref 138), some (.int a1), some (.int a2)], [.int 4, .int a2])) (h' := hp N w7.2) rfl ?_
            rcases ite_or h with ⟨h12, h⟩ | ⟨h12, h⟩
            · refine ev_icf rfl (decide_eq_false (fun w => w h12)) ?_
              refine ev_run (n := 3) (u' := (0, 0)) (f' := (100, [some (.ref 138), some (.int a1), some (.int a2)], [.int a1, .ref 180])) (h' := hp N w7.2) rfl ?_
              obtain ⟨h11, h⟩ := cond_some h
              refine ev_iald rfl rfl h11 ?_
              refine ev_run (n := 1) (u' := (0, 0)) (f' := (118, [none, none, none], [.int (w7.2.1 180 (xi a1))])) (h' := hp N w7.2) rfl ?_
              cases h
              exact ev_iret rfl rfl rfl (Or.inl rfl)
            · refine ev_ict rfl (decide_eq_true h12) ?_
              refine ev_run (n := 3) (u' := (0, 0)) (f' := (109, [some (.ref 138), some (.int a1), none], [.int a1, .ref 181])) (h' := hp N w7.2) rfl ?_
              obtain ⟨h9, h⟩ := cond_some h
              refine ev_bald rfl rfl h9 ?_
              rcases ite_or h with ⟨h10, h⟩ | ⟨h10, h⟩
              · refine ev_ift rfl (decide_eq_true h10) ?_
                refine ev_run (n := 1) (u' := (0, 0)) (f' := (118, [none, none, none], [.int 0])) (h' := hp N w7.2) rfl ?_
                cases h
                exact ev_iret rfl rfl rfl (Or.inl rfl)
              · refine ev_iff rfl (decide_eq_false h10) ?_
                refine ev_run (n := 2) (u' := (0, 0)) (f' := (118, [none, none, none], [.int 1])) (h' := hp N w7.2) rfl ?_
                cases h
                exact ev_iret rfl rfl rfl (Or.inl rfl)
  · refine ev_iff rfl (decide_eq_false h21) ?_
    refine ev_run (n := 1) (u' := (0, 0)) (f' := (34, [some (.ref 138), some (.int a1), some (.int a2)], [.int 0])) (h' := hp N w7.2) rfl ?_
    cases h
    exact ev_iret rfl rfl rfl (Or.inl rfl)
def gm166 (a1 : Int32) (a2 : Int32) (x : Hs) : Option (Int32 × Hs) := (gm163 a1 x).bind fun w1 => (if w1 = 0 then (gm166_27 a1 a2 1 x) else ((gm114 a2 0 5 x).bind fun w3 => (if w3 = 0 then (gm166_27 a1 a2 2 x) else (gm166_27 a1 a2 0 x))))
theorem em166 {N : Nat} (a1 : Int32) (a2 : Int32) (x : Hs) (r : Int32 × Hs) (h : gm166 a1 a2 x = some r) : Ev 166 (0, 0) (0, aPad [.ref 138, .int a1, .int a2] 3, []) (hp N x) (cvMi N r) := by
  show Ev 166 (0, 0) (0, [some (.ref 138), some (.int a1), some (.int a2)], []) (hp N x) _
  unfold gm166 at h
  refine ev_run (n := 3) (u' := (0, 0)) (f' := (3, [some (.ref 138), some (.int a1), some (.int a2)], [.int a1, .ref 138, .ref 138])) (h' := hp N x) rfl ?_
  obtain ⟨w1, h2, h⟩ := bind_ok h
  refine ev_call (v := some (.int w1)) (h1 := hp N x) rfl rfl rfl rfl (em163 a1 x _ h2) ?_
  show Ev 166 (0, 0) (6, [some (.ref 138), some (.int a1), some (.int a2)], [.int w1, .ref 138]) (hp N x) _
  rcases ite_or h with ⟨h6, h⟩ | ⟨h6, h⟩
  · refine ev_iff rfl (decide_eq_false (fun w => w h6)) ?_
    refine ev_run (n := 2) (u' := (0, 0)) (f' := (27, [some (.ref 138), some (.int a1), some (.int a2)], [.int 1, .ref 138])) (h' := hp N x) rfl ?_
    exact em166_27 a1 a2 1 x _ h
  · refine ev_ift rfl (decide_eq_true h6) ?_
    refine ev_run (n := 3) (u' := (0, 0)) (f' := (16, [some (.ref 138), some (.int a1), some (.int a2)], [.int 5, .int 0, .int a2, .ref 138])) (h' := hp N x) rfl ?_
    obtain ⟨w3, h4, h⟩ := bind_ok h
    refine ev_call (v := some (.int w3)) (h1 := hp N x) rfl rfl rfl rfl (em114 a2 0 5 x _ h4) ?_
    show Ev 166 (0, 0) (19, [some (.ref 138), some (.int a1), some (.int a2)], [.int w3, .ref 138]) (hp N x) _
    rcases ite_or h with ⟨h5, h⟩ | ⟨h5, h⟩
    · refine ev_ift rfl (decide_eq_true h5) ?_
      refine ev_run (n := 1) (u' := (0, 0)) (f' := (27, [some (.ref 138), some (.int a1), some (.int a2)], [.int 2, .ref 138])) (h' := hp N x) rfl ?_
      exact em166_27 a1 a2 2 x _ h
    · refine ev_iff rfl (decide_eq_false h5) ?_
      refine ev_run (n := 2) (u' := (0, 0)) (f' := (27, [some (.ref 138), some (.int a1), some (.int a2)], [.int 0, .ref 138])) (h' := hp N x) rfl ?_
      exact em166_27 a1 a2 0 x _ h
def gm167_141 (k45 : Int32 → Int32 → Hs → Option (Int32 × Hs)) (k63 : Int32 → Int32 → Int32 → Hs → Option (Int32 × Hs)) (a1 : Int32) (a3 : Int32) (a4 : Int32) (x : Hs) : Option (Int32 × Hs) := k63 a1 a3 (a4 + 1) x
theorem em167_141 {N : Nat} (k45 : Int32 → Int32 → Hs → Option (Int32 × Hs)) (k63 : Int32 → Int32 → Int32 → Hs → Option (Int32 × Hs)) (q45 : ∀ (a1 : Int32) (a3 : Int32) (x : Hs) (r : Int32 × Hs), k45 a1 a3 x = some r → Ev 167 (0, 0) (45, [some (.ref 138), some (.int a1), none, some (.int a3), none], []) (hp N x) (cvMi N r)) (q63 : ∀ (a1 : Int32) (a3 : Int32) (a4 : Int32) (x : Hs) (r : Int32 × Hs), k63 a1 a3 a4 x = some r → Ev 167 (0, 0) (63, [some (.ref 138), some (.int a1), none, some (.int a3), some (.int a4)], []) (hp N x) (cvMi N r)) (a1 : Int32) (a3 : Int32) (a4 : Int32) (x : Hs) (r : Int32 × Hs) (h : gm167_141 k45 k63 a1 a3 a4 x = some r) : Ev 167 (0, 0) (141, [some (.ref 138), some (.int a1), none, some (.int a3), some (.int a4)], []) (hp N x) (cvMi N r) := by
  unfold gm167_141 at h
  refine ev_run (n := 2) (u' := (0, 0)) (f' := (63, [some (.ref 138), some (.int a1), none, some (.int a3), some (.int (a4 + 1))], [])) (h' := hp N x) rfl ?_
  exact q63 a1 a3 (a4 + 1) x _ h
def gm167_147 (k45 : Int32 → Int32 → Hs → Option (Int32 × Hs)) (a1 : Int32) (a3 : Int32) (x : Hs) : Option (Int32 × Hs) := k45 a1 (a3 + 1) x
theorem em167_147 {N : Nat} (k45 : Int32 → Int32 → Hs → Option (Int32 × Hs)) (q45 : ∀ (a1 : Int32) (a3 : Int32) (x : Hs) (r : Int32 × Hs), k45 a1 a3 x = some r → Ev 167 (0, 0) (45, [some (.ref 138), some (.int a1), none, some (.int a3), none], []) (hp N x) (cvMi N r)) (a1 : Int32) (a3 : Int32) (x : Hs) (r : Int32 × Hs) (h : gm167_147 k45 a1 a3 x = some r) : Ev 167 (0, 0) (147, [some (.ref 138), some (.int a1), none, some (.int a3), none], []) (hp N x) (cvMi N r) := by
  unfold gm167_147 at h
  refine ev_run (n := 2) (u' := (0, 0)) (f' := (45, [some (.ref 138), some (.int a1), none, some (.int (a3 + 1)), none], [])) (h' := hp N x) rfl ?_
  exact q45 a1 (a3 + 1) x _ h
def gm167_63 (k45 : Int32 → Int32 → Hs → Option (Int32 × Hs)) : Nat → Int32 → Int32 → Int32 → Hs → Option (Int32 × Hs)
  | 0, _, _, _, _ => none
  | n + 1, a1, a3, a4, x => if a4 ≥ x.1 138 42 then (gm167_147 k45 a1 a3 x) else (cond (aIn a4 12) (if x.1 180 (xi a4) = (-1) then (cond (aIn a4 12) (if ((x.1 138 0 - x.1 177 (xi a4)) - (x.1 138 0 - x.1 177 (xi a4)) / 10 * 10) = 0 then (cond (aIn a4 12) (if x.1 138 40 = 0 then none else (cond (aIn a4 12) (cond (aIn a4 12) (cond (aIn a4 12) (cond (aIn a4 12) (gm167_141 k45 (gm167_63 k45 n) a1 a3 a4 (wI (wI x 179 (xi a4) ((x.1 179 (xi a4) + 1) - (x.1 179 (xi a4) + 1) / x.1 138 40 * x.1 138 40)) 178 (xi a4) ((wI x 179 (xi a4) ((x.1 179 (xi a4) + 1) - (x.1 179 (xi a4) + 1) / x.1 138 40 * x.1 138 40)).1 178 (xi a4) ||| (1 <<< ((wI x 179 (xi a4) ((x.1 179 (xi a4) + 1) - (x.1 179 (xi a4) + 1) / x.1 138 40 * x.1 138 40)).1 179 (xi a4) &&& 31))))) none) none) none) none)) none) else (gm167_141 k45 (gm167_63 k45 n) a1 a3 a4 x)) none) else (gm167_141 k45 (gm167_63 k45 n) a1 a3 a4 x)) none)
theorem em167_63 {N : Nat} (k45 : Int32 → Int32 → Hs → Option (Int32 × Hs)) (q45 : ∀ (a1 : Int32) (a3 : Int32) (x : Hs) (r : Int32 × Hs), k45 a1 a3 x = some r → Ev 167 (0, 0) (45, [some (.ref 138), some (.int a1), none, some (.int a3), none], []) (hp N x) (cvMi N r)) : ∀ (n : Nat) (a1 : Int32) (a3 : Int32) (a4 : Int32) (x : Hs) (r : Int32 × Hs), gm167_63 k45 n a1 a3 a4 x = some r → Ev 167 (0, 0) (63, [some (.ref 138), some (.int a1), none, some (.int a3), some (.int a4)], []) (hp N x) (cvMi N r)
  | 0, a1, a3, a4, x, r, h => by
    have e9 : (none : Option (Int32 × Hs)) = some r := h
    cases e9
  | n + 1, a1, a3, a4, x, r, h => by
    have q63 := em167_63 k45 q45 (N := N) n
    rw [gm167_63] at h
    refine ev_run (n := 3) (u' := (0, 0)) (f' := (69, [some (.ref 138), some (.int a1), none, some (.int a3), some (.int a4)], [.int (x.1 138 42), .int a4])) (h' := hp N x) rfl ?_
    rcases ite_or h with ⟨h19, h⟩ | ⟨h19, h⟩
    · refine ev_ict rfl (decide_eq_true h19) ?_
      exact em167_147 k45 q45 a1 a3 x _ h
    · refine ev_icf rfl (decide_eq_false h19) ?_
      refine ev_run (n := 3) (u' := (0, 0)) (f' := (78, [some (.ref 138), some (.int a1), none, some (.int a3), some (.int a4)], [.int a4, .ref 180])) (h' := hp N x) rfl ?_
      obtain ⟨h9, h⟩ := cond_some h
      refine ev_iald rfl rfl h9 ?_
      refine ev_run (n := 1) (u' := (0, 0)) (f' := (80, [some (.ref 138), some (.int a1), none, some (.int a3), some (.int a4)], [.int (-1), .int (x.1 180 (xi a4))])) (h' := hp N x) rfl ?_
      rcases ite_or h with ⟨h18, h⟩ | ⟨h18, h⟩
      · refine ev_icf rfl (decide_eq_false (fun w => w h18)) ?_
        refine ev_run (n := 5) (u' := (0, 0)) (f' := (93, [some (.ref 138), some (.int a1), none, some (.int a3), some (.int a4)], [.int a4, .ref 177, .int (x.1 138 0)])) (h' := hp N x) rfl ?_
        obtain ⟨h10, h⟩ := cond_some h
        refine ev_iald rfl rfl h10 ?_
        refine ev_run (n := 2) (u' := (0, 0)) (f' := (97, [some (.ref 138), some (.int a1), none, some (.int a3), some (.int a4)], [.int 10, .int (x.1 138 0 - x.1 177 (xi a4))])) (h' := hp N x) rfl ?_
        refine ev_irem rfl (by decide) ?_
        rcases ite_or h with ⟨h17, h⟩ | ⟨h17, h⟩
        · refine ev_iff rfl (decide_eq_false (fun w => w h17)) ?_
          refine ev_run (n := 6) (u' := (0, 0)) (f' := (113, [some (.ref 138), some (.int a1), none, some (.int a3), some (.int a4)], [.int a4, .ref 179, .int a4, .ref 179])) (h' := hp N x) rfl ?_
          obtain ⟨h11, h⟩ := cond_some h
          refine ev_iald rfl rfl h11 ?_
          refine ev_run (n := 4) (u' := (0, 0)) (f' := (120, [some (.ref 138), some (.int a1), none, some (.int a3), some (.int a4)], [.int (x.1 138 40), .int (x.1 179 (xi a4) + 1), .int a4, .ref 179])) (h' := hp N x) rfl ?_
          rcases ite_or h with ⟨-, h⟩ | ⟨h12, h⟩
          · cases h
          refine ev_irem rfl h12 ?_
          obtain ⟨h13, h⟩ := cond_some h
          refine ev_iast rfl rfl h13 ?_
          show Ev 167 (0, 0) (122, [some (.ref 138), some (.int a1), none, some (.int a3), some (.int a4)], []) (hp N (wI x 179 (xi a4) ((x.1 179 (xi a4) + 1) - (x.1 179 (xi a4) + 1) / x.1 138 40 * x.1 138 40))) _
          refine ev_run (n := 4) (u' := (0, 0)) (f' := (129, [some (.ref 138), some (.int a1), none, some (.int a3), some (.int a4)], [.int a4, .ref 178, .int a4, .ref 178])) (h' := hp N (wI x 179 (xi a4) ((x.1 179 (xi a4) + 1) - (x.1 179 (xi a4) + 1) / x.1 138 40 * x.1 138 40))) rfl ?_
          obtain ⟨h14, h⟩ := cond_some h
          refine ev_iald rfl rfl h14 ?_
          refine ev_run (n := 4) (u' := (0, 0)) (f' := (137, [some (.ref 138), some (.int a1), none, some (.int a3), some (.int a4)], [.int a4, .ref 179, .int 1, .int ((wI x 179 (xi a4) ((x.1 179 (xi a4) + 1) - (x.1 179 (xi a4) + 1) / x.1 138 40 * x.1 138 40)).1 178 (xi a4)), .int a4, .ref 178])) (h' := hp N (wI x 179 (xi a4) ((x.1 179 (xi a4) + 1) - (x.1 179 (xi a4) + 1) / x.1 138 40 * x.1 138 40))) rfl ?_
          obtain ⟨h15, h⟩ := cond_some h
          refine ev_iald rfl rfl h15 ?_
          refine ev_run (n := 2) (u' := (0, 0)) (f' := (140, [some (.ref 138), some (.int a1), none, some (.int a3), some (.int a4)], [.int ((wI x 179 (xi a4) ((x.1 179 (xi a4) + 1) - (x.1 179 (xi a4) + 1) / x.1 138 40 * x.1 138 40)).1 178 (xi a4) ||| (1 <<< ((wI x 179 (xi a4) ((x.1 179 (xi a4) + 1) - (x.1 179 (xi a4) + 1) / x.1 138 40 * x.1 138 40)).1 179 (xi a4) &&& 31))), .int a4, .ref 178])) (h' := hp N (wI x 179 (xi a4) ((x.1 179 (xi a4) + 1) - (x.1 179 (xi a4) + 1) / x.1 138 40 * x.1 138 40))) rfl ?_
          obtain ⟨h16, h⟩ := cond_some h
          refine ev_iast rfl rfl h16 ?_
          show Ev 167 (0, 0) (141, [some (.ref 138), some (.int a1), none, some (.int a3), some (.int a4)], []) (hp N (wI (wI x 179 (xi a4) ((x.1 179 (xi a4) + 1) - (x.1 179 (xi a4) + 1) / x.1 138 40 * x.1 138 40)) 178 (xi a4) ((wI x 179 (xi a4) ((x.1 179 (xi a4) + 1) - (x.1 179 (xi a4) + 1) / x.1 138 40 * x.1 138 40)).1 178 (xi a4) ||| (1 <<< ((wI x 179 (xi a4) ((x.1 179 (xi a4) + 1) - (x.1 179 (xi a4) + 1) / x.1 138 40 * x.1 138 40)).1 179 (xi a4) &&& 31))))) _
          exact em167_141 k45 (gm167_63 k45 n) q45 q63 a1 a3 a4 (wI (wI x 179 (xi a4) ((x.1 179 (xi a4) + 1) - (x.1 179 (xi a4) + 1) / x.1 138 40 * x.1 138 40)) 178 (xi a4) ((wI x 179 (xi a4) ((x.1 179 (xi a4) + 1) - (x.1 179 (xi a4) + 1) / x.1 138 40 * x.1 138 40)).1 178 (xi a4) ||| (1 <<< ((wI x 179 (xi a4) ((x.1 179 (xi a4) + 1) - (x.1 179 (xi a4) + 1) / x.1 138 40 * x.1 138 40)).1 179 (xi a4) &&& 31)))) _ h
        · refine ev_ift rfl (decide_eq_true h17) ?_
          exact em167_141 k45 (gm167_63 k45 n) q45 q63 a1 a3 a4 x _ h
      · refine ev_ict rfl (decide_eq_true h18) ?_
        exact em167_141 k45 (gm167_63 k45 n) q45 q63 a1 a3 a4 x _ h
def gm167_153 (x : Hs) : Option (Int32 × Hs) := some (x.1 138 0, x)
theorem em167_153 {N : Nat} (x : Hs) (r : Int32 × Hs) (h : gm167_153 x = some r) : Ev 167 (0, 0) (153, [some (.ref 138), none, none, none, none], []) (hp N x) (cvMi N r) := by
  unfold gm167_153 at h
  refine ev_run (n := 2) (u' := (0, 0)) (f' := (157, [some (.ref 138), none, none, none, none], [.int (x.1 138 0)])) (h' := hp N x) rfl ?_
  cases h
  exact ev_iret rfl rfl rfl (Or.inl rfl)
def gm167_45 : Nat → Int32 → Int32 → Hs → Option (Int32 × Hs)
  | 0, _, _, _ => none
  | n + 1, a1, a3, x => if a3 ≥ a1 then (gm167_153 x) else (gm167_63 (gm167_45 n) FU a1 a3 0 (wI x 138 0 (x.1 138 0 + 1)))
theorem em167_45 {N : Nat} : ∀ (n : Nat) (a1 : Int32) (a3 : Int32) (x : Hs) (r : Int32 × Hs), gm167_45 n a1 a3 x = some r → Ev 167 (0, 0) (45, [some (.ref 138), some (.int a1), none, some (.int a3), none], []) (hp N x) (cvMi N r)
  | 0, a1, a3, x, r, h => by
    have e9 : (none : Option (Int32 × Hs)) = some r := h
    cases e9
  | n + 1, a1, a3, x, r, h => by
    have q45 := em167_45 (N := N) n
    rw [gm167_45] at h
    refine ev_run (n := 2) (u' := (0, 0)) (f' := (47, [some (.ref 138), some (.int a1), none, some (.int a3), none], [.int a1, .int a3])) (h' := hp N x) rfl ?_
    rcases ite_or h with ⟨h8, h⟩ | ⟨h8, h⟩
    · refine ev_ict rfl (decide_eq_true h8) ?_
      exact em167_153 x _ h
    · refine ev_icf rfl (decide_eq_false h8) ?_
      refine ev_run (n := 8) (u' := (0, 0)) (f' := (63, [some (.ref 138), some (.int a1), none, some (.int a3), some (.int 0)], [])) (h' := hp N (wI x 138 0 (x.1 138 0 + 1))) rfl ?_
      exact em167_63 (gm167_45 n) q45 FU a1 a3 0 (wI x 138 0 (x.1 138 0 + 1)) _ h
def gm167_35 (a1 : Int32) (s1 : Int32) (x : Hs) : Option (Int32 × Hs) := (gm113 s1 x).bind fun w5 => (if w5.1 = 0 then (gm167_45 FU a1 0 w5.2) else (some (0, w5.2)))
theorem em167_35 {N : Nat} (a1 : Int32) (s1 : Int32) (x : Hs) (r : Int32 × Hs) (h : gm167_35 a1 s1 x = some r) : Ev 167 (0, 0) (35, [some (.ref 138), some (.int a1), none, none, none], [.int s1, .ref 138]) (hp N x) (cvMi N r) := by
  unfold gm167_35 at h
  obtain ⟨w5, h6, h⟩ := bind_ok h
  refine ev_call (v := some (.int w5.1)) (h1 := hp N w5.2) rfl rfl rfl rfl (em113 s1 x _ h6) ?_
  show Ev 167 (0, 0) (38, [some (.ref 138), some (.int a1), none, none, none], [.int w5.1]) (hp N w5.2) _
  rcases ite_or h with ⟨h7, h⟩ | ⟨h7, h⟩
  · refine ev_ift rfl (decide_eq_true h7) ?_
    refine ev_run (n := 2) (u' := (0, 0)) (f' := (45, [some (.ref 138), some (.int a1), none, some (.int 0), none], [])) (h' := hp N w5.2) rfl ?_
    exact em167_45 FU a1 0 w5.2 _ h
  · refine ev_iff rfl (decide_eq_false h7) ?_
    refine ev_run (n := 1) (u' := (0, 0)) (f' := (42, [some (.ref 138), some (.int a1), none, none, none], [.int 0])) (h' := hp N w5.2) rfl ?_
    cases h
    exact ev_iret rfl rfl rfl (Or.inl rfl)
def gm167 (a1 : Int32) (x : Hs) : Option (Int32 × Hs) := (gm114 a1 1 600 x).bind fun w1 => (if w1 = 0 then (gm167_35 a1 1 x) else (if (x.1 138 0 + a1) ≤ 9999 then (gm167_35 a1 0 x) else (gm167_35 a1 2 x)))
theorem em167 {N : Nat} (a1 : Int32) (x : Hs) (r : Int32 × Hs) (h : gm167 a1 x = some r) : Ev 167 (0, 0) (0, aPad [.ref 138, .int a1] 5, []) (hp N x) (cvMi N r) := by
  show Ev 167 (0, 0) (0, [some (.ref 138), some (.int a1), none, none, none], []) (hp N x) _
  unfold gm167 at h
  refine ev_run (n := 3) (u' := (0, 0)) (f' := (5, [some (.ref 138), some (.int a1), none, none, none], [.int 600, .int 1, .int a1])) (h' := hp N x) rfl ?_
  obtain ⟨w1, h2, h⟩ := bind_ok h
  refine ev_call (v := some (.int w1)) (h1 := hp N x) rfl rfl rfl rfl (em114 a1 1 600 x _ h2) ?_
  show Ev 167 (0, 0) (8, [some (.ref 138), some (.int a1), none, none, none], [.int w1]) (hp N x) _
  refine ev_run (n := 3) (u' := (0, 0)) (f' := (11, [some (.ref 138), some (.int a1), some (.int w1), none, none], [.int w1, .ref 138])) (h' := hp N x) rfl ?_
  rcases ite_or h with ⟨h4, h⟩ | ⟨h4, h⟩
  · refine ev_iff rfl (decide_eq_false (fun w => w h4)) ?_
    refine ev_run (n := 2) (u' := (0, 0)) (f' := (35, [some (.ref 138), some (.int a1), none, none, none], [.int 1, .ref 138])) (h' := hp N x) rfl ?_
    exact em167_35 a1 1 x _ h
  · refine ev_ift rfl (decide_eq_true h4) ?_
    refine ev_run (n := 5) (u' := (0, 0)) (f' := (27, [some (.ref 138), some (.int a1), none, none, none], [.int 9999, .int (x.1 138 0 + a1), .ref 138])) (h' := hp N x) rfl ?_
    rcases ite_or h with ⟨h3, h⟩ | ⟨h3, h⟩
    · refine ev_ict rfl (decide_eq_true h3) ?_
      refine ev_run (n := 1) (u' := (0, 0)) (f' := (35, [some (.ref 138), some (.int a1), none, none, none], [.int 0, .ref 138])) (h' := hp N x) rfl ?_
      exact em167_35 a1 0 x _ h
    · refine ev_icf rfl (decide_eq_false h3) ?_
      refine ev_run (n := 2) (u' := (0, 0)) (f' := (35, [some (.ref 138), some (.int a1), none, none, none], [.int 2, .ref 138])) (h' := hp N x) rfl ?_
      exact em167_35 a1 2 x _ h
def gm168_62 (a3 : Int32) (a5 : Int32) (s1 : Int32) (x : Hs) : Option (Int32 × Hs) := (gm113 s1 x).bind fun w12 => (if w12.1 = 0 then (if a3 = 0 then (cond (aIn a5 20) (some (w12.2.1 147 (xi a5), w12.2)) none) else (if a3 = 1 then (cond (aIn a5 20) (some (w12.2.1 148 (xi a5), w12.2)) none) else (cond (aIn a5 20) (some (w12.2.1 149 (xi a5), w12.2)) none))) else (some (0, w12.2)))
theorem em168_62 {N : Nat} (a3 : Int32) (a5 : Int32) (s1 : Int32) (x : Hs) (r : Int32 × Hs) (h : gm168_62 a3 a5 s1 x = some r) : Ev 168 (0, 0) (62, [some (.ref 138), none, none, some (.int a3), none, some (.int a5)], [.int s1, .ref 138]) (hp N x) (cvMi N r) := by
  unfold gm168_62 at h
  obtain ⟨w12, h13, h⟩ := bind_ok h
  refine ev_call (v := some (.int w12.1)) (h1 := hp N w12.2) rfl rfl rfl rfl (em113 s1 x _ h13) ?_
  show Ev 168 (0, 0) (65, [some (.ref 138), none, none, some (.int a3), none, some (.int a5)], [.int w12.1]) (hp N w12.2) _
  rcases ite_or h with ⟨h19, h⟩ | ⟨h19, h⟩
  · refine ev_ift rfl (decide_eq_true h19) ?_
    refine ev_run (n := 1) (u' := (0, 0)) (f' := (71, [some (.ref 138), none, none, some (.int a3), none, some (.int a5)], [.int a3])) (h' := hp N w12.2) rfl ?_
    rcases ite_or h with ⟨h18, h⟩ | ⟨h18, h⟩
    · refine ev_iff rfl (decide_eq_false (fun w => w h18)) ?_
      refine ev_run (n := 3) (u' := (0, 0)) (f' := (80, [some (.ref 138), none, none, some (.int a3), none, some (.int a5)], [.int a5, .ref 147])) (h' := hp N w12.2) rfl ?_
      obtain ⟨h17, h⟩ := cond_some h
      refine ev_iald rfl rfl h17 ?_
      refine ev_run (n := 1) (u' := (0, 0)) (f' := (106, [none, none, none, none, none, none], [.int (w12.2.1 147 (xi a5))])) (h' := hp N w12.2) rfl ?_
      cases h
      exact ev_iret rfl rfl rfl (Or.inl rfl)
    · refine ev_ift rfl (decide_eq_true h18) ?_
      refine ev_run (n := 2) (u' := (0, 0)) (f' := (86, [some (.ref 138), none, none, some (.int a3), none, some (.int a5)], [.int 1, .int a3])) (h' := hp N w12.2) rfl ?_
      rcases ite_or h with ⟨h16, h⟩ | ⟨h16, h⟩
      · refine ev_icf rfl (decide_eq_false (fun w => w h16)) ?_
        refine ev_run (n := 3) (u' := (0, 0)) (f' := (95, [some (.ref 138), none, none, some (.int a3), none, some (.int a5)], [.int a5, .ref 148])) (h' := hp N w12.2) rfl ?_
        obtain ⟨h15, h⟩ := cond_some h
        refine ev_iald rfl rfl h15 ?_
        refine ev_run (n := 1) (u' := (0, 0)) (f' := (106, [none, none, none, none, none, none], [.int (w12.2.1 148 (xi a5))])) (h' := hp N w12.2) rfl ?_
        cases h
        exact ev_iret rfl rfl rfl (Or.inl rfl)
      · refine ev_ict rfl (decide_eq_true h16) ?_
        refine ev_run (n := 3) (u' := (0, 0)) (f' := (105, [some (.ref 138), none, none, none, none, some (.int a5)], [.int a5, .ref 149])) (h' := hp N w12.2) rfl ?_
        obtain ⟨h14, h⟩ := cond_some h
        refine ev_iald rfl rfl h14 ?_
        cases h
        exact ev_iret rfl rfl rfl (Or.inl rfl)
  · refine ev_iff rfl (decide_eq_false h19) ?_
    refine ev_run (n := 1) (u' := (0, 0)) (f' := (69, [some (.ref 138), none, none, some (.int a3), none, some (.int a5)], [.int 0])) (h' := hp N w12.2) rfl ?_
    cases h
    exact ev_iret rfl rfl rfl (Or.inl rfl)
def gm168_36 (a3 : Int32) (a4 : Int32) (s0 : Int32) (x : Hs) : Option (Int32 × Hs) := if a4 = 0 then (gm168_62 a3 s0 1 x) else ((gm114 a3 0 2 x).bind fun w8 => (if w8 = 0 then (gm168_62 a3 s0 2 x) else (gm168_62 a3 s0 0 x)))
theorem em168_36 {N : Nat} (a3 : Int32) (a4 : Int32) (s0 : Int32) (x : Hs) (r : Int32 × Hs) (h : gm168_36 a3 a4 s0 x = some r) : Ev 168 (0, 0) (36, [some (.ref 138), none, none, some (.int a3), some (.int a4), none], [.int s0]) (hp N x) (cvMi N r) := by
  unfold gm168_36 at h
  refine ev_run (n := 3) (u' := (0, 0)) (f' := (41, [some (.ref 138), none, none, some (.int a3), some (.int a4), some (.int s0)], [.int a4, .ref 138])) (h' := hp N x) rfl ?_
  rcases ite_or h with ⟨h11, h⟩ | ⟨h11, h⟩
  · refine ev_iff rfl (decide_eq_false (fun w => w h11)) ?_
    refine ev_run (n := 2) (u' := (0, 0)) (f' := (62, [some (.ref 138), none, none, some (.int a3), none, some (.int s0)], [.int 1, .ref 138])) (h' := hp N x) rfl ?_
    exact em168_62 a3 s0 1 x _ h
  · refine ev_ift rfl (decide_eq_true h11) ?_
    refine ev_run (n := 3) (u' := (0, 0)) (f' := (51, [some (.ref 138), none, none, some (.int a3), none, some (.int s0)], [.int 2, .int 0, .int a3, .ref 138])) (h' := hp N x) rfl ?_
    obtain ⟨w8, h9, h⟩ := bind_ok h
    refine ev_call (v := some (.int w8)) (h1 := hp N x) rfl rfl rfl rfl (em114 a3 0 2 x _ h9) ?_
    show Ev 168 (0, 0) (54, [some (.ref 138), none, none, some (.int a3), none, some (.int s0)], [.int w8, .ref 138]) (hp N x) _
    rcases ite_or h with ⟨h10, h⟩ | ⟨h10, h⟩
    · refine ev_ift rfl (decide_eq_true h10) ?_
      refine ev_run (n := 1) (u' := (0, 0)) (f' := (62, [some (.ref 138), none, none, some (.int a3), none, some (.int s0)], [.int 2, .ref 138])) (h' := hp N x) rfl ?_
      exact em168_62 a3 s0 2 x _ h
    · refine ev_iff rfl (decide_eq_false h10) ?_
      refine ev_run (n := 2) (u' := (0, 0)) (f' := (62, [some (.ref 138), none, none, some (.int a3), none, some (.int s0)], [.int 0, .ref 138])) (h' := hp N x) rfl ?_
      exact em168_62 a3 s0 0 x _ h
def gm168_20 (a1 : Int32) (a2 : Int32) (a3 : Int32) (s0 : Int32) (x : Hs) : Option (Int32 × Hs) := if s0 = 0 then (gm168_36 a3 s0 0 x) else (gm168_36 a3 s0 ((5 * a1) + a2) x)
theorem em168_20 {N : Nat} (a1 : Int32) (a2 : Int32) (a3 : Int32) (s0 : Int32) (x : Hs) (r : Int32 × Hs) (h : gm168_20 a1 a2 a3 s0 x = some r) : Ev 168 (0, 0) (20, [some (.ref 138), some (.int a1), some (.int a2), some (.int a3), none, none], [.int s0]) (hp N x) (cvMi N r) := by
  unfold gm168_20 at h
  refine ev_run (n := 2) (u' := (0, 0)) (f' := (24, [some (.ref 138), some (.int a1), some (.int a2), some (.int a3), some (.int s0), none], [.int s0])) (h' := hp N x) rfl ?_
  rcases ite_or h with ⟨h7, h⟩ | ⟨h7, h⟩
  · refine ev_ift rfl (decide_eq_true h7) ?_
    refine ev_run (n := 1) (u' := (0, 0)) (f' := (36, [some (.ref 138), none, none, some (.int a3), some (.int s0), none], [.int 0])) (h' := hp N x) rfl ?_
    exact em168_36 a3 s0 0 x _ h
  · refine ev_iff rfl (decide_eq_false h7) ?_
    refine ev_run (n := 6) (u' := (0, 0)) (f' := (36, [some (.ref 138), none, none, some (.int a3), some (.int s0), none], [.int ((5 * a1) + a2)])) (h' := hp N x) rfl ?_
    exact em168_36 a3 s0 ((5 * a1) + a2) x _ h
def gm168_19 (a1 : Int32) (a2 : Int32) (a3 : Int32) (x : Hs) : Option (Int32 × Hs) := gm168_20 a1 a2 a3 0 x
theorem em168_19 {N : Nat} (a1 : Int32) (a2 : Int32) (a3 : Int32) (x : Hs) (r : Int32 × Hs) (h : gm168_19 a1 a2 a3 x = some r) : Ev 168 (0, 0) (19, [some (.ref 138), some (.int a1), some (.int a2), some (.int a3), none, none], []) (hp N x) (cvMi N r) := by
  unfold gm168_19 at h
  refine ev_run (n := 1) (u' := (0, 0)) (f' := (20, [some (.ref 138), some (.int a1), some (.int a2), some (.int a3), none, none], [.int 0])) (h' := hp N x) rfl ?_
  exact em168_20 a1 a2 a3 0 x _ h
def gm168 (a1 : Int32) (a2 : Int32) (a3 : Int32) (x : Hs) : Option (Int32 × Hs) := (gm119 a1 x).bind fun w1 => (if w1 = 0 then (gm168_19 a1 a2 a3 x) else ((gm117 a2 x).bind fun w3 => (if w3 = 0 then (gm168_19 a1 a2 a3 x) else (gm168_20 a1 a2 a3 1 x))))
theorem em168 {N : Nat} (a1 : Int32) (a2 : Int32) (a3 : Int32) (x : Hs) (r : Int32 × Hs) (h : gm168 a1 a2 a3 x = some r) : Ev 168 (0, 0) (0, aPad [.ref 138, .int a1, .int a2, .int a3] 6, []) (hp N x) (cvMi N r) := by
  show Ev 168 (0, 0) (0, [some (.ref 138), some (.int a1), some (.int a2), some (.int a3), none, none], []) (hp N x) _
  unfold gm168 at h
  refine ev_run (n := 1) (u' := (0, 0)) (f' := (1, [some (.ref 138), some (.int a1), some (.int a2), some (.int a3), none, none], [.int a1])) (h' := hp N x) rfl ?_
  obtain ⟨w1, h2, h⟩ := bind_ok h
  refine ev_call (v := some (.int w1)) (h1 := hp N x) rfl rfl rfl rfl (em119 a1 x _ h2) ?_
  show Ev 168 (0, 0) (4, [some (.ref 138), some (.int a1), some (.int a2), some (.int a3), none, none], [.int w1]) (hp N x) _
  rcases ite_or h with ⟨h6, h⟩ | ⟨h6, h⟩
  · refine ev_ift rfl (decide_eq_true h6) ?_
    exact em168_19 a1 a2 a3 x _ h
  · refine ev_iff rfl (decide_eq_false h6) ?_
    refine ev_run (n := 2) (u' := (0, 0)) (f' := (9, [some (.ref 138), some (.int a1), some (.int a2), some (.int a3), none, none], [.int a2, .ref 138])) (h' := hp N x) rfl ?_
    obtain ⟨w3, h4, h⟩ := bind_ok h
    refine ev_call (v := some (.int w3)) (h1 := hp N x) rfl rfl rfl rfl (em117 a2 x _ h4) ?_
    show Ev 168 (0, 0) (12, [some (.ref 138), some (.int a1), some (.int a2), some (.int a3), none, none], [.int w3]) (hp N x) _
    rcases ite_or h with ⟨h5, h⟩ | ⟨h5, h⟩
    · refine ev_ift rfl (decide_eq_true h5) ?_
      exact em168_19 a1 a2 a3 x _ h
    · refine ev_iff rfl (decide_eq_false h5) ?_
      refine ev_run (n := 2) (u' := (0, 0)) (f' := (20, [some (.ref 138), some (.int a1), some (.int a2), some (.int a3), none, none], [.int 1])) (h' := hp N x) rfl ?_
      exact em168_20 a1 a2 a3 1 x _ h
def gm169_13 (a1 : Int32) (s1 : Int32) (x : Hs) : Option (Int32 × Hs) := (gm113 s1 x).bind fun w4 => (if w4.1 = 0 then ((gm132 a1 w4.2).bind fun w6 => (if w6 = 0 then (some (0, w4.2)) else (some (1, w4.2)))) else (some (0, w4.2)))
theorem em169_13 {N : Nat} (a1 : Int32) (s1 : Int32) (x : Hs) (r : Int32 × Hs) (h : gm169_13 a1 s1 x = some r) : Ev 169 (0, 0) (13, [some (.ref 138), some (.int a1)], [.int s1, .ref 138]) (hp N x) (cvMi N r) := by
  unfold gm169_13 at h
  obtain ⟨w4, h5, h⟩ := bind_ok h
  refine ev_call (v := some (.int w4.1)) (h1 := hp N w4.2) rfl rfl rfl rfl (em113 s1 x _ h5) ?_
  show Ev 169 (0, 0) (16, [some (.ref 138), some (.int a1)], [.int w4.1]) (hp N w4.2) _
  rcases ite_or h with ⟨h9, h⟩ | ⟨h9, h⟩
  · refine ev_iff rfl (decide_eq_false (fun w => w h9)) ?_
    refine ev_run (n := 2) (u' := (0, 0)) (f' := (21, [some (.ref 138), some (.int a1)], [.int a1, .ref 138])) (h' := hp N w4.2) rfl ?_
    obtain ⟨w6, h7, h⟩ := bind_ok h
    refine ev_call (v := some (.int w6)) (h1 := hp N w4.2) rfl rfl rfl rfl (em132 a1 w4.2 _ h7) ?_
    show Ev 169 (0, 0) (24, [some (.ref 138), some (.int a1)], [.int w6]) (hp N w4.2) _
    rcases ite_or h with ⟨h8, h⟩ | ⟨h8, h⟩
    · refine ev_ift rfl (decide_eq_true h8) ?_
      refine ev_run (n := 1) (u' := (0, 0)) (f' := (32, [none, none], [.int 0])) (h' := hp N w4.2) rfl ?_
      cases h
      exact ev_iret rfl rfl rfl (Or.inr ⟨rfl, rfl⟩)
    · refine ev_iff rfl (decide_eq_false h8) ?_
      refine ev_run (n := 2) (u' := (0, 0)) (f' := (32, [none, none], [.int 1])) (h' := hp N w4.2) rfl ?_
      cases h
      exact ev_iret rfl rfl rfl (Or.inr ⟨rfl, rfl⟩)
  · refine ev_ift rfl (decide_eq_true h9) ?_
    refine ev_run (n := 1) (u' := (0, 0)) (f' := (32, [none, none], [.int 0])) (h' := hp N w4.2) rfl ?_
    cases h
    exact ev_iret rfl rfl rfl (Or.inr ⟨rfl, rfl⟩)
def gm169 (a1 : Int32) (x : Hs) : Option (Int32 × Hs) := (gm119 a1 x).bind fun w1 => (if w1 = 0 then (gm169_13 a1 1 x) else (gm169_13 a1 0 x))
theorem em169 {N : Nat} (a1 : Int32) (x : Hs) (r : Int32 × Hs) (h : gm169 a1 x = some r) : Ev 169 (0, 0) (0, aPad [.ref 138, .int a1] 2, []) (hp N x) (cvMi N r) := by
  show Ev 169 (0, 0) (0, [some (.ref 138), some (.int a1)], []) (hp N x) _
  unfold gm169 at h
  refine ev_run (n := 2) (u' := (0, 0)) (f' := (2, [some (.ref 138), some (.int a1)], [.int a1, .ref 138])) (h' := hp N x) rfl ?_
  obtain ⟨w1, h2, h⟩ := bind_ok h
  refine ev_call (v := some (.int w1)) (h1 := hp N x) rfl rfl rfl rfl (em119 a1 x _ h2) ?_
  show Ev 169 (0, 0) (5, [some (.ref 138), some (.int a1)], [.int w1, .ref 138]) (hp N x) _
  rcases ite_or h with ⟨h3, h⟩ | ⟨h3, h⟩
  · refine ev_ift rfl (decide_eq_true h3) ?_
    refine ev_run (n := 1) (u' := (0, 0)) (f' := (13, [some (.ref 138), some (.int a1)], [.int 1, .ref 138])) (h' := hp N x) rfl ?_
    exact em169_13 a1 1 x _ h
  · refine ev_iff rfl (decide_eq_false h3) ?_
    refine ev_run (n := 2) (u' := (0, 0)) (f' := (13, [some (.ref 138), some (.int a1)], [.int 0, .ref 138])) (h' := hp N x) rfl ?_
    exact em169_13 a1 0 x _ h
def gm170_64 (s0 : Int32) (s1 : Int32) (x : Hs) : Option (Int32 × Hs) := some ((s0 + s1), x)
theorem em170_64 {N : Nat} (a1 : Int32) (s0 : Int32) (s1 : Int32) (x : Hs) (r : Int32 × Hs) (h : gm170_64 s0 s1 x = some r) : Ev 170 (0, 0) (64, [some (.ref 138), some (.int a1)], [.int s1, .int s0]) (hp N x) (cvMi N r) := by
  unfold gm170_64 at h
  refine ev_run (n := 1) (u' := (0, 0)) (f' := (65, [some (.ref 138), some (.int a1)], [.int (s0 + s1)])) (h' := hp N x) rfl ?_
  cases h
  exact ev_iret rfl rfl rfl (Or.inl rfl)
theorem em170_64_k1 {N : Nat} (s0 : Int32) (s1 : Int32) (x : Hs) (r : Int32 × Hs) (h : gm170_64 s0 s1 x = some r) : Ev 170 (0, 0) (64, [none, none], [.int s1, .int s0]) (hp N x) (cvMi N r) := by
  unfold gm170_64 at h
  refine ev_run (n := 1) (u' := (0, 0)) (f' := (65, [none, none], [.int (s0 + s1)])) (h' := hp N x) rfl ?_
  cases h
  exact ev_iret rfl rfl rfl (Or.inl rfl)
def gm170_14 (a1 : Int32) (s1 : Int32) (x : Hs) : Option (Int32 × Hs) := (gm113 s1 x).bind fun w4 => (if w4.1 = 0 then (cond (aIn a1 5) (if w4.2.1 155 (xi a1) = (-1) then (some ((-1), w4.2)) else (cond (aIn a1 5) (cond (aIn a1 5) (if w4.2.1 157 (xi a1) = 0 then (cond (aIn a1 5) (gm170_64 (10 * w4.2.1 155 (xi a1)) (w4.2.1 156 (xi a1)) w4.2) none) else (gm170_64 (10 * w4.2.1 155 (xi a1)) 4 w4.2)) none) none)) none) else (some (0, w4.2)))
theorem em170_14 {N : Nat} (a1 : Int32) (s1 : Int32) (x : Hs) (r : Int32 × Hs) (h : gm170_14 a1 s1 x = some r) : Ev 170 (0, 0) (14, [some (.ref 138), some (.int a1)], [.int s1, .ref 138]) (hp N x) (cvMi N r) := by
  unfold gm170_14 at h
  obtain ⟨w4, h5, h⟩ := bind_ok h
  refine ev_call (v := some (.int w4.1)) (h1 := hp N w4.2) rfl rfl rfl rfl (em113 s1 x _ h5) ?_
  show Ev 170 (0, 0) (17, [some (.ref 138), some (.int a1)], [.int w4.1]) (hp N w4.2) _
  rcases ite_or h with ⟨h12, h⟩ | ⟨h12, h⟩
  · refine ev_ift rfl (decide_eq_true h12) ?_
    refine ev_run (n := 3) (u' := (0, 0)) (f' := (27, [some (.ref 138), some (.int a1)], [.int a1, .ref 155])) (h' := hp N w4.2) rfl ?_
    obtain ⟨h6, h⟩ := cond_some h
    refine ev_iald rfl rfl h6 ?_
    refine ev_run (n := 1) (u' := (0, 0)) (f' := (29, [some (.ref 138), some (.int a1)], [.int (-1), .int (w4.2.1 155 (xi a1))])) (h' := hp N w4.2) rfl ?_
    rcases ite_or h with ⟨h11, h⟩ | ⟨h11, h⟩
    · refine ev_icf rfl (decide_eq_false (fun w => w h11)) ?_
      refine ev_run (n := 2) (u' := (0, 0)) (f' := (65, [none, none], [.int (-1)])) (h' := hp N w4.2) rfl ?_
      cases h
      exact ev_iret rfl rfl rfl (Or.inl rfl)
    · refine ev_ict rfl (decide_eq_true h11) ?_
      refine ev_run (n := 4) (u' := (0, 0)) (f' := (43, [some (.ref 138), some (.int a1)], [.int a1, .ref 155, .int 10])) (h' := hp N w4.2) rfl ?_
      obtain ⟨h7, h⟩ := cond_some h
      refine ev_iald rfl rfl h7 ?_
      refine ev_run (n := 4) (u' := (0, 0)) (f' := (50, [some (.ref 138), some (.int a1)], [.int a1, .ref 157, .int (10 * w4.2.1 155 (xi a1))])) (h' := hp N w4.2) rfl ?_
      obtain ⟨h8, h⟩ := cond_some h
      refine ev_bald rfl rfl h8 ?_
      rcases ite_or h with ⟨h10, h⟩ | ⟨h10, h⟩
      · refine ev_ift rfl (decide_eq_true h10) ?_
        refine ev_run (n := 3) (u' := (0, 0)) (f' := (63, [some (.ref 138), some (.int a1)], [.int a1, .ref 156, .int (10 * w4.2.1 155 (xi a1))])) (h' := hp N w4.2) rfl ?_
        obtain ⟨h9, h⟩ := cond_some h
        refine ev_iald rfl rfl h9 ?_
        exact em170_64 a1 (10 * w4.2.1 155 (xi a1)) (w4.2.1 156 (xi a1)) w4.2 _ h
      · refine ev_iff rfl (decide_eq_false h10) ?_
        refine ev_run (n := 2) (u' := (0, 0)) (f' := (64, [none, none], [.int 4, .int (10 * w4.2.1 155 (xi a1))])) (h' := hp N w4.2) rfl ?_
        exact em170_64_k1 (10 * w4.2.1 155 (xi a1)) 4 w4.2 _ h
  · refine ev_iff rfl (decide_eq_false h12) ?_
    refine ev_run (n := 1) (u' := (0, 0)) (f' := (21, [some (.ref 138), some (.int a1)], [.int 0])) (h' := hp N w4.2) rfl ?_
    cases h
    exact ev_iret rfl rfl rfl (Or.inl rfl)
def gm170 (a1 : Int32) (x : Hs) : Option (Int32 × Hs) := (gm117 a1 x).bind fun w1 => (if w1 = 0 then (gm170_14 a1 1 x) else (gm170_14 a1 0 x))
theorem em170 {N : Nat} (a1 : Int32) (x : Hs) (r : Int32 × Hs) (h : gm170 a1 x = some r) : Ev 170 (0, 0) (0, aPad [.ref 138, .int a1] 2, []) (hp N x) (cvMi N r) := by
  show Ev 170 (0, 0) (0, [some (.ref 138), some (.int a1)], []) (hp N x) _
  unfold gm170 at h
  refine ev_run (n := 3) (u' := (0, 0)) (f' := (3, [some (.ref 138), some (.int a1)], [.int a1, .ref 138, .ref 138])) (h' := hp N x) rfl ?_
  obtain ⟨w1, h2, h⟩ := bind_ok h
  refine ev_call (v := some (.int w1)) (h1 := hp N x) rfl rfl rfl rfl (em117 a1 x _ h2) ?_
  show Ev 170 (0, 0) (6, [some (.ref 138), some (.int a1)], [.int w1, .ref 138]) (hp N x) _
  rcases ite_or h with ⟨h3, h⟩ | ⟨h3, h⟩
  · refine ev_ift rfl (decide_eq_true h3) ?_
    refine ev_run (n := 1) (u' := (0, 0)) (f' := (14, [some (.ref 138), some (.int a1)], [.int 1, .ref 138])) (h' := hp N x) rfl ?_
    exact em170_14 a1 1 x _ h
  · refine ev_iff rfl (decide_eq_false h3) ?_
    refine ev_run (n := 2) (u' := (0, 0)) (f' := (14, [some (.ref 138), some (.int a1)], [.int 0, .ref 138])) (h' := hp N x) rfl ?_
    exact em170_14 a1 0 x _ h
def gm171_30 (k4 : Int32 → Int32 → Int32 → Hs → Option (Int32)) (a1 : Int32) (a3 : Int32) (s0 : Int32) (s1 : Int32) (x : Hs) : Option (Int32) := k4 a1 (s0 + s1) (a3 + 1) x
theorem em171_30 {N : Nat} (k4 : Int32 → Int32 → Int32 → Hs → Option (Int32)) (q4 : ∀ (a1 : Int32) (a2 : Int32) (a3 : Int32) (x : Hs) (r : Int32), k4 a1 a2 a3 x = some r → Ev 171 (0, 0) (4, [some (.ref 138), some (.int a1), some (.int a2), some (.int a3)], []) (hp N x) (cvPi N x r)) (a1 : Int32) (a3 : Int32) (s0 : Int32) (s1 : Int32) (x : Hs) (r : Int32) (h : gm171_30 k4 a1 a3 s0 s1 x = some r) : Ev 171 (0, 0) (30, [some (.ref 138), some (.int a1), none, some (.int a3)], [.int s1, .int s0]) (hp N x) (cvPi N x r) := by
  unfold gm171_30 at h
  refine ev_run (n := 4) (u' := (0, 0)) (f' := (4, [some (.ref 138), some (.int a1), some (.int (s0 + s1)), some (.int (a3 + 1))], [])) (h' := hp N x) rfl ?_
  exact q4 a1 (s0 + s1) (a3 + 1) x _ h
def gm171_4 : Nat → Int32 → Int32 → Int32 → Hs → Option (Int32)
  | 0, _, _, _, _ => none
  | n + 1, a1, a2, a3, x => if a3 ≥ a1 then (some a2) else (cond (aIn a3 24) (cond (aIn a1 24) (if x.1 140 (xi a3) = x.1 140 (xi a1) then (gm171_30 (gm171_4 n) a1 a3 a2 1 x) else (gm171_30 (gm171_4 n) a1 a3 a2 0 x)) none) none)
theorem em171_4 {N : Nat} : ∀ (n : Nat) (a1 : Int32) (a2 : Int32) (a3 : Int32) (x : Hs) (r : Int32), gm171_4 n a1 a2 a3 x = some r → Ev 171 (0, 0) (4, [some (.ref 138), some (.int a1), some (.int a2), some (.int a3)], []) (hp N x) (cvPi N x r)
  | 0, a1, a2, a3, x, r, h => by
    have e9 : (none : Option (Int32)) = some r := h
    cases e9
  | n + 1, a1, a2, a3, x, r, h => by
    have q4 := em171_4 (N := N) n
    rw [gm171_4] at h
    refine ev_run (n := 2) (u' := (0, 0)) (f' := (6, [some (.ref 138), some (.int a1), some (.int a2), some (.int a3)], [.int a1, .int a3])) (h' := hp N x) rfl ?_
    rcases ite_or h with ⟨h4, h⟩ | ⟨h4, h⟩
    · refine ev_ict rfl (decide_eq_true h4) ?_
      refine ev_run (n := 1) (u' := (0, 0)) (f' := (39, [none, none, some (.int a2), none], [.int a2])) (h' := hp N x) rfl ?_
      cases h
      exact ev_iret rfl rfl rfl (Or.inl rfl)
    · refine ev_icf rfl (decide_eq_false h4) ?_
      refine ev_run (n := 4) (u' := (0, 0)) (f' := (15, [some (.ref 138), some (.int a1), some (.int a2), some (.int a3)], [.int a3, .ref 140, .int a2])) (h' := hp N x) rfl ?_
      obtain ⟨h1, h⟩ := cond_some h
      refine ev_iald rfl rfl h1 ?_
      refine ev_run (n := 3) (u' := (0, 0)) (f' := (21, [some (.ref 138), some (.int a1), some (.int a2), some (.int a3)], [.int a1, .ref 140, .int (x.1 140 (xi a3)), .int a2])) (h' := hp N x) rfl ?_
      obtain ⟨h2, h⟩ := cond_some h
      refine ev_iald rfl rfl h2 ?_
      rcases ite_or h with ⟨h3, h⟩ | ⟨h3, h⟩
      · refine ev_icf rfl (decide_eq_false (fun w => w h3)) ?_
        refine ev_run (n := 2) (u' := (0, 0)) (f' := (30, [some (.ref 138), some (.int a1), none, some (.int a3)], [.int 1, .int a2])) (h' := hp N x) rfl ?_
        exact em171_30 (gm171_4 n) q4 a1 a3 a2 1 x _ h
      · refine ev_ict rfl (decide_eq_true h3) ?_
        refine ev_run (n := 1) (u' := (0, 0)) (f' := (30, [some (.ref 138), some (.int a1), none, some (.int a3)], [.int 0, .int a2])) (h' := hp N x) rfl ?_
        exact em171_30 (gm171_4 n) q4 a1 a3 a2 0 x _ h
def gm171 (a1 : Int32) (x : Hs) : Option (Int32) := gm171_4 FU a1 1 0 x
theorem em171 {N : Nat} (a1 : Int32) (x : Hs) (r : Int32) (h : gm171 a1 x = some r) : Ev 171 (0, 0) (0, aPad [.ref 138, .int a1] 4, []) (hp N x) (cvPi N x r) := by
  show Ev 171 (0, 0) (0, [some (.ref 138), some (.int a1), none, none], []) (hp N x) _
  unfold gm171 at h
  refine ev_run (n := 4) (u' := (0, 0)) (f' := (4, [some (.ref 138), some (.int a1), some (.int 1), some (.int 0)], [])) (h' := hp N x) rfl ?_
  exact em171_4 FU a1 1 0 x _ h
def gm172_28 (k4 : Int32 → Int32 → Int32 → Hs → Option (Int32)) (a1 : Int32) (a3 : Int32) (s0 : Int32) (s1 : Int32) (x : Hs) : Option (Int32) := k4 a1 (s0 + s1) (a3 + 1) x
theorem em172_28 {N : Nat} (k4 : Int32 → Int32 → Int32 → Hs → Option (Int32)) (q4 : ∀ (a1 : Int32) (a2 : Int32) (a3 : Int32) (x : Hs) (r : Int32), k4 a1 a2 a3 x = some r → Ev 172 (0, 0) (4, [some (.ref 138), some (.int a1), some (.int a2), some (.int a3)], []) (hp N x) (cvPi N x r)) (a1 : Int32) (a3 : Int32) (s0 : Int32) (s1 : Int32) (x : Hs) (r : Int32) (h : gm172_28 k4 a1 a3 s0 s1 x = some r) : Ev 172 (0, 0) (28, [some (.ref 138), some (.int a1), none, some (.int a3)], [.int s1, .int s0]) (hp N x) (cvPi N x r) := by
  unfold gm172_28 at h
  refine ev_run (n := 4) (u' := (0, 0)) (f' := (4, [some (.ref 138), some (.int a1), some (.int (s0 + s1)), some (.int (a3 + 1))], [])) (h' := hp N x) rfl ?_
  exact q4 a1 (s0 + s1) (a3 + 1) x _ h
def gm172_4 : Nat → Int32 → Int32 → Int32 → Hs → Option (Int32)
  | 0, _, _, _, _ => none
  | n + 1, a1, a2, a3, x => if a3 ≥ x.1 138 3 then (some a2) else (cond (aIn a3 24) (if x.1 140 (xi a3) = a1 then (gm172_28 (gm172_4 n) a1 a3 a2 1 x) else (gm172_28 (gm172_4 n) a1 a3 a2 0 x)) none)
theorem em172_4 {N : Nat} : ∀ (n : Nat) (a1 : Int32) (a2 : Int32) (a3 : Int32) (x : Hs) (r : Int32), gm172_4 n a1 a2 a3 x = some r → Ev 172 (0, 0) (4, [some (.ref 138), some (.int a1), some (.int a2), some (.int a3)], []) (hp N x) (cvPi N x r)
  | 0, a1, a2, a3, x, r, h => by
    have e9 : (none : Option (Int32)) = some r := h
    cases e9
  | n + 1, a1, a2, a3, x, r, h => by
    have q4 := em172_4 (N := N) n
    rw [gm172_4] at h
    refine ev_run (n := 3) (u' := (0, 0)) (f' := (9, [some (.ref 138), some (.int a1), some (.int a2), some (.int a3)], [.int (x.1 138 3), .int a3])) (h' := hp N x) rfl ?_
    rcases ite_or h with ⟨h3, h⟩ | ⟨h3, h⟩
    · refine ev_ict rfl (decide_eq_true h3) ?_
      refine ev_run (n := 1) (u' := (0, 0)) (f' := (37, [none, none, some (.int a2), none], [.int a2])) (h' := hp N x) rfl ?_
      cases h
      exact ev_iret rfl rfl rfl (Or.inl rfl)
    · refine ev_icf rfl (decide_eq_false h3) ?_
      refine ev_run (n := 4) (u' := (0, 0)) (f' := (18, [some (.ref 138), some (.int a1), some (.int a2), some (.int a3)], [.int a3, .ref 140, .int a2])) (h' := hp N x) rfl ?_
      obtain ⟨h1, h⟩ := cond_some h
      refine ev_iald rfl rfl h1 ?_
      refine ev_run (n := 1) (u' := (0, 0)) (f' := (20, [some (.ref 138), some (.int a1), some (.int a2), some (.int a3)], [.int a1, .int (x.1 140 (xi a3)), .int a2])) (h' := hp N x) rfl ?_
      rcases ite_or h with ⟨h2, h⟩ | ⟨h2, h⟩
      · refine ev_icf rfl (decide_eq_false (fun w => w h2)) ?_
        refine ev_run (n := 2) (u' := (0, 0)) (f' := (28, [some (.ref 138), some (.int a1), none, some (.int a3)], [.int 1, .int a2])) (h' := hp N x) rfl ?_
        exact em172_28 (gm172_4 n) q4 a1 a3 a2 1 x _ h
      · refine ev_ict rfl (decide_eq_true h2) ?_
        refine ev_run (n := 1) (u' := (0, 0)) (f' := (28, [some (.ref 138), some (.int a1), none, some (.int a3)], [.int 0, .int a2])) (h' := hp N x) rfl ?_
        exact em172_28 (gm172_4 n) q4 a1 a3 a2 0 x _ h
def gm172 (a1 : Int32) (x : Hs) : Option (Int32) := gm172_4 FU a1 0 0 x
theorem em172 {N : Nat} (a1 : Int32) (x : Hs) (r : Int32) (h : gm172 a1 x = some r) : Ev 172 (0, 0) (0, aPad [.ref 138, .int a1] 4, []) (hp N x) (cvPi N x r) := by
  show Ev 172 (0, 0) (0, [some (.ref 138), some (.int a1), none, none], []) (hp N x) _
  unfold gm172 at h
  refine ev_run (n := 4) (u' := (0, 0)) (f' := (4, [some (.ref 138), some (.int a1), some (.int 0), some (.int 0)], [])) (h' := hp N x) rfl ?_
  exact em172_4 FU a1 0 0 x _ h
def gm173_45 (k4 : Int32 → Int32 → Hs → Option (Int32)) (a2 : Int32) (s0 : Int32) (s1 : Int32) (x : Hs) : Option (Int32) := k4 (s0 + s1) (a2 + 1) x
theorem em173_45 {N : Nat} (k4 : Int32 → Int32 → Hs → Option (Int32)) (q4 : ∀ (a1 : Int32) (a2 : Int32) (x : Hs) (r : Int32), k4 a1 a2 x = some r → Ev 173 (0, 0) (4, [some (.ref 138), some (.int a1), some (.int a2)], []) (hp N x) (cvPi N x r)) (a2 : Int32) (s0 : Int32) (s1 : Int32) (x : Hs) (r : Int32) (h : gm173_45 k4 a2 s0 s1 x = some r) : Ev 173 (0, 0) (45, [some (.ref 138), none, some (.int a2)], [.int s1, .int s0]) (hp N x) (cvPi N x r) := by
  unfold gm173_45 at h
  refine ev_run (n := 4) (u' := (0, 0)) (f' := (4, [some (.ref 138), some (.int (s0 + s1)), some (.int (a2 + 1))], [])) (h' := hp N x) rfl ?_
  exact q4 (s0 + s1) (a2 + 1) x _ h
def gm173_4 : Nat → Int32 → Int32 → Hs → Option (Int32)
  | 0, _, _, _ => none
  | n + 1, a1, a2, x => if a2 ≥ x.1 138 1 then (some a1) else ((gm172 a2 x).bind fun w1 => (cond (aIn a2 5) (if x.1 186 (xi a2) = (-1) then (gm173_45 (gm173_4 n) a2 (a1 * (w1 + 1)) 0 x) else (cond (aIn a2 5) ((gm171 (x.1 186 (xi a2)) x).bind fun w5 => (gm173_45 (gm173_4 n) a2 (a1 * (w1 + 1)) w5 x)) none)) none))
theorem em173_4 {N : Nat} : ∀ (n : Nat) (a1 : Int32) (a2 : Int32) (x : Hs) (r : Int32), gm173_4 n a1 a2 x = some r → Ev 173 (0, 0) (4, [some (.ref 138), some (.int a1), some (.int a2)], []) (hp N x) (cvPi N x r)
  | 0, a1, a2, x, r, h => by
    have e9 : (none : Option (Int32)) = some r := h
    cases e9
  | n + 1, a1, a2, x, r, h => by
    have q4 := em173_4 (N := N) n
    rw [gm173_4] at h
    refine ev_run (n := 3) (u' := (0, 0)) (f' := (9, [some (.ref 138), some (.int a1), some (.int a2)], [.int (x.1 138 1), .int a2])) (h' := hp N x) rfl ?_
    rcases ite_or h with ⟨h8, h⟩ | ⟨h8, h⟩
    · refine ev_ict rfl (decide_eq_true h8) ?_
      refine ev_run (n := 1) (u' := (0, 0)) (f' := (54, [none, some (.int a1), none], [.int a1])) (h' := hp N x) rfl ?_
      cases h
      exact ev_iret rfl rfl rfl (Or.inl rfl)
    · refine ev_icf rfl (decide_eq_false h8) ?_
      refine ev_run (n := 3) (u' := (0, 0)) (f' := (15, [some (.ref 138), some (.int a1), some (.int a2)], [.int a2, .ref 138, .int a1])) (h' := hp N x) rfl ?_
      obtain ⟨w1, h2, h⟩ := bind_ok h
      refine ev_call (v := some (.int w1)) (h1 := hp N x) rfl rfl rfl rfl (em172 a2 x _ h2) ?_
      show Ev 173 (0, 0) (18, [some (.ref 138), some (.int a1), some (.int a2)], [.int w1, .int a1]) (hp N x) _
      refine ev_run (n := 6) (u' := (0, 0)) (f' := (26, [some (.ref 138), some (.int a1), some (.int a2)], [.int a2, .ref 186, .int (a1 * (w1 + 1))])) (h' := hp N x) rfl ?_
      obtain ⟨h3, h⟩ := cond_some h
      refine ev_iald rfl rfl h3 ?_
      refine ev_run (n := 1) (u' := (0, 0)) (f' := (28, [some (.ref 138), some (.int a1), some (.int a2)], [.int (-1), .int (x.1 186 (xi a2)), .int (a1 * (w1 + 1))])) (h' := hp N x) rfl ?_
      rcases ite_or h with ⟨h7, h⟩ | ⟨h7, h⟩
      · refine ev_icf rfl (decide_eq_false (fun w => w h7)) ?_
        refine ev_run (n := 2) (u' := (0, 0)) (f' := (45, [some (.ref 138), none, some (.int a2)], [.int 0, .int (a1 * (w1 + 1))])) (h' := hp N x) rfl ?_
        exact em173_45 (gm173_4 n) q4 a2 (a1 * (w1 + 1)) 0 x _ h
      · refine ev_ict rfl (decide_eq_true h7) ?_
        refine ev_run (n := 4) (u' := (0, 0)) (f' := (41, [some (.ref 138), none, some (.int a2)], [.int a2, .ref 186, .ref 138, .int (a1 * (w1 + 1))])) (h' := hp N x) rfl ?_
        obtain ⟨h4, h⟩ := cond_some h
        refine ev_iald rfl rfl h4 ?_
        obtain ⟨w5, h6, h⟩ := bind_ok h
        refine ev_call (v := some (.int w5)) (h1 := hp N x) rfl rfl rfl rfl (em171 (x.1 186 (xi a2)) x _ h6) ?_
        show Ev 173 (0, 0) (45, [some (.ref 138), none, some (.int a2)], [.int w5, .int (a1 * (w1 + 1))]) (hp N x) _
        exact em173_45 (gm173_4 n) q4 a2 (a1 * (w1 + 1)) w5 x _ h
def gm173 (x : Hs) : Option (Int32) := gm173_4 FU 0 0 x
theorem em173 {N : Nat} (x : Hs) (r : Int32) (h : gm173 x = some r) : Ev 173 (0, 0) (0, aPad [.ref 138] 3, []) (hp N x) (cvPi N x r) := by
  show Ev 173 (0, 0) (0, [some (.ref 138), none, none], []) (hp N x) _
  unfold gm173 at h
  refine ev_run (n := 4) (u' := (0, 0)) (f' := (4, [some (.ref 138), some (.int 0), some (.int 0)], [])) (h' := hp N x) rfl ?_
  exact em173_4 FU 0 0 x _ h
def gm174_91 (k9 : Int32 → Int32 → Hs → Option (Hs)) (k44 : Int32 → Int32 → Int32 → Int32 → Hs → Option (Hs)) (a2 : Int32) (a3 : Int32) (a4 : Int32) (a5 : Int32) (s1 : Int32) (s2 : Int32) (x : Hs) : Option (Hs) := cond (aIn s1 5) (k44 a2 a3 a4 (a5 + 1) (wI x 186 (xi s1) s2)) none
theorem em174_91 {N : Nat} (k9 : Int32 → Int32 → Hs → Option (Hs)) (k44 : Int32 → Int32 → Int32 → Int32 → Hs → Option (Hs)) (q9 : ∀ (a2 : Int32) (a3 : Int32) (x : Hs) (r : Hs), k9 a2 a3 x = some r → Ev 174 (0, 0) (9, [some (.ref 138), none, some (.int a2), some (.int a3), none, none], []) (hp N x) (cvMv N r)) (q44 : ∀ (a2 : Int32) (a3 : Int32) (a4 : Int32) (a5 : Int32) (x : Hs) (r : Hs), k44 a2 a3 a4 a5 x = some r → Ev 174 (0, 0) (44, [some (.ref 138), none, some (.int a2), some (.int a3), some (.int a4), some (.int a5)], []) (hp N x) (cvMv N r)) (a2 : Int32) (a3 : Int32) (a4 : Int32) (a5 : Int32) (s1 : Int32) (s2 : Int32) (x : Hs) (r : Hs) (h : gm174_91 k9 k44 a2 a3 a4 a5 s1 s2 x = some r) : Ev 174 (0, 0) (91, [some (.ref 138), none, some (.int a2), some (.int a3), some (.int a4), some (.int a5)], [.int s2, .int s1, .ref 186]) (hp N x) (cvMv N r) := by
  unfold gm174_91 at h
  obtain ⟨h16, h⟩ := cond_some h
  refine ev_iast rfl rfl h16 ?_
  show Ev 174 (0, 0) (92, [some (.ref 138), none, some (.int a2), some (.int a3), some (.int a4), some (.int a5)], []) (hp N (wI x 186 (xi s1) s2)) _
  refine ev_run (n := 2) (u' := (0, 0)) (f' := (44, [some (.ref 138), none, some (.int a2), some (.int a3), some (.int a4), some (.int (a5 + 1))], [])) (h' := hp N (wI x 186 (xi s1) s2)) rfl ?_
  exact q44 a2 a3 a4 (a5 + 1) (wI x 186 (xi s1) s2) _ h
def gm174_85 (k9 : Int32 → Int32 → Hs → Option (Hs)) (k44 : Int32 → Int32 → Int32 → Int32 → Hs → Option (Hs)) (a2 : Int32) (a3 : Int32) (a4 : Int32) (a5 : Int32) (s1 : Int32) (x : Hs) : Option (Hs) := cond (aIn a3 5) (gm174_91 k9 k44 a2 a3 a4 a5 s1 (x.1 186 (xi a3)) x) none
theorem em174_85 {N : Nat} (k9 : Int32 → Int32 → Hs → Option (Hs)) (k44 : Int32 → Int32 → Int32 → Int32 → Hs → Option (Hs)) (q9 : ∀ (a2 : Int32) (a3 : Int32) (x : Hs) (r : Hs), k9 a2 a3 x = some r → Ev 174 (0, 0) (9, [some (.ref 138), none, some (.int a2), some (.int a3), none, none], []) (hp N x) (cvMv N r)) (q44 : ∀ (a2 : Int32) (a3 : Int32) (a4 : Int32) (a5 : Int32) (x : Hs) (r : Hs), k44 a2 a3 a4 a5 x = some r → Ev 174 (0, 0) (44, [some (.ref 138), none, some (.int a2), some (.int a3), some (.int a4), some (.int a5)], []) (hp N x) (cvMv N r)) (a2 : Int32) (a3 : Int32) (a4 : Int32) (a5 : Int32) (s1 : Int32) (x : Hs) (r : Hs) (h : gm174_85 k9 k44 a2 a3 a4 a5 s1 x = some r) : Ev 174 (0, 0) (85, [some (.ref 138), none, some (.int a2), some (.int a3), some (.int a4), some (.int a5)], [.int s1, .ref 186]) (hp N x) (cvMv N r) := by
  unfold gm174_85 at h
  refine ev_run (n := 3) (u' := (0, 0)) (f' := (90, [some (.ref 138), none, some (.int a2), some (.int a3), some (.int a4), some (.int a5)], [.int a3, .ref 186, .int s1, .ref 186])) (h' := hp N x) rfl ?_
  obtain ⟨h15, h⟩ := cond_some h
  refine ev_iald rfl rfl h15 ?_
  exact em174_91 k9 k44 q9 q44 a2 a3 a4 a5 s1 (x.1 186 (xi a3)) x _ h
def gm174_98 (k9 : Int32 → Int32 → Hs → Option (Hs)) (a2 : Int32) (a3 : Int32) (x : Hs) : Option (Hs) := k9 a2 (a3 + (-1)) x
theorem em174_98 {N : Nat} (k9 : Int32 → Int32 → Hs → Option (Hs)) (q9 : ∀ (a2 : Int32) (a3 : Int32) (x : Hs) (r : Hs), k9 a2 a3 x = some r → Ev 174 (0, 0) (9, [some (.ref 138), none, some (.int a2), some (.int a3), none, none], []) (hp N x) (cvMv N r)) (a2 : Int32) (a3 : Int32) (x : Hs) (r : Hs) (h : gm174_98 k9 a2 a3 x = some r) : Ev 174 (0, 0) (98, [some (.ref 138), none, some (.int a2), some (.int a3), none, none], []) (hp N x) (cvMv N r) := by
  unfold gm174_98 at h
  refine ev_run (n := 2) (u' := (0, 0)) (f' := (9, [some (.ref 138), none, some (.int a2), some (.int (a3 + (-1))), none, none], [])) (h' := hp N x) rfl ?_
  exact q9 a2 (a3 + (-1)) x _ h
def gm174_44 (k9 : Int32 → Int32 → Hs → Option (Hs)) : Nat → Int32 → Int32 → Int32 → Int32 → Hs → Option (Hs)
  | 0, _, _, _, _, _ => none
  | n + 1, a2, a3, a4, a5, x => if a5 ≥ x.1 138 3 then (gm174_98 k9 a2 a3 x) else (cond (aIn a5 24) (if x.1 140 (xi a5) = a3 then ((gm171 a5 x).bind fun w10 => (if w10 = a4 then (gm174_91 k9 (gm174_44 k9 n) a2 a3 a4 a5 a3 a5 x) else (gm174_85 k9 (gm174_44 k9 n) a2 a3 a4 a5 a3 x))) else (gm174_85 k9 (gm174_44 k9 n) a2 a3 a4 a5 a3 x)) none)
theorem em174_44 {N : Nat} (k9 : Int32 → Int32 → Hs → Option (Hs)) (q9 : ∀ (a2 : Int32) (a3 : Int32) (x : Hs) (r : Hs), k9 a2 a3 x = some r → Ev 174 (0, 0) (9, [some (.ref 138), none, some (.int a2), some (.int a3), none, none], []) (hp N x) (cvMv N r)) : ∀ (n : Nat) (a2 : Int32) (a3 : Int32) (a4 : Int32) (a5 : Int32) (x : Hs) (r : Hs), gm174_44 k9 n a2 a3 a4 a5 x = some r → Ev 174 (0, 0) (44, [some (.ref 138), none, some (.int a2), some (.int a3), some (.int a4), some (.int a5)], []) (hp N x) (cvMv N r)
  | 0, a2, a3, a4, a5, x, r, h => by
    have e9 : (none : Option (Hs)) = some r := h
    cases e9
  | n + 1, a2, a3, a4, a5, x, r, h => by
    have q44 := em174_44 k9 q9 (N := N) n
    rw [gm174_44] at h
    refine ev_run (n := 3) (u' := (0, 0)) (f' := (50, [some (.ref 138), none, some (.int a2), some (.int a3), some (.int a4), some (.int a5)], [.int (x.1 138 3), .int a5])) (h' := hp N x) rfl ?_
    rcases ite_or h with ⟨h14, h⟩ | ⟨h14, h⟩
    · refine ev_ict rfl (decide_eq_true h14) ?_
      exact em174_98 k9 q9 a2 a3 x _ h
    · refine ev_icf rfl (decide_eq_false h14) ?_
      refine ev_run (n := 6) (u' := (0, 0)) (f' := (64, [some (.ref 138), none, some (.int a2), some (.int a3), some (.int a4), some (.int a5)], [.int a5, .ref 140, .int a3, .ref 186])) (h' := hp N x) rfl ?_
      obtain ⟨h9, h⟩ := cond_some h
      refine ev_iald rfl rfl h9 ?_
      refine ev_run (n := 1) (u' := (0, 0)) (f' := (66, [some (.ref 138), none, some (.int a2), some (.int a3), some (.int a4), some (.int a5)], [.int a3, .int (x.1 140 (xi a5)), .int a3, .ref 186])) (h' := hp N x) rfl ?_
      rcases ite_or h with ⟨h13, h⟩ | ⟨h13, h⟩
      · refine ev_icf rfl (decide_eq_false (fun w => w h13)) ?_
        refine ev_run (n := 2) (u' := (0, 0)) (f' := (72, [some (.ref 138), none, some (.int a2), some (.int a3), some (.int a4), some (.int a5)], [.int a5, .ref 138, .int a3, .ref 186])) (h' := hp N x) rfl ?_
        obtain ⟨w10, h11, h⟩ := bind_ok h
        refine ev_call (v := some (.int w10)) (h1 := hp N x) rfl rfl rfl rfl (em171 a5 x _ h11) ?_
        show Ev 174 (0, 0) (75, [some (.ref 138), none, some (.int a2), some (.int a3), some (.int a4), some (.int a5)], [.int w10, .int a3, .ref 186]) (hp N x) _
        refine ev_run (n := 1) (u' := (0, 0)) (f' := (77, [some (.ref 138), none, some (.int a2), some (.int a3), some (.int a4), some (.int a5)], [.int a4, .int w10, .int a3, .ref 186])) (h' := hp N x) rfl ?_
        rcases ite_or h with ⟨h12, h⟩ | ⟨h12, h⟩
        · refine ev_icf rfl (decide_eq_false (fun w => w h12)) ?_
          refine ev_run (n := 2) (u' := (0, 0)) (f' := (91, [some (.ref 138), none, some (.int a2), some (.int a3), some (.int a4), some (.int a5)], [.int a5, .int a3, .ref 186])) (h' := hp N x) rfl ?_
          exact em174_91 k9 (gm174_44 k9 n) q9 q44 a2 a3 a4 a5 a3 a5 x _ h
        · refine ev_ict rfl (decide_eq_true h12) ?_
          exact em174_85 k9 (gm174_44 k9 n) q9 q44 a2 a3 a4 a5 a3 x _ h
      · refine ev_ict rfl (decide_eq_true h13) ?_
        exact em174_85 k9 (gm174_44 k9 n) q9 q44 a2 a3 a4 a5 a3 x _ h
def gm174_9 : Nat → Int32 → Int32 → Hs → Option (Hs)
  | 0, _, _, _ => none
  | n + 1, a2, a3, x => if a3 < 0 then (some x) else ((gm172 a3 x).bind fun w1 => (if (w1 + 1) = 0 then none else ((gm172 a3 x).bind fun w4 => (if (w4 + 1) = 0 then none else (cond (aIn a3 5) (gm174_44 (gm174_9 n) FU (a2 / (w4 + 1)) a3 (a2 - a2 / (w1 + 1) * (w1 + 1)) 0 (wI x 186 (xi a3) (-1))) none)))))
theorem em174_9 {N : Nat} : ∀ (n : Nat) (a2 : Int32) (a3 : Int32) (x : Hs) (r : Hs), gm174_9 n a2 a3 x = some r → Ev 174 (0, 0) (9, [some (.ref 138), none, some (.int a2), some (.int a3), none, none], []) (hp N x) (cvMv N r)
  | 0, a2, a3, x, r, h => by
    have e9 : (none : Option (Hs)) = some r := h
    cases e9
  | n + 1, a2, a3, x, r, h => by
    have q9 := em174_9 (N := N) n
    rw [gm174_9] at h
    refine ev_run (n := 1) (u' := (0, 0)) (f' := (10, [some (.ref 138), none, some (.int a2), some (.int a3), none, none], [.int a3])) (h' := hp N x) rfl ?_
    rcases ite_or h with ⟨h8, h⟩ | ⟨h8, h⟩
    · refine ev_ift rfl (decide_eq_true h8) ?_
      cases h
      exact ev_vret rfl rfl rfl
    · refine ev_iff rfl (decide_eq_false h8) ?_
      refine ev_run (n := 3) (u' := (0, 0)) (f' := (16, [some (.ref 138), none, some (.int a2), some (.int a3), none, none], [.int a3, .ref 138, .int a2])) (h' := hp N x) rfl ?_
      obtain ⟨w1, h2, h⟩ := bind_ok h
      refine ev_call (v := some (.int w1)) (h1 := hp N x) rfl rfl rfl rfl (em172 a3 x _ h2) ?_
      show Ev 174 (0, 0) (19, [some (.ref 138), none, some (.int a2), some (.int a3), none, none], [.int w1, .int a2]) (hp N x) _
      refine ev_run (n := 2) (u' := (0, 0)) (f' := (21, [some (.ref 138), none, some (.int a2), some (.int a3), none, none], [.int (w1 + 1), .int a2])) (h' := hp N x) rfl ?_
      rcases ite_or h with ⟨-, h⟩ | ⟨h3, h⟩
      · cases h
      refine ev_irem rfl h3 ?_
      refine ev_run (n := 4) (u' := (0, 0)) (f' := (27, [some (.ref 138), none, some (.int a2), some (.int a3), some (.int (a2 - a2 / (w1 + 1) * (w1 + 1))), none], [.int a3, .ref 138, .int a2])) (h' := hp N x) rfl ?_
      obtain ⟨w4, h5, h⟩ := bind_ok h
      refine ev_call (v := some (.int w4)) (h1 := hp N x) rfl rfl rfl rfl (em172 a3 x _ h5) ?_
      show Ev 174 (0, 0) (30, [some (.ref 138), none, some (.int a2), some (.int a3), some (.int (a2 - a2 / (w1 + 1) * (w1 + 1))), none], [.int w4, .int a2]) (hp N x) _
      refine ev_run (n := 2) (u' := (0, 0)) (f' := (32, [some (.ref 138), none, some (.int a2), some (.int a3), some (.int (a2 - a2 / (w1 + 1) * (w1 + 1))), none], [.int (w4 + 1), .int a2])) (h' := hp N x) rfl ?_
      rcases ite_or h with ⟨-, h⟩ | ⟨h6, h⟩
      · cases h
      refine ev_idiv rfl h6 ?_
      refine ev_run (n := 5) (u' := (0, 0)) (f' := (40, [some (.ref 138), none, some (.int (a2 / (w4 + 1))), some (.int a3), some (.int (a2 - a2 / (w1 + 1) * (w1 + 1))), none], [.int (-1), .int a3, .ref 186])) (h' := hp N x) rfl ?_
      obtain ⟨h7, h⟩ := cond_some h
      refine ev_iast rfl rfl h7 ?_
      show Ev 174 (0, 0) (41, [some (.ref 138), none, some (.int (a2 / (w4 + 1))), some (.int a3), some (.int (a2 - a2 / (w1 + 1) * (w1 + 1))), none], []) (hp N (wI x 186 (xi a3) (-1))) _
      refine ev_run (n := 2) (u' := (0, 0)) (f' := (44, [some (.ref 138), none, some (.int (a2 / (w4 + 1))), some (.int a3), some (.int (a2 - a2 / (w1 + 1) * (w1 + 1))), some (.int 0)], [])) (h' := hp N (wI x 186 (xi a3) (-1))) rfl ?_
      exact em174_44 (gm174_9 n) q9 FU (a2 / (w4 + 1)) a3 (a2 - a2 / (w1 + 1) * (w1 + 1)) 0 (wI x 186 (xi a3) (-1)) _ h
def gm174 (a1 : Int32) (x : Hs) : Option (Hs) := gm174_9 FU a1 (x.1 138 1 - 1) x
theorem em174 {N : Nat} (a1 : Int32) (x : Hs) (r : Hs) (h : gm174 a1 x = some r) : Ev 174 (0, 0) (0, aPad [.ref 138, .int a1] 6, []) (hp N x) (cvMv N r) := by
  show Ev 174 (0, 0) (0, [some (.ref 138), some (.int a1), none, none, none, none], []) (hp N x) _
  unfold gm174 at h
  refine ev_run (n := 7) (u' := (0, 0)) (f' := (9, [some (.ref 138), none, some (.int a1), some (.int (x.1 138 1 - 1)), none, none], [])) (h' := hp N x) rfl ?_
  exact em174_9 FU a1 (x.1 138 1 - 1) x _ h
def gm175_83 (k4 : Int32 → Int32 → Hs → Option (Int32)) (k14 : Int32 → Int32 → Int32 → Hs → Option (Int32)) (a2 : Int32) (a3 : Int32) (s0 : Int32) (x : Hs) : Option (Int32) := k14 s0 a2 (a3 + 1) x
theorem em175_83 {N : Nat} (k4 : Int32 → Int32 → Hs → Option (Int32)) (k14 : Int32 → Int32 → Int32 → Hs → Option (Int32)) (q4 : ∀ (a1 : Int32) (a2 : Int32) (x : Hs) (r : Int32), k4 a1 a2 x = some r → Ev 175 (0, 0) (4, [some (.ref 138), some (.int a1), some (.int a2), none], []) (hp N x) (cvPi N x r)) (q14 : ∀ (a1 : Int32) (a2 : Int32) (a3 : Int32) (x : Hs) (r : Int32), k14 a1 a2 a3 x = some r → Ev 175 (0, 0) (14, [some (.ref 138), some (.int a1), some (.int a2), some (.int a3)], []) (hp N x) (cvPi N x r)) (a2 : Int32) (a3 : Int32) (s0 : Int32) (x : Hs) (r : Int32) (h : gm175_83 k4 k14 a2 a3 s0 x = some r) : Ev 175 (0, 0) (83, [some (.ref 138), none, some (.int a2), some (.int a3)], [.int s0]) (hp N x) (cvPi N x r) := by
  unfold gm175_83 at h
  refine ev_run (n := 3) (u' := (0, 0)) (f' := (14, [some (.ref 138), some (.int s0), some (.int a2), some (.int (a3 + 1))], [])) (h' := hp N x) rfl ?_
  exact q14 s0 a2 (a3 + 1) x _ h
def gm175_78 (k4 : Int32 → Int32 → Hs → Option (Int32)) (k14 : Int32 → Int32 → Int32 → Hs → Option (Int32)) (a2 : Int32) (a3 : Int32) (x : Hs) : Option (Int32) := gm175_83 k4 k14 a2 a3 1 x
theorem em175_78 {N : Nat} (k4 : Int32 → Int32 → Hs → Option (Int32)) (k14 : Int32 → Int32 → Int32 → Hs → Option (Int32)) (q4 : ∀ (a1 : Int32) (a2 : Int32) (x : Hs) (r : Int32), k4 a1 a2 x = some r → Ev 175 (0, 0) (4, [some (.ref 138), some (.int a1), some (.int a2), none], []) (hp N x) (cvPi N x r)) (q14 : ∀ (a1 : Int32) (a2 : Int32) (a3 : Int32) (x : Hs) (r : Int32), k14 a1 a2 a3 x = some r → Ev 175 (0, 0) (14, [some (.ref 138), some (.int a1), some (.int a2), some (.int a3)], []) (hp N x) (cvPi N x r)) (a2 : Int32) (a3 : Int32) (x : Hs) (r : Int32) (h : gm175_78 k4 k14 a2 a3 x = some r) : Ev 175 (0, 0) (78, [some (.ref 138), none, some (.int a2), some (.int a3)], []) (hp N x) (cvPi N x r) := by
  unfold gm175_78 at h
  refine ev_run (n := 2) (u' := (0, 0)) (f' := (83, [some (.ref 138), none, some (.int a2), some (.int a3)], [.int 1])) (h' := hp N x) rfl ?_
  exact em175_83 k4 k14 q4 q14 a2 a3 1 x _ h
theorem em175_78_k1 {N : Nat} (k4 : Int32 → Int32 → Hs → Option (Int32)) (k14 : Int32 → Int32 → Int32 → Hs → Option (Int32)) (q4 : ∀ (a1 : Int32) (a2 : Int32) (x : Hs) (r : Int32), k4 a1 a2 x = some r → Ev 175 (0, 0) (4, [some (.ref 138), some (.int a1), some (.int a2), none], []) (hp N x) (cvPi N x r)) (q14 : ∀ (a1 : Int32) (a2 : Int32) (a3 : Int32) (x : Hs) (r : Int32), k14 a1 a2 a3 x = some r → Ev 175 (0, 0) (14, [some (.ref 138), some (.int a1), some (.int a2), some (.int a3)], []) (hp N x) (cvPi N x r)) (a1 : Int32) (a2 : Int32) (a3 : Int32) (x : Hs) (r : Int32) (h : gm175_78 k4 k14 a2 a3 x = some r) : Ev 175 (0, 0) (78, [some (.ref 138), some (.int a1), some (.int a2), some (.int a3)], []) (hp N x) (cvPi N x r) := by
  unfold gm175_78 at h
  refine ev_run (n := 2) (u' := (0, 0)) (f' := (83, [some (.ref 138), none, some (.int a2), some (.int a3)], [.int 1])) (h' := hp N x) rfl ?_
  exact em175_83 k4 k14 q4 q14 a2 a3 1 x _ h
def gm175_82 (k4 : Int32 → Int32 → Hs → Option (Int32)) (k14 : Int32 → Int32 → Int32 → Hs → Option (Int32)) (a2 : Int32) (a3 : Int32) (x : Hs) : Option (Int32) := gm175_83 k4 k14 a2 a3 0 x
theorem em175_82 {N : Nat} (k4 : Int32 → Int32 → Hs → Option (Int32)) (k14 : Int32 → Int32 → Int32 → Hs → Option (Int32)) (q4 : ∀ (a1 : Int32) (a2 : Int32) (x : Hs) (r : Int32), k4 a1 a2 x = some r → Ev 175 (0, 0) (4, [some (.ref 138), some (.int a1), some (.int a2), none], []) (hp N x) (cvPi N x r)) (q14 : ∀ (a1 : Int32) (a2 : Int32) (a3 : Int32) (x : Hs) (r : Int32), k14 a1 a2 a3 x = some r → Ev 175 (0, 0) (14, [some (.ref 138), some (.int a1), some (.int a2), some (.int a3)], []) (hp N x) (cvPi N x r)) (a2 : Int32) (a3 : Int32) (x : Hs) (r : Int32) (h : gm175_82 k4 k14 a2 a3 x = some r) : Ev 175 (0, 0) (82, [some (.ref 138), none, some (.int a2), some (.int a3)], []) (hp N x) (cvPi N x r) := by
  unfold gm175_82 at h
  refine ev_run (n := 1) (u' := (0, 0)) (f' := (83, [some (.ref 138), none, some (.int a2), some (.int a3)], [.int 0])) (h' := hp N x) rfl ?_
  exact em175_83 k4 k14 q4 q14 a2 a3 0 x _ h
def gm175_90 (k4 : Int32 → Int32 → Hs → Option (Int32)) (a1 : Int32) (a2 : Int32) (x : Hs) : Option (Int32) := k4 a1 (a2 + 1) x
theorem em175_90 {N : Nat} (k4 : Int32 → Int32 → Hs → Option (Int32)) (q4 : ∀ (a1 : Int32) (a2 : Int32) (x : Hs) (r : Int32), k4 a1 a2 x = some r → Ev 175 (0, 0) (4, [some (.ref 138), some (.int a1), some (.int a2), none], []) (hp N x) (cvPi N x r)) (a1 : Int32) (a2 : Int32) (x : Hs) (r : Int32) (h : gm175_90 k4 a1 a2 x = some r) : Ev 175 (0, 0) (90, [some (.ref 138), some (.int a1), some (.int a2), none], []) (hp N x) (cvPi N x r) := by
  unfold gm175_90 at h
  refine ev_run (n := 2) (u' := (0, 0)) (f' := (4, [some (.ref 138), some (.int a1), some (.int (a2 + 1)), none], [])) (h' := hp N x) rfl ?_
  exact q4 a1 (a2 + 1) x _ h
def gm175_14 (k4 : Int32 → Int32 → Hs → Option (Int32)) : Nat → Int32 → Int32 → Int32 → Hs → Option (Int32)
  | 0, _, _, _, _ => none
  | n + 1, a1, a2, a3, x => if a3 ≥ x.1 138 1 then (gm175_90 k4 a1 a2 x) else (if a1 = 0 then (gm175_82 k4 (gm175_14 k4 n) a2 a3 x) else (cond (aIn a2 5) (if x.1 186 (xi a2) = (-1) then (gm175_78 k4 (gm175_14 k4 n) a2 a3 x) else (cond (aIn a2 5) ((gm115 (x.1 139 (xi a2)) a3 x).bind fun w5 => (if w5 = 0 then (gm175_78 k4 (gm175_14 k4 n) a2 a3 x) else (cond (aIn a3 5) (if x.1 186 (xi a3) = (-1) then (gm175_82 k4 (gm175_14 k4 n) a2 a3 x) else (cond (aIn a2 5) (cond (aIn a3 5) ((gm131 (x.1 186 (xi a2)) (x.1 186 (xi a3)) x).bind fun w10 => (if w10 = 0 then (gm175_82 k4 (gm175_14 k4 n) a2 a3 x) else (gm175_78 k4 (gm175_14 k4 n) a2 a3 x))) none) none)) none))) none)) none))
theorem em175_14 {N : Nat} (k4 : Int32 → Int32 → Hs → Option (Int32)) (q4 : ∀ (a1 : Int32) (a2 : Int32) (x : Hs) (r : Int32), k4 a1 a2 x = some r → Ev 175 (0, 0) (4, [some (.ref 138), some (.int a1), some (.int a2), none], []) (hp N x) (cvPi N x r)) : ∀ (n : Nat) (a1 : Int32) (a2 : Int32) (a3 : Int32) (x : Hs) (r : Int32), gm175_14 k4 n a1 a2 a3 x = some r → Ev 175 (0, 0) (14, [some (.ref 138), some (.int a1), some (.int a2), some (.int a3)], []) (hp N x) (cvPi N x r)
  | 0, a1, a2, a3, x, r, h => by
    have e9 : (none : Option (Int32)) = some r := h
    cases e9
  | n + 1, a1, a2, a3, x, r, h => by
    have q14 := em175_14 k4 q4 (N := N) n
    rw [gm175_14] at h
    refine ev_run (n := 3) (u' := (0, 0)) (f' := (19, [some (.ref 138), some (.int a1), some (.int a2), some (.int a3)], [.int (x.1 138 1), .int a3])) (h' := hp N x) rfl ?_
    rcases ite_or h with ⟨h17, h⟩ | ⟨h17, h⟩
    · refine ev_ict rfl (decide_eq_true h17) ?_
      exact em175_90 k4 q4 a1 a2 x _ h
    · refine ev_icf rfl (decide_eq_false h17) ?_
      refine ev_run (n := 1) (u' := (0, 0)) (f' := (23, [some (.ref 138), some (.int a1), some (.int a2), some (.int a3)], [.int a1])) (h' := hp N x) rfl ?_
      rcases ite_or h with ⟨h16, h⟩ | ⟨h16, h⟩
      · refine ev_ift rfl (decide_eq_true h16) ?_
        exact em175_82 k4 (gm175_14 k4 n) q4 q14 a2 a3 x _ h
      · refine ev_iff rfl (decide_eq_false h16) ?_
        refine ev_run (n := 3) (u' := (0, 0)) (f' := (31, [some (.ref 138), some (.int a1), some (.int a2), some (.int a3)], [.int a2, .ref 186])) (h' := hp N x) rfl ?_
        obtain ⟨h3, h⟩ := cond_some h
        refine ev_iald rfl rfl h3 ?_
        refine ev_run (n := 1) (u' := (0, 0)) (f' := (33, [some (.ref 138), some (.int a1), some (.int a2), some (.int a3)], [.int (-1), .int (x.1 186 (xi a2))])) (h' := hp N x) rfl ?_
        rcases ite_or h with ⟨h15, h⟩ | ⟨h15, h⟩
        · refine ev_ict rfl (decide_eq_true h15) ?_
          exact em175_78 k4 (gm175_14 k4 n) q4 q14 a2 a3 x _ h
        · refine ev_icf rfl (decide_eq_false h15) ?_
          refine ev_run (n := 3) (u' := (0, 0)) (f' := (41, [some (.ref 138), some (.int a1), some (.int a2), some (.int a3)], [.int a2, .ref 139])) (h' := hp N x) rfl ?_
          obtain ⟨h4, h⟩ := cond_some h
          refine ev_iald rfl rfl h4 ?_
          refine ev_run (n := 1) (u' := (0, 0)) (f' := (43, [some (.ref 138), some (.int a1), some (.int a2), some (.int a3)], [.int a3, .int (x.1 139 (xi a2))])) (h' := hp N x) rfl ?_
          obtain ⟨w5, h6, h⟩ := bind_ok h
          refine ev_call (v := some (.int w5)) (h1 := hp N x) rfl rfl rfl rfl (em115 (x.1 139 (xi a2)) a3 x _ h6) ?_
          show Ev 175 (0, 0) (46, [some (.ref 138), some (.int a1), some (.int a2), some (.int a3)], [.int w5]) (hp N x) _
          rcases ite_or h with ⟨h14, h⟩ | ⟨h14, h⟩
          · refine ev_ift rfl (decide_eq_true h14) ?_
            exact em175_78 k4 (gm175_14 k4 n) q4 q14 a2 a3 x _ h
          · refine ev_iff rfl (decide_eq_false h14) ?_
            refine ev_run (n := 3) (u' := (0, 0)) (f' := (54, [some (.ref 138), some (.int a1), some (.int a2), some (.int a3)], [.int a3, .ref 186])) (h' := hp N x) rfl ?_
            obtain ⟨h7, h⟩ := cond_some h
            refine ev_iald rfl rfl h7 ?_
            refine ev_run (n := 1) (u' := (0, 0)) (f' := (56, [some (.ref 138), some (.int a1), some (.int a2), some (.int a3)], [.int (-1), .int (x.1 186 (xi a3))])) (h' := hp N x) rfl ?_
            rcases ite_or h with ⟨h13, h⟩ | ⟨h13, h⟩
            · refine ev_ict rfl (decide_eq_true h13) ?_
              exact em175_82 k4 (gm175_14 k4 n) q4 q14 a2 a3 x _ h
            · refine ev_icf rfl (decide_eq_false h13) ?_
              refine ev_run (n := 4) (u' := (0, 0)) (f' := (65, [some (.ref 138), some (.int a1), some (.int a2), some (.int a3)], [.int a2, .ref 186, .ref 138])) (h' := hp N x) rfl ?_
              obtain ⟨h8, h⟩ := cond_some h
              refine ev_iald rfl rfl h8 ?_
              refine ev_run (n := 3) (u' := (0, 0)) (f' := (71, [some (.ref 138), some (.int a1), some (.int a2), some (.int a3)], [.int a3, .ref 186, .int (x.1 186 (xi a2)), .ref 138])) (h' := hp N x) rfl ?_
              obtain ⟨h9, h⟩ := cond_some h
              refine ev_iald rfl rfl h9 ?_
              obtain ⟨w10, h11, h⟩ := bind_ok h
              refine ev_call (v := some (.int w10)) (h1 := hp N x) rfl rfl rfl rfl (em131 (x.1 186 (xi a2)) (x.1 186 (xi a3)) x _ h11) ?_
              show Ev 175 (0, 0) (75, [some (.ref 138), some (.int a1), some (.int a2), some (.int a3)], [.int w10]) (hp N x) _
              rcases ite_or h with ⟨h12, h⟩ | ⟨h12, h⟩
              · refine ev_ift rfl (decide_eq_true h12) ?_
                exact em175_82 k4 (gm175_14 k4 n) q4 q14 a2 a3 x _ h
              · refine ev_iff rfl (decide_eq_false h12) ?_
                exact em175_78_k1 k4 (gm175_14 k4 n) q4 q14 a1 a2 a3 x _ h
