/-! The methods as functions; printed by dec.py -/
def gm180_6 : Nat → Nat → Int64 → Int32 → Int32 → Hs → Option (Hs)
  | 0, _, _, _, _, _ => none
  | n + 1, a0, a1, a3, a4, x => if a3 ≥ a4 then (some x) else (cond (aIn a3 5) (gm180_6 n a0 a1 (a3 + 1) a4 (wJ x a0 (xi a3) a1)) none)
theorem em180_6 {N : Nat} : ∀ (n : Nat) (a0 : Nat) (a1 : Int64) (a3 : Int32) (a4 : Int32) (fa0 : AL N a0) (x : Hs) (r : Hs), gm180_6 n a0 a1 a3 a4 x = some r → Ev 180 (0, 0) (6, [some (.ref a0), some (.long a1), none, some (.int a3), some (.int a4)], []) (hp N x) (cvMv N r)
  | 0, a0, a1, a3, a4, fa0, x, r, h => by
    have e9 : (none : Option (Hs)) = some r := h
    cases e9
  | n + 1, a0, a1, a3, a4, fa0, x, r, h => by
    have q6 := em180_6 (N := N) n
    rw [gm180_6] at h
    refine ev_run (n := 2) (u' := (0, 0)) (f' := (9, [some (.ref a0), some (.long a1), none, some (.int a3), some (.int a4)], [.int a4, .int a3])) (h' := hp N x) rfl ?_
    rcases ite_or h with ⟨h2, h⟩ | ⟨h2, h⟩
    · refine ev_ict rfl (decide_eq_true h2) ?_
      cases h
      exact ev_vret rfl rfl rfl
    · refine ev_icf rfl (decide_eq_false h2) ?_
      refine ev_run (n := 3) (u' := (0, 0)) (f' := (15, [some (.ref a0), some (.long a1), none, some (.int a3), some (.int a4)], [.long a1, .int a3, .ref a0])) (h' := hp N x) rfl ?_
      obtain ⟨h1, h⟩ := cond_some h
      refine ev_last rfl fa0.1 (fa0.ln h1) ?_
      show Ev 180 (0, 0) (16, [some (.ref a0), some (.long a1), none, some (.int a3), some (.int a4)], []) (hp N (wJ x a0 (xi a3) a1)) _
      refine ev_run (n := 2) (u' := (0, 0)) (f' := (6, [some (.ref a0), some (.long a1), none, some (.int (a3 + 1)), some (.int a4)], [])) (h' := hp N (wJ x a0 (xi a3) a1)) rfl ?_
      exact q6 a0 a1 (a3 + 1) a4 fa0 (wJ x a0 (xi a3) a1) _ h
def gm180 (a0 : Nat) (a1 : Int64) (x : Hs) : Option (Hs) := gm180_6 FU a0 a1 0 (Int32.ofNat 5) x
theorem em180 {N : Nat} (a0 : Nat) (a1 : Int64) (fa0 : AL N a0) (x : Hs) (r : Hs) (h : gm180 a0 a1 x = some r) : Ev 180 (0, 0) (0, aPad [.ref a0, .long a1] 5, []) (hp N x) (cvMv N r) := by
  show Ev 180 (0, 0) (0, [some (.ref a0), some (.long a1), none, none, none], []) (hp N x) _
  unfold gm180 at h
  refine ev_run (n := 3) (u' := (0, 0)) (f' := (3, [some (.ref a0), some (.long a1), none, some (.int 0), none], [.ref a0])) (h' := hp N x) rfl ?_
  refine ev_alen rfl fa0.al ?_
  refine ev_run (n := 1) (u' := (0, 0)) (f' := (6, [some (.ref a0), some (.long a1), none, some (.int 0), some (.int (Int32.ofNat 5))], [])) (h' := hp N x) rfl ?_
  exact em180_6 FU a0 a1 0 (Int32.ofNat 5) fa0 x _ h
def gm1 (x : Hs) : Option (Hs) := (gm180 105 0 x).bind fun w1 => ((gm180 106 0 w1).bind fun w3 => (some w3))
theorem em1 {N : Nat} (x : Hs) (r : Hs) (h : gm1 x = some r) : Ev 1 (0, 0) (0, aPad [.ref 103] 1, []) (hp N x) (cvMv N r) := by
  show Ev 1 (0, 0) (0, [some (.ref 103)], []) (hp N x) _
  unfold gm1 at h
  refine ev_run (n := 3) (u' := (0, 0)) (f' := (5, [some (.ref 103)], [.long 0, .ref 105])) (h' := hp N x) rfl ?_
  obtain ⟨w1, h2, h⟩ := bind_ok h
  refine ev_call (v := none) (h1 := hp N w1) rfl rfl rfl rfl (em180 105 0 (⟨rfl, rfl⟩) x _ h2) ?_
  show Ev 1 (0, 0) (8, [some (.ref 103)], []) (hp N w1) _
  refine ev_run (n := 3) (u' := (0, 0)) (f' := (13, [some (.ref 103)], [.long 0, .ref 106])) (h' := hp N w1) rfl ?_
  obtain ⟨w3, h4, h⟩ := bind_ok h
  refine ev_call (v := none) (h1 := hp N w3) rfl rfl rfl rfl (em180 106 0 (⟨rfl, rfl⟩) w1 _ h4) ?_
  show Ev 1 (0, 0) (16, [some (.ref 103)], []) (hp N w3) _
  cases h
  exact ev_vret rfl rfl rfl
def gm2 (a1 : Int32) (a2 : Int32) (a3 : Int32) (x : Hs) : Option (Hs) := cond (aIn a1 5) (cond (aIn a1 5) (cond (aIn a1 5) (cond (aIn a1 5) (some (wJ (wJ x 105 (xi a1) (x.2.1 105 (xi a1) + (Int32.toInt64 a2))) 106 (xi a1) ((wJ x 105 (xi a1) (x.2.1 105 (xi a1) + (Int32.toInt64 a2))).2.1 106 (xi a1) + (Int32.toInt64 a3)))) none) none) none) none
theorem em2 {N : Nat} (a1 : Int32) (a2 : Int32) (a3 : Int32) (x : Hs) (r : Hs) (h : gm2 a1 a2 a3 x = some r) : Ev 2 (0, 0) (0, aPad [.ref 103, .int a1, .int a2, .int a3] 4, []) (hp N x) (cvMv N r) := by
  show Ev 2 (0, 0) (0, [some (.ref 103), some (.int a1), some (.int a2), some (.int a3)], []) (hp N x) _
  unfold gm2 at h
  refine ev_run (n := 4) (u' := (0, 0)) (f' := (6, [some (.ref 103), some (.int a1), some (.int a2), some (.int a3)], [.int a1, .ref 105, .int a1, .ref 105])) (h' := hp N x) rfl ?_
  obtain ⟨h1, h⟩ := cond_some h
  refine ev_lald rfl rfl h1 ?_
  refine ev_run (n := 3) (u' := (0, 0)) (f' := (10, [some (.ref 103), some (.int a1), some (.int a2), some (.int a3)], [.long (x.2.1 105 (xi a1) + (Int32.toInt64 a2)), .int a1, .ref 105])) (h' := hp N x) rfl ?_
  obtain ⟨h2, h⟩ := cond_some h
  refine ev_last rfl rfl h2 ?_
  show Ev 2 (0, 0) (11, [some (.ref 103), some (.int a1), some (.int a2), some (.int a3)], []) (hp N (wJ x 105 (xi a1) (x.2.1 105 (xi a1) + (Int32.toInt64 a2)))) _
  refine ev_run (n := 4) (u' := (0, 0)) (f' := (17, [some (.ref 103), some (.int a1), some (.int a2), some (.int a3)], [.int a1, .ref 106, .int a1, .ref 106])) (h' := hp N (wJ x 105 (xi a1) (x.2.1 105 (xi a1) + (Int32.toInt64 a2)))) rfl ?_
  obtain ⟨h3, h⟩ := cond_some h
  refine ev_lald rfl rfl h3 ?_
  refine ev_run (n := 3) (u' := (0, 0)) (f' := (21, [some (.ref 103), some (.int a1), some (.int a2), some (.int a3)], [.long ((wJ x 105 (xi a1) (x.2.1 105 (xi a1) + (Int32.toInt64 a2))).2.1 106 (xi a1) + (Int32.toInt64 a3)), .int a1, .ref 106])) (h' := hp N (wJ x 105 (xi a1) (x.2.1 105 (xi a1) + (Int32.toInt64 a2)))) rfl ?_
  obtain ⟨h4, h⟩ := cond_some h
  refine ev_last rfl rfl h4 ?_
  show Ev 2 (0, 0) (22, [some (.ref 103), some (.int a1), some (.int a2), some (.int a3)], []) (hp N (wJ (wJ x 105 (xi a1) (x.2.1 105 (xi a1) + (Int32.toInt64 a2))) 106 (xi a1) ((wJ x 105 (xi a1) (x.2.1 105 (xi a1) + (Int32.toInt64 a2))).2.1 106 (xi a1) + (Int32.toInt64 a3)))) _
  cases h
  exact ev_vret rfl rfl rfl
def gm3 (a1 : Int32) (x : Hs) : Option (Int32) := cond (aIn a1 5) (if (lg_cmp (x.2.1 105 (xi a1)) 0) ≤ 0 then (some 0) else (cond (aIn a1 5) (cond (aIn a1 5) (cond (aIn a1 5) (if (lg_cmp (1000 * x.2.1 106 (xi a1)) ((Int32.toInt64 (x.1 104 (xi a1))) * x.2.1 105 (xi a1))) ≤ 0 then (some 0) else (some 1)) none) none) none)) none
theorem em3 {N : Nat} (a1 : Int32) (x : Hs) (r : Int32) (h : gm3 a1 x = some r) : Ev 3 (0, 0) (0, aPad [.ref 103, .int a1] 2, []) (hp N x) (cvPi N x r) := by
  show Ev 3 (0, 0) (0, [some (.ref 103), some (.int a1)], []) (hp N x) _
  unfold gm3 at h
  refine ev_run (n := 3) (u' := (0, 0)) (f' := (5, [some (.ref 103), some (.int a1)], [.int a1, .ref 105])) (h' := hp N x) rfl ?_
  obtain ⟨h1, h⟩ := cond_some h
  refine ev_lald rfl rfl h1 ?_
  refine ev_run (n := 2) (u' := (0, 0)) (f' := (8, [some (.ref 103), some (.int a1)], [.int (lg_cmp (x.2.1 105 (xi a1)) 0)])) (h' := hp N x) rfl ?_
  rcases ite_or h with ⟨h6, h⟩ | ⟨h6, h⟩
  · refine ev_ift rfl (decide_eq_true h6) ?_
    refine ev_run (n := 1) (u' := (0, 0)) (f' := (44, [none, none], [.int 0])) (h' := hp N x) rfl ?_
    cases h
    exact ev_iret rfl rfl rfl (Or.inr ⟨rfl, rfl⟩)
  · refine ev_iff rfl (decide_eq_false h6) ?_
    refine ev_run (n := 4) (u' := (0, 0)) (f' := (19, [some (.ref 103), some (.int a1)], [.int a1, .ref 106, .long 1000])) (h' := hp N x) rfl ?_
    obtain ⟨h2, h⟩ := cond_some h
    refine ev_lald rfl rfl h2 ?_
    refine ev_run (n := 4) (u' := (0, 0)) (f' := (26, [some (.ref 103), some (.int a1)], [.int a1, .ref 104, .long (1000 * x.2.1 106 (xi a1))])) (h' := hp N x) rfl ?_
    obtain ⟨h3, h⟩ := cond_some h
    refine ev_iald rfl rfl h3 ?_
    refine ev_run (n := 4) (u' := (0, 0)) (f' := (33, [some (.ref 103), some (.int a1)], [.int a1, .ref 105, .long (Int32.toInt64 (x.1 104 (xi a1))), .long (1000 * x.2.1 106 (xi a1))])) (h' := hp N x) rfl ?_
    obtain ⟨h4, h⟩ := cond_some h
    refine ev_lald rfl rfl h4 ?_
    refine ev_run (n := 2) (u' := (0, 0)) (f' := (36, [some (.ref 103), some (.int a1)], [.int (lg_cmp (1000 * x.2.1 106 (xi a1)) ((Int32.toInt64 (x.1 104 (xi a1))) * x.2.1 105 (xi a1)))])) (h' := hp N x) rfl ?_
    rcases ite_or h with ⟨h5, h⟩ | ⟨h5, h⟩
    · refine ev_ift rfl (decide_eq_true h5) ?_
      refine ev_run (n := 1) (u' := (0, 0)) (f' := (44, [none, none], [.int 0])) (h' := hp N x) rfl ?_
      cases h
      exact ev_iret rfl rfl rfl (Or.inr ⟨rfl, rfl⟩)
    · refine ev_iff rfl (decide_eq_false h5) ?_
      refine ev_run (n := 2) (u' := (0, 0)) (f' := (44, [none, none], [.int 1])) (h' := hp N x) rfl ?_
      cases h
      exact ev_iret rfl rfl rfl (Or.inr ⟨rfl, rfl⟩)
def gm4 (a1 : Int32) (x : Hs) : Option (UInt32) := cond (aIn a1 5) (cond (aIn a1 5) (if (lg_cmp ((Int32.toInt64 (x.1 104 (xi a1))) * x.2.1 105 (xi a1)) 0) ≤ 0 then (some FP.fconst0) else (cond (aIn a1 5) (cond (aN32 (FP.fdiv (FP.l2f (1000 * x.2.1 106 (xi a1))) (FP.l2f ((Int32.toInt64 (x.1 104 (xi a1))) * x.2.1 105 (xi a1))))) (some (FP.fdiv (FP.l2f (1000 * x.2.1 106 (xi a1))) (FP.l2f ((Int32.toInt64 (x.1 104 (xi a1))) * x.2.1 105 (xi a1))))) none) none)) none) none
theorem em4 {N : Nat} (a1 : Int32) (x : Hs) (r : UInt32) (h : gm4 a1 x = some r) : Ev 4 (0, 0) (0, aPad [.ref 103, .int a1] 4, []) (hp N x) (cvPf N x r) := by
  show Ev 4 (0, 0) (0, [some (.ref 103), some (.int a1), none, none], []) (hp N x) _
  unfold gm4 at h
  refine ev_run (n := 3) (u' := (0, 0)) (f' := (5, [some (.ref 103), some (.int a1), none, none], [.int a1, .ref 104])) (h' := hp N x) rfl ?_
  obtain ⟨h1, h⟩ := cond_some h
  refine ev_iald rfl rfl h1 ?_
  refine ev_run (n := 4) (u' := (0, 0)) (f' := (12, [some (.ref 103), some (.int a1), none, none], [.int a1, .ref 105, .long (Int32.toInt64 (x.1 104 (xi a1)))])) (h' := hp N x) rfl ?_
  obtain ⟨h2, h⟩ := cond_some h
  refine ev_lald rfl rfl h2 ?_
  refine ev_run (n := 5) (u' := (0, 0)) (f' := (18, [some (.ref 103), some (.int a1), some (.long ((Int32.toInt64 (x.1 104 (xi a1))) * x.2.1 105 (xi a1))), none], [.int (lg_cmp ((Int32.toInt64 (x.1 104 (xi a1))) * x.2.1 105 (xi a1)) 0)])) (h' := hp N x) rfl ?_
  rcases ite_or h with ⟨h5, h⟩ | ⟨h5, h⟩
  · refine ev_ift rfl (decide_eq_true h5) ?_
    refine ev_run (n := 1) (u' := (0, 0)) (f' := (39, [none, none, none, none], [.float FP.fconst0])) (h' := hp N x) rfl ?_
    cases h
    exact ev_fret rfl rfl rfl
  · refine ev_iff rfl (decide_eq_false h5) ?_
    refine ev_run (n := 4) (u' := (0, 0)) (f' := (29, [some (.ref 103), some (.int a1), some (.long ((Int32.toInt64 (x.1 104 (xi a1))) * x.2.1 105 (xi a1))), none], [.int a1, .ref 106, .long 1000])) (h' := hp N x) rfl ?_
    obtain ⟨h3, h⟩ := cond_some h
    refine ev_lald rfl rfl h3 ?_
    refine ev_run (n := 4) (u' := (0, 0)) (f' := (34, [some (.ref 103), some (.int a1), some (.long ((Int32.toInt64 (x.1 104 (xi a1))) * x.2.1 105 (xi a1))), none], [.float (FP.l2f ((Int32.toInt64 (x.1 104 (xi a1))) * x.2.1 105 (xi a1))), .float (FP.l2f (1000 * x.2.1 106 (xi a1)))])) (h' := hp N x) rfl ?_
    obtain ⟨h4, h⟩ := cond_some h
    refine ev_fdiv rfl h4 ?_
    refine ev_run (n := 1) (u' := (0, 0)) (f' := (39, [none, none, none, none], [.float (FP.fdiv (FP.l2f (1000 * x.2.1 106 (xi a1))) (FP.l2f ((Int32.toInt64 (x.1 104 (xi a1))) * x.2.1 105 (xi a1))))])) (h' := hp N x) rfl ?_
    cases h
    exact ev_fret rfl rfl rfl
def gm6 (x : Hs) : Option (Int32 × Hs) := some (((wI x 2 0 (x.1 2 0 + 1)).1 2 0 - 1), (wI x 2 0 (x.1 2 0 + 1)))
theorem em6 {N : Nat} (x : Hs) (r : Int32 × Hs) (h : gm6 x = some r) : Ev 6 (0, 0) (0, aPad [.ref 2] 1, []) (hp N x) (cvMi N r) := by
  show Ev 6 (0, 0) (0, [some (.ref 2)], []) (hp N x) _
  unfold gm6 at h
  refine ev_run (n := 10) (u' := (0, 0)) (f' := (16, [some (.ref 2)], [.int ((wI x 2 0 (x.1 2 0 + 1)).1 2 0 - 1)])) (h' := hp N (wI x 2 0 (x.1 2 0 + 1))) rfl ?_
  cases h
  exact ev_iret rfl rfl rfl (Or.inl rfl)
def gm7 (a1 : Int32) (a2 : Int32) (x : Hs) : Option (Int32) := cond (aIn a1 5) (if (x.1 3 (xi a1) &&& (1 <<< (a2 &&& 31))) = 0 then (some 0) else (some 1)) none
theorem em7 {N : Nat} (a1 : Int32) (a2 : Int32) (x : Hs) (r : Int32) (h : gm7 a1 a2 x = some r) : Ev 7 (0, 0) (0, aPad [.ref 2, .int a1, .int a2] 3, []) (hp N x) (cvPi N x r) := by
  show Ev 7 (0, 0) (0, [some (.ref 2), some (.int a1), some (.int a2)], []) (hp N x) _
  unfold gm7 at h
  refine ev_run (n := 3) (u' := (0, 0)) (f' := (5, [some (.ref 2), some (.int a1), some (.int a2)], [.int a1, .ref 3])) (h' := hp N x) rfl ?_
  obtain ⟨h1, h⟩ := cond_some h
  refine ev_iald rfl rfl h1 ?_
  refine ev_run (n := 4) (u' := (0, 0)) (f' := (10, [some (.ref 2), some (.int a1), some (.int a2)], [.int (x.1 3 (xi a1) &&& (1 <<< (a2 &&& 31)))])) (h' := hp N x) rfl ?_
  rcases ite_or h with ⟨h2, h⟩ | ⟨h2, h⟩
  · refine ev_ift rfl (decide_eq_true h2) ?_
    refine ev_run (n := 1) (u' := (0, 0)) (f' := (18, [none, none, none], [.int 0])) (h' := hp N x) rfl ?_
    cases h
    exact ev_iret rfl rfl rfl (Or.inr ⟨rfl, rfl⟩)
  · refine ev_iff rfl (decide_eq_false h2) ?_
    refine ev_run (n := 2) (u' := (0, 0)) (f' := (18, [none, none, none], [.int 1])) (h' := hp N x) rfl ?_
    cases h
    exact ev_iret rfl rfl rfl (Or.inr ⟨rfl, rfl⟩)
def gm179 (a0 : Int32) (x : Hs) : Option (Int32) := some ((((((((a0 - (((Int32.toUInt32 a0) >>> ((Int32.toUInt32 1) &&& Int32.toUInt32 31)).toInt32 &&& 1431655765)) &&& 858993459) + (((Int32.toUInt32 (a0 - (((Int32.toUInt32 a0) >>> ((Int32.toUInt32 1) &&& Int32.toUInt32 31)).toInt32 &&& 1431655765))) >>> ((Int32.toUInt32 2) &&& Int32.toUInt32 31)).toInt32 &&& 858993459)) + ((Int32.toUInt32 (((a0 - (((Int32.toUInt32 a0) >>> ((Int32.toUInt32 1) &&& Int32.toUInt32 31)).toInt32 &&& 1431655765)) &&& 858993459) + (((Int32.toUInt32 (a0 - (((Int32.toUInt32 a0) >>> ((Int32.toUInt32 1) &&& Int32.toUInt32 31)).toInt32 &&& 1431655765))) >>> ((Int32.toUInt32 2) &&& Int32.toUInt32 31)).toInt32 &&& 858993459))) >>> ((Int32.toUInt32 4) &&& Int32.toUInt32 31)).toInt32) &&& 252645135) + ((Int32.toUInt32 (((((a0 - (((Int32.toUInt32 a0) >>> ((Int32.toUInt32 1) &&& Int32.toUInt32 31)).toInt32 &&& 1431655765)) &&& 858993459) + (((Int32.toUInt32 (a0 - (((Int32.toUInt32 a0) >>> ((Int32.toUInt32 1) &&& Int32.toUInt32 31)).toInt32 &&& 1431655765))) >>> ((Int32.toUInt32 2) &&& Int32.toUInt32 31)).toInt32 &&& 858993459)) + ((Int32.toUInt32 (((a0 - (((Int32.toUInt32 a0) >>> ((Int32.toUInt32 1) &&& Int32.toUInt32 31)).toInt32 &&& 1431655765)) &&& 858993459) + (((Int32.toUInt32 (a0 - (((Int32.toUInt32 a0) >>> ((Int32.toUInt32 1) &&& Int32.toUInt32 31)).toInt32 &&& 1431655765))) >>> ((Int32.toUInt32 2) &&& Int32.toUInt32 31)).toInt32 &&& 858993459))) >>> ((Int32.toUInt32 4) &&& Int32.toUInt32 31)).toInt32) &&& 252645135)) >>> ((Int32.toUInt32 8) &&& Int32.toUInt32 31)).toInt32) + ((Int32.toUInt32 ((((((a0 - (((Int32.toUInt32 a0) >>> ((Int32.toUInt32 1) &&& Int32.toUInt32 31)).toInt32 &&& 1431655765)) &&& 858993459) + (((Int32.toUInt32 (a0 - (((Int32.toUInt32 a0) >>> ((Int32.toUInt32 1) &&& Int32.toUInt32 31)).toInt32 &&& 1431655765))) >>> ((Int32.toUInt32 2) &&& Int32.toUInt32 31)).toInt32 &&& 858993459)) + ((Int32.toUInt32 (((a0 - (((Int32.toUInt32 a0) >>> ((Int32.toUInt32 1) &&& Int32.toUInt32 31)).toInt32 &&& 1431655765)) &&& 858993459) + (((Int32.toUInt32 (a0 - (((Int32.toUInt32 a0) >>> ((Int32.toUInt32 1) &&& Int32.toUInt32 31)).toInt32 &&& 1431655765))) >>> ((Int32.toUInt32 2) &&& Int32.toUInt32 31)).toInt32 &&& 858993459))) >>> ((Int32.toUInt32 4) &&& Int32.toUInt32 31)).toInt32) &&& 252645135) + ((Int32.toUInt32 (((((a0 - (((Int32.toUInt32 a0) >>> ((Int32.toUInt32 1) &&& Int32.toUInt32 31)).toInt32 &&& 1431655765)) &&& 858993459) + (((Int32.toUInt32 (a0 - (((Int32.toUInt32 a0) >>> ((Int32.toUInt32 1) &&& Int32.toUInt32 31)).toInt32 &&& 1431655765))) >>> ((Int32.toUInt32 2) &&& Int32.toUInt32 31)).toInt32 &&& 858993459)) + ((Int32.toUInt32 (((a0 - (((Int32.toUInt32 a0) >>> ((Int32.toUInt32 1) &&& Int32.toUInt32 31)).toInt32 &&& 1431655765)) &&& 858993459) + (((Int32.toUInt32 (a0 - (((Int32.toUInt32 a0) >>> ((Int32.toUInt32 1) &&& Int32.toUInt32 31)).toInt32 &&& 1431655765))) >>> ((Int32.toUInt32 2) &&& Int32.toUInt32 31)).toInt32 &&& 858993459))) >>> ((Int32.toUInt32 4) &&& Int32.toUInt32 31)).toInt32) &&& 252645135)) >>> ((Int32.toUInt32 8) &&& Int32.toUInt32 31)).toInt32)) >>> ((Int32.toUInt32 16) &&& Int32.toUInt32 31)).toInt32) &&& 63)
theorem em179 {N : Nat} (a0 : Int32) (x : Hs) (r : Int32) (h : gm179 a0 x = some r) : Ev 179 (0, 0) (0, aPad [.int a0] 1, []) (hp N x) (cvPi N x r) := by
  show Ev 179 (0, 0) (0, [some (.int a0)], []) (hp N x) _
  unfold gm179 at h
  refine ev_run (n := 41) (u' := (0, 0)) (f' := (52, [some (.int (((((((a0 - (((Int32.toUInt32 a0) >>> ((Int32.toUInt32 1) &&& Int32.toUInt32 31)).toInt32 &&& 1431655765)) &&& 858993459) + (((Int32.toUInt32 (a0 - (((Int32.toUInt32 a0) >>> ((Int32.toUInt32 1) &&& Int32.toUInt32 31)).toInt32 &&& 1431655765))) >>> ((Int32.toUInt32 2) &&& Int32.toUInt32 31)).toInt32 &&& 858993459)) + ((Int32.toUInt32 (((a0 - (((Int32.toUInt32 a0) >>> ((Int32.toUInt32 1) &&& Int32.toUInt32 31)).toInt32 &&& 1431655765)) &&& 858993459) + (((Int32.toUInt32 (a0 - (((Int32.toUInt32 a0) >>> ((Int32.toUInt32 1) &&& Int32.toUInt32 31)).toInt32 &&& 1431655765))) >>> ((Int32.toUInt32 2) &&& Int32.toUInt32 31)).toInt32 &&& 858993459))) >>> ((Int32.toUInt32 4) &&& Int32.toUInt32 31)).toInt32) &&& 252645135) + ((Int32.toUInt32 (((((a0 - (((Int32.toUInt32 a0) >>> ((Int32.toUInt32 1) &&& Int32.toUInt32 31)).toInt32 &&& 1431655765)) &&& 858993459) + (((Int32.toUInt32 (a0 - (((Int32.toUInt32 a0) >>> ((Int32.toUInt32 1) &&& Int32.toUInt32 31)).toInt32 &&& 1431655765))) >>> ((Int32.toUInt32 2) &&& Int32.toUInt32 31)).toInt32 &&& 858993459)) + ((Int32.toUInt32 (((a0 - (((Int32.toUInt32 a0) >>> ((Int32.toUInt32 1) &&& Int32.toUInt32 31)).toInt32 &&& 1431655765)) &&& 858993459) + (((Int32.toUInt32 (a0 - (((Int32.toUInt32 a0) >>> ((Int32.toUInt32 1) &&& Int32.toUInt32 31)).toInt32 &&& 1431655765))) >>> ((Int32.toUInt32 2) &&& Int32.toUInt32 31)).toInt32 &&& 858993459))) >>> ((Int32.toUInt32 4) &&& Int32.toUInt32 31)).toInt32) &&& 252645135)) >>> ((Int32.toUInt32 8) &&& Int32.toUInt32 31)).toInt32) + ((Int32.toUInt32 ((((((a0 - (((Int32.toUInt32 a0) >>> ((Int32.toUInt32 1) &&& Int32.toUInt32 31)).toInt32 &&& 1431655765)) &&& 858993459) + (((Int32.toUInt32 (a0 - (((Int32.toUInt32 a0) >>> ((Int32.toUInt32 1) &&& Int32.toUInt32 31)).toInt32 &&& 1431655765))) >>> ((Int32.toUInt32 2) &&& Int32.toUInt32 31)).toInt32 &&& 858993459)) + ((Int32.toUInt32 (((a0 - (((Int32.toUInt32 a0) >>> ((Int32.toUInt32 1) &&& Int32.toUInt32 31)).toInt32 &&& 1431655765)) &&& 858993459) + (((Int32.toUInt32 (a0 - (((Int32.toUInt32 a0) >>> ((Int32.toUInt32 1) &&& Int32.toUInt32 31)).toInt32 &&& 1431655765))) >>> ((Int32.toUInt32 2) &&& Int32.toUInt32 31)).toInt32 &&& 858993459))) >>> ((Int32.toUInt32 4) &&& Int32.toUInt32 31)).toInt32) &&& 252645135) + ((Int32.toUInt32 (((((a0 - (((Int32.toUInt32 a0) >>> ((Int32.toUInt32 1) &&& Int32.toUInt32 31)).toInt32 &&& 1431655765)) &&& 858993459) + (((Int32.toUInt32 (a0 - (((Int32.toUInt32 a0) >>> ((Int32.toUInt32 1) &&& Int32.toUInt32 31)).toInt32 &&& 1431655765))) >>> ((Int32.toUInt32 2) &&& Int32.toUInt32 31)).toInt32 &&& 858993459)) + ((Int32.toUInt32 (((a0 - (((Int32.toUInt32 a0) >>> ((Int32.toUInt32 1) &&& Int32.toUInt32 31)).toInt32 &&& 1431655765)) &&& 858993459) + (((Int32.toUInt32 (a0 - (((Int32.toUInt32 a0) >>> ((Int32.toUInt32 1) &&& Int32.toUInt32 31)).toInt32 &&& 1431655765))) >>> ((Int32.toUInt32 2) &&& Int32.toUInt32 31)).toInt32 &&& 858993459))) >>> ((Int32.toUInt32 4) &&& Int32.toUInt32 31)).toInt32) &&& 252645135)) >>> ((Int32.toUInt32 8) &&& Int32.toUInt32 31)).toInt32)) >>> ((Int32.toUInt32 16) &&& Int32.toUInt32 31)).toInt32))], [.int ((((((((a0 - (((Int32.toUInt32 a0) >>> ((Int32.toUInt32 1) &&& Int32.toUInt32 31)).toInt32 &&& 1431655765)) &&& 858993459) + (((Int32.toUInt32 (a0 - (((Int32.toUInt32 a0) >>> ((Int32.toUInt32 1) &&& Int32.toUInt32 31)).toInt32 &&& 1431655765))) >>> ((Int32.toUInt32 2) &&& Int32.toUInt32 31)).toInt32 &&& 858993459)) + ((Int32.toUInt32 (((a0 - (((Int32.toUInt32 a0) >>> ((Int32.toUInt32 1) &&& Int32.toUInt32 31)).toInt32 &&& 1431655765)) &&& 858993459) + (((Int32.toUInt32 (a0 - (((Int32.toUInt32 a0) >>> ((Int32.toUInt32 1) &&& Int32.toUInt32 31)).toInt32 &&& 1431655765))) >>> ((Int32.toUInt32 2) &&& Int32.toUInt32 31)).toInt32 &&& 858993459))) >>> ((Int32.toUInt32 4) &&& Int32.toUInt32 31)).toInt32) &&& 252645135) + ((Int32.toUInt32 (((((a0 - (((Int32.toUInt32 a0) >>> ((Int32.toUInt32 1) &&& Int32.toUInt32 31)).toInt32 &&& 1431655765)) &&& 858993459) + (((Int32.toUInt32 (a0 - (((Int32.toUInt32 a0) >>> ((Int32.toUInt32 1) &&& Int32.toUInt32 31)).toInt32 &&& 1431655765))) >>> ((Int32.toUInt32 2) &&& Int32.toUInt32 31)).toInt32 &&& 858993459)) + ((Int32.toUInt32 (((a0 - (((Int32.toUInt32 a0) >>> ((Int32.toUInt32 1) &&& Int32.toUInt32 31)).toInt32 &&& 1431655765)) &&& 858993459) + (((Int32.toUInt32 (a0 - (((Int32.toUInt32 a0) >>> ((Int32.toUInt32 1) &&& Int32.toUInt32 31)).toInt32 &&& 1431655765))) >>> ((Int32.toUInt32 2) &&& Int32.toUInt32 31)).toInt32 &&& 858993459))) >>> ((Int32.toUInt32 4) &&& Int32.toUInt32 31)).toInt32) &&& 252645135)) >>> ((Int32.toUInt32 8) &&& Int32.toUInt32 31)).toInt32) + ((Int32.toUInt32 ((((((a0 - (((Int32.toUInt32 a0) >>> ((Int32.toUInt32 1) &&& Int32.toUInt32 31)).toInt32 &&& 1431655765)) &&& 858993459) + (((Int32.toUInt32 (a0 - (((Int32.toUInt32 a0) >>> ((Int32.toUInt32 1) &&& Int32.toUInt32 31)).toInt32 &&& 1431655765))) >>> ((Int32.toUInt32 2) &&& Int32.toUInt32 31)).toInt32 &&& 858993459)) + ((Int32.toUInt32 (((a0 - (((Int32.toUInt32 a0) >>> ((Int32.toUInt32 1) &&& Int32.toUInt32 31)).toInt32 &&& 1431655765)) &&& 858993459) + (((Int32.toUInt32 (a0 - (((Int32.toUInt32 a0) >>> ((Int32.toUInt32 1) &&& Int32.toUInt32 31)).toInt32 &&& 1431655765))) >>> ((Int32.toUInt32 2) &&& Int32.toUInt32 31)).toInt32 &&& 858993459))) >>> ((Int32.toUInt32 4) &&& Int32.toUInt32 31)).toInt32) &&& 252645135) + ((Int32.toUInt32 (((((a0 - (((Int32.toUInt32 a0) >>> ((Int32.toUInt32 1) &&& Int32.toUInt32 31)).toInt32 &&& 1431655765)) &&& 858993459) + (((Int32.toUInt32 (a0 - (((Int32.toUInt32 a0) >>> ((Int32.toUInt32 1) &&& Int32.toUInt32 31)).toInt32 &&& 1431655765))) >>> ((Int32.toUInt32 2) &&& Int32.toUInt32 31)).toInt32 &&& 858993459)) + ((Int32.toUInt32 (((a0 - (((Int32.toUInt32 a0) >>> ((Int32.toUInt32 1) &&& Int32.toUInt32 31)).toInt32 &&& 1431655765)) &&& 858993459) + (((Int32.toUInt32 (a0 - (((Int32.toUInt32 a0) >>> ((Int32.toUInt32 1) &&& Int32.toUInt32 31)).toInt32 &&& 1431655765))) >>> ((Int32.toUInt32 2) &&& Int32.toUInt32 31)).toInt32 &&& 858993459))) >>> ((Int32.toUInt32 4) &&& Int32.toUInt32 31)).toInt32) &&& 252645135)) >>> ((Int32.toUInt32 8) &&& Int32.toUInt32 31)).toInt32)) >>> ((Int32.toUInt32 16) &&& Int32.toUInt32 31)).toInt32) &&& 63)])) (h' := hp N x) rfl ?_
  cases h
  exact ev_iret rfl rfl rfl (Or.inl rfl)
def gm8 (a1 : Int32) (a2 : Int32) (x : Hs) : Option (Int32 × Hs) := cond (aIn a1 5) (cond (aIn a1 5) (cond (aIn a1 5) ((gm179 ((wI x 3 (xi a1) (x.1 3 (xi a1) ||| (1 <<< (a2 &&& 31)))).1 3 (xi a1)) (wI x 3 (xi a1) (x.1 3 (xi a1) ||| (1 <<< (a2 &&& 31))))).bind fun w4 => (some (w4, (wI x 3 (xi a1) (x.1 3 (xi a1) ||| (1 <<< (a2 &&& 31))))))) none) none) none
theorem em8 {N : Nat} (a1 : Int32) (a2 : Int32) (x : Hs) (r : Int32 × Hs) (h : gm8 a1 a2 x = some r) : Ev 8 (0, 0) (0, aPad [.ref 2, .int a1, .int a2] 3, []) (hp N x) (cvMi N r) := by
  show Ev 8 (0, 0) (0, [some (.ref 2), some (.int a1), some (.int a2)], []) (hp N x) _
  unfold gm8 at h
  refine ev_run (n := 4) (u' := (0, 0)) (f' := (6, [some (.ref 2), some (.int a1), some (.int a2)], [.int a1, .ref 3, .int a1, .ref 3])) (h' := hp N x) rfl ?_
  obtain ⟨h1, h⟩ := cond_some h
  refine ev_iald rfl rfl h1 ?_
  refine ev_run (n := 4) (u' := (0, 0)) (f' := (11, [some (.ref 2), some (.int a1), some (.int a2)], [.int (x.1 3 (xi a1) ||| (1 <<< (a2 &&& 31))), .int a1, .ref 3])) (h' := hp N x) rfl ?_
  obtain ⟨h2, h⟩ := cond_some h
  refine ev_iast rfl rfl h2 ?_
  show Ev 8 (0, 0) (12, [some (.ref 2), some (.int a1), some (.int a2)], []) (hp N (wI x 3 (xi a1) (x.1 3 (xi a1) ||| (1 <<< (a2 &&& 31))))) _
  refine ev_run (n := 3) (u' := (0, 0)) (f' := (17, [some (.ref 2), some (.int a1), some (.int a2)], [.int a1, .ref 3])) (h' := hp N (wI x 3 (xi a1) (x.1 3 (xi a1) ||| (1 <<< (a2 &&& 31))))) rfl ?_
  obtain ⟨h3, h⟩ := cond_some h
  refine ev_iald rfl rfl h3 ?_
  obtain ⟨w4, h5, h⟩ := bind_ok h
  refine ev_call (v := some (.int w4)) (h1 := hp N (wI x 3 (xi a1) (x.1 3 (xi a1) ||| (1 <<< (a2 &&& 31))))) rfl rfl rfl rfl (em179 ((wI x 3 (xi a1) (x.1 3 (xi a1) ||| (1 <<< (a2 &&& 31)))).1 3 (xi a1)) (wI x 3 (xi a1) (x.1 3 (xi a1) ||| (1 <<< (a2 &&& 31)))) _ h5) ?_
  show Ev 8 (0, 0) (21, [some (.ref 2), some (.int a1), some (.int a2)], [.int w4]) (hp N (wI x 3 (xi a1) (x.1 3 (xi a1) ||| (1 <<< (a2 &&& 31))))) _
  cases h
  exact ev_iret rfl rfl rfl (Or.inl rfl)
def gm9_2 : Nat → Int32 → Int32 → Hs → Option (Int32)
  | 0, _, _, _ => none
  | n + 1, a1, a2, x => if a2 ≥ x.1 2 1 then (some 0) else (cond (aIn a2 24) (if x.1 4 (xi a2) = a1 then (some 1) else (gm9_2 n a1 (a2 + 1) x)) none)
theorem em9_2 {N : Nat} : ∀ (n : Nat) (a1 : Int32) (a2 : Int32) (x : Hs) (r : Int32), gm9_2 n a1 a2 x = some r → Ev 9 (0, 0) (2, [some (.ref 2), some (.int a1), some (.int a2)], []) (hp N x) (cvPi N x r)
  | 0, a1, a2, x, r, h => by
    have e9 : (none : Option (Int32)) = some r := h
    cases e9
  | n + 1, a1, a2, x, r, h => by
    have q2 := em9_2 (N := N) n
    rw [gm9_2] at h
    refine ev_run (n := 3) (u' := (0, 0)) (f' := (7, [some (.ref 2), some (.int a1), some (.int a2)], [.int (x.1 2 1), .int a2])) (h' := hp N x) rfl ?_
    rcases ite_or h with ⟨h3, h⟩ | ⟨h3, h⟩
    · refine ev_ict rfl (decide_eq_true h3) ?_
      refine ev_run (n := 1) (u' := (0, 0)) (f' := (29, [none, none, none], [.int 0])) (h' := hp N x) rfl ?_
      cases h
      exact ev_iret rfl rfl rfl (Or.inr ⟨rfl, rfl⟩)
    · refine ev_icf rfl (decide_eq_false h3) ?_
      refine ev_run (n := 3) (u' := (0, 0)) (f' := (15, [some (.ref 2), some (.int a1), some (.int a2)], [.int a2, .ref 4])) (h' := hp N x) rfl ?_
      obtain ⟨h1, h⟩ := cond_some h
      refine ev_iald rfl rfl h1 ?_
      refine ev_run (n := 1) (u' := (0, 0)) (f' := (17, [some (.ref 2), some (.int a1), some (.int a2)], [.int a1, .int (x.1 4 (xi a2))])) (h' := hp N x) rfl ?_
      rcases ite_or h with ⟨h2, h⟩ | ⟨h2, h⟩
      · refine ev_icf rfl (decide_eq_false (fun w => w h2)) ?_
        refine ev_run (n := 1) (u' := (0, 0)) (f' := (21, [some (.ref 2), some (.int a1), some (.int a2)], [.int 1])) (h' := hp N x) rfl ?_
        cases h
        exact ev_iret rfl rfl rfl (Or.inr ⟨rfl, rfl⟩)
      · refine ev_ict rfl (decide_eq_true h2) ?_
        refine ev_run (n := 2) (u' := (0, 0)) (f' := (2, [some (.ref 2), some (.int a1), some (.int (a2 + 1))], [])) (h' := hp N x) rfl ?_
        exact q2 a1 (a2 + 1) x _ h
def gm9 (a1 : Int32) (x : Hs) : Option (Int32) := gm9_2 FU a1 0 x
theorem em9 {N : Nat} (a1 : Int32) (x : Hs) (r : Int32) (h : gm9 a1 x = some r) : Ev 9 (0, 0) (0, aPad [.ref 2, .int a1] 3, []) (hp N x) (cvPi N x r) := by
  show Ev 9 (0, 0) (0, [some (.ref 2), some (.int a1), none], []) (hp N x) _
  unfold gm9 at h
  refine ev_run (n := 2) (u' := (0, 0)) (f' := (2, [some (.ref 2), some (.int a1), some (.int 0)], [])) (h' := hp N x) rfl ?_
  exact em9_2 FU a1 0 x _ h
def gm181_5 : Nat → Nat → Int32 → Int32 → Int32 → Hs → Option (Hs)
  | 0, _, _, _, _, _ => none
  | n + 1, a0, a1, a2, a3, x => if a2 ≥ a3 then (some x) else (cond (aIn a2 5) (gm181_5 n a0 a1 (a2 + 1) a3 (wI x a0 (xi a2) a1)) none)
theorem em181_5 {N : Nat} : ∀ (n : Nat) (a0 : Nat) (a1 : Int32) (a2 : Int32) (a3 : Int32) (fa0 : A5 N a0) (x : Hs) (r : Hs), gm181_5 n a0 a1 a2 a3 x = some r → Ev 181 (0, 0) (5, [some (.ref a0), some (.int a1), some (.int a2), some (.int a3)], []) (hp N x) (cvMv N r)
  | 0, a0, a1, a2, a3, fa0, x, r, h => by
    have e9 : (none : Option (Hs)) = some r := h
    cases e9
  | n + 1, a0, a1, a2, a3, fa0, x, r, h => by
    have q5 := em181_5 (N := N) n
    rw [gm181_5] at h
    refine ev_run (n := 2) (u' := (0, 0)) (f' := (7, [some (.ref a0), some (.int a1), some (.int a2), some (.int a3)], [.int a3, .int a2])) (h' := hp N x) rfl ?_
    rcases ite_or h with ⟨h2, h⟩ | ⟨h2, h⟩
    · refine ev_ict rfl (decide_eq_true h2) ?_
      cases h
      exact ev_vret rfl rfl rfl
    · refine ev_icf rfl (decide_eq_false h2) ?_
      refine ev_run (n := 3) (u' := (0, 0)) (f' := (13, [some (.ref a0), some (.int a1), some (.int a2), some (.int a3)], [.int a1, .int a2, .ref a0])) (h' := hp N x) rfl ?_
      obtain ⟨h1, h⟩ := cond_some h
      refine ev_iast rfl fa0.1 (fa0.ln h1) ?_
      show Ev 181 (0, 0) (14, [some (.ref a0), some (.int a1), some (.int a2), some (.int a3)], []) (hp N (wI x a0 (xi a2) a1)) _
      refine ev_run (n := 2) (u' := (0, 0)) (f' := (5, [some (.ref a0), some (.int a1), some (.int (a2 + 1)), some (.int a3)], [])) (h' := hp N (wI x a0 (xi a2) a1)) rfl ?_
      exact q5 a0 a1 (a2 + 1) a3 fa0 (wI x a0 (xi a2) a1) _ h
def gm181 (a0 : Nat) (a1 : Int32) (x : Hs) : Option (Hs) := gm181_5 FU a0 a1 0 (Int32.ofNat 5) x
theorem em181 {N : Nat} (a0 : Nat) (a1 : Int32) (fa0 : A5 N a0) (x : Hs) (r : Hs) (h : gm181 a0 a1 x = some r) : Ev 181 (0, 0) (0, aPad [.ref a0, .int a1] 4, []) (hp N x) (cvMv N r) := by
  show Ev 181 (0, 0) (0, [some (.ref a0), some (.int a1), none, none], []) (hp N x) _
  unfold gm181 at h
  refine ev_run (n := 3) (u' := (0, 0)) (f' := (3, [some (.ref a0), some (.int a1), some (.int 0), none], [.ref a0])) (h' := hp N x) rfl ?_
  refine ev_alen rfl fa0.al ?_
  refine ev_run (n := 1) (u' := (0, 0)) (f' := (5, [some (.ref a0), some (.int a1), some (.int 0), some (.int (Int32.ofNat 5))], [])) (h' := hp N x) rfl ?_
  exact em181_5 FU a0 a1 0 (Int32.ofNat 5) fa0 x _ h
def gm10 (a1 : Int32) (a2 : Int32) (x : Hs) : Option (Int32 × Hs) := cond (aIn (x.1 2 1) 24) (cond (aIn (x.1 2 1) 24) (cond (aIn (x.1 2 1) 24) ((gm181 (32 + xi (x.1 2 1)) 9 (wI (wI x 4 (xi (x.1 2 1)) a1) 5 (xi (x.1 2 1)) a2)).bind fun w4 => (some (x.1 2 1, (wI w4 2 1 (w4.1 2 1 + 1))))) none) none) none
theorem em10 {N : Nat} (a1 : Int32) (a2 : Int32) (x : Hs) (r : Int32 × Hs) (h : gm10 a1 a2 x = some r) : Ev 10 (0, 0) (0, aPad [.ref 2, .int a1, .int a2] 4, []) (hp N x) (cvMi N r) := by
  show Ev 10 (0, 0) (0, [some (.ref 2), some (.int a1), some (.int a2), none], []) (hp N x) _
  unfold gm10 at h
  refine ev_run (n := 7) (u' := (0, 0)) (f' := (11, [some (.ref 2), some (.int a1), some (.int a2), some (.int (x.1 2 1))], [.int a1, .int (x.1 2 1), .ref 4])) (h' := hp N x) rfl ?_
  obtain ⟨h1, h⟩ := cond_some h
  refine ev_iast rfl rfl h1 ?_
  show Ev 10 (0, 0) (12, [some (.ref 2), some (.int a1), some (.int a2), some (.int (x.1 2 1))], []) (hp N (wI x 4 (xi (x.1 2 1)) a1)) _
  refine ev_run (n := 4) (u' := (0, 0)) (f' := (18, [some (.ref 2), some (.int a1), some (.int a2), some (.int (x.1 2 1))], [.int a2, .int (x.1 2 1), .ref 5])) (h' := hp N (wI x 4 (xi (x.1 2 1)) a1)) rfl ?_
  obtain ⟨h2, h⟩ := cond_some h
  refine ev_iast rfl rfl h2 ?_
  show Ev 10 (0, 0) (19, [some (.ref 2), some (.int a1), some (.int a2), some (.int (x.1 2 1))], []) (hp N (wI (wI x 4 (xi (x.1 2 1)) a1) 5 (xi (x.1 2 1)) a2)) _
  refine ev_run (n := 3) (u' := (0, 0)) (f' := (24, [some (.ref 2), some (.int a1), some (.int a2), some (.int (x.1 2 1))], [.int (x.1 2 1), .ref 31])) (h' := hp N (wI (wI x 4 (xi (x.1 2 1)) a1) 5 (xi (x.1 2 1)) a2)) rfl ?_
  obtain ⟨h3, h⟩ := cond_some h
  refine ev_aald rfl rfl h3 (rf_31 h3) ?_
  refine ev_run (n := 1) (u' := (0, 0)) (f' := (27, [some (.ref 2), some (.int a1), some (.int a2), some (.int (x.1 2 1))], [.int 9, .ref (32 + xi (x.1 2 1))])) (h' := hp N (wI (wI x 4 (xi (x.1 2 1)) a1) 5 (xi (x.1 2 1)) a2)) rfl ?_
  obtain ⟨w4, h5, h⟩ := bind_ok h
  refine ev_call (v := none) (h1 := hp N w4) rfl rfl rfl rfl (em181 (32 + xi (x.1 2 1)) 9 (HI_lt N _ (lt_of_aIn h3)) (wI (wI x 4 (xi (x.1 2 1)) a1) 5 (xi (x.1 2 1)) a2) _ h5) ?_
  show Ev 10 (0, 0) (30, [some (.ref 2), some (.int a1), some (.int a2), some (.int (x.1 2 1))], []) (hp N w4) _
  refine ev_run (n := 7) (u' := (0, 0)) (f' := (41, [some (.ref 2), some (.int a1), some (.int a2), some (.int (x.1 2 1))], [.int (x.1 2 1)])) (h' := hp N (wI w4 2 1 (w4.1 2 1 + 1))) rfl ?_
  cases h
  exact ev_iret rfl rfl rfl (Or.inl rfl)
def gm101 (a0 : Int32) (a1 : Int32) (x : Hs) : Option (Int32) := if (a0 &&& (1 <<< (a1 &&& 31))) = 0 then (some 0) else (some 1)
theorem em101 {N : Nat} (a0 : Int32) (a1 : Int32) (x : Hs) (r : Int32) (h : gm101 a0 a1 x = some r) : Ev 101 (0, 0) (0, aPad [.int a0, .int a1] 2, []) (hp N x) (cvPi N x r) := by
  show Ev 101 (0, 0) (0, [some (.int a0), some (.int a1)], []) (hp N x) _
  unfold gm101 at h
  refine ev_run (n := 5) (u' := (0, 0)) (f' := (5, [some (.int a0), some (.int a1)], [.int (a0 &&& (1 <<< (a1 &&& 31)))])) (h' := hp N x) rfl ?_
  rcases ite_or h with ⟨h1, h⟩ | ⟨h1, h⟩
  · refine ev_ift rfl (decide_eq_true h1) ?_
    refine ev_run (n := 1) (u' := (0, 0)) (f' := (13, [none, none], [.int 0])) (h' := hp N x) rfl ?_
    cases h
    exact ev_iret rfl rfl rfl (Or.inr ⟨rfl, rfl⟩)
  · refine ev_iff rfl (decide_eq_false h1) ?_
    refine ev_run (n := 2) (u' := (0, 0)) (f' := (13, [none, none], [.int 1])) (h' := hp N x) rfl ?_
    cases h
    exact ev_iret rfl rfl rfl (Or.inr ⟨rfl, rfl⟩)
def gm11 (a1 : Int32) (a2 : Int32) (x : Hs) : Option (Int32) := cond (aIn a1 24) ((gm101 (x.1 56 (xi a1)) a2 x).bind fun w2 => (cond (aBit w2) (some w2) none)) none
theorem em11 {N : Nat} (a1 : Int32) (a2 : Int32) (x : Hs) (r : Int32) (h : gm11 a1 a2 x = some r) : Ev 11 (0, 0) (0, aPad [.ref 2, .int a1, .int a2] 3, []) (hp N x) (cvPi N x r) := by
  show Ev 11 (0, 0) (0, [some (.ref 2), some (.int a1), some (.int a2)], []) (hp N x) _
  unfold gm11 at h
  refine ev_run (n := 3) (u' := (0, 0)) (f' := (5, [some (.ref 2), some (.int a1), some (.int a2)], [.int a1, .ref 56])) (h' := hp N x) rfl ?_
  obtain ⟨h1, h⟩ := cond_some h
  refine ev_iald rfl rfl h1 ?_
  refine ev_run (n := 1) (u' := (0, 0)) (f' := (7, [some (.ref 2), some (.int a1), some (.int a2)], [.int a2, .int (x.1 56 (xi a1))])) (h' := hp N x) rfl ?_
  obtain ⟨w2, h3, h⟩ := bind_ok h
  refine ev_call (v := some (.int w2)) (h1 := hp N x) rfl rfl rfl rfl (em101 (x.1 56 (xi a1)) a2 x _ h3) ?_
  show Ev 11 (0, 0) (10, [some (.ref 2), some (.int a1), some (.int a2)], [.int w2]) (hp N x) _
  obtain ⟨h4, h⟩ := cond_some h
  cases h
  exact ev_iret rfl rfl rfl (Or.inr ⟨rfl, h4⟩)
def gm12_29 (k2 : Int32 → Int32 → Hs → Option (Int32)) (a1 : Int32) (a2 : Int32) (x : Hs) : Option (Int32) := k2 a1 (a2 + 1) x
theorem em12_29 {N : Nat} (k2 : Int32 → Int32 → Hs → Option (Int32)) (q2 : ∀ (a1 : Int32) (a2 : Int32) (x : Hs) (r : Int32), k2 a1 a2 x = some r → Ev 12 (0, 0) (2, [some (.ref 2), some (.int a1), some (.int a2)], []) (hp N x) (cvPi N x r)) (a1 : Int32) (a2 : Int32) (x : Hs) (r : Int32) (h : gm12_29 k2 a1 a2 x = some r) : Ev 12 (0, 0) (29, [some (.ref 2), some (.int a1), some (.int a2)], []) (hp N x) (cvPi N x r) := by
  unfold gm12_29 at h
  refine ev_run (n := 2) (u' := (0, 0)) (f' := (2, [some (.ref 2), some (.int a1), some (.int (a2 + 1))], [])) (h' := hp N x) rfl ?_
  exact q2 a1 (a2 + 1) x _ h
def gm12_35 (a1 : Int32) (x : Hs) : Option (Int32) := cond (aIn a1 24) (if x.1 57 (xi a1) = 0 then (some 1) else (some 0)) none
theorem em12_35 {N : Nat} (a1 : Int32) (x : Hs) (r : Int32) (h : gm12_35 a1 x = some r) : Ev 12 (0, 0) (35, [some (.ref 2), some (.int a1), none], []) (hp N x) (cvPi N x r) := by
  unfold gm12_35 at h
  refine ev_run (n := 3) (u' := (0, 0)) (f' := (40, [some (.ref 2), some (.int a1), none], [.int a1, .ref 57])) (h' := hp N x) rfl ?_
  obtain ⟨h7, h⟩ := cond_some h
  refine ev_bald rfl rfl h7 ?_
  rcases ite_or h with ⟨h8, h⟩ | ⟨h8, h⟩
  · refine ev_iff rfl (decide_eq_false (fun w => w h8)) ?_
    refine ev_run (n := 2) (u' := (0, 0)) (f' := (49, [none, none, none], [.int 1])) (h' := hp N x) rfl ?_
    cases h
    exact ev_iret rfl rfl rfl (Or.inr ⟨rfl, rfl⟩)
  · refine ev_ift rfl (decide_eq_true h8) ?_
    refine ev_run (n := 1) (u' := (0, 0)) (f' := (49, [none, none, none], [.int 0])) (h' := hp N x) rfl ?_
    cases h
    exact ev_iret rfl rfl rfl (Or.inr ⟨rfl, rfl⟩)
def gm12_2 : Nat → Int32 → Int32 → Hs → Option (Int32)
  | 0, _, _, _ => none
  | n + 1, a1, a2, x => if a2 ≥ 5 then (gm12_35 a1 x) else ((gm11 a1 a2 x).bind fun w1 => (if w1 = 0 then (gm12_29 (gm12_2 n) a1 a2 x) else (cond (aIn a2 5) (if x.1 58 (xi a2) = 100 then (gm12_29 (gm12_2 n) a1 a2 x) else (some 0)) none)))
theorem em12_2 {N : Nat} : ∀ (n : Nat) (a1 : Int32) (a2 : Int32) (x : Hs) (r : Int32), gm12_2 n a1 a2 x = some r → Ev 12 (0, 0) (2, [some (.ref 2), some (.int a1), some (.int a2)], []) (hp N x) (cvPi N x r)
  | 0, a1, a2, x, r, h => by
    have e9 : (none : Option (Int32)) = some r := h
    cases e9
  | n + 1, a1, a2, x, r, h => by
    have q2 := em12_2 (N := N) n
    rw [gm12_2] at h
    refine ev_run (n := 2) (u' := (0, 0)) (f' := (4, [some (.ref 2), some (.int a1), some (.int a2)], [.int 5, .int a2])) (h' := hp N x) rfl ?_
    rcases ite_or h with ⟨h6, h⟩ | ⟨h6, h⟩
    · refine ev_ict rfl (decide_eq_true h6) ?_
      exact em12_35 a1 x _ h
    · refine ev_icf rfl (decide_eq_false h6) ?_
      refine ev_run (n := 3) (u' := (0, 0)) (f' := (10, [some (.ref 2), some (.int a1), some (.int a2)], [.int a2, .int a1, .ref 2])) (h' := hp N x) rfl ?_
      obtain ⟨w1, h2, h⟩ := bind_ok h
      refine ev_call (v := some (.int w1)) (h1 := hp N x) rfl rfl rfl rfl (em11 a1 a2 x _ h2) ?_
      show Ev 12 (0, 0) (13, [some (.ref 2), some (.int a1), some (.int a2)], [.int w1]) (hp N x) _
      rcases ite_or h with ⟨h5, h⟩ | ⟨h5, h⟩
      · refine ev_ift rfl (decide_eq_true h5) ?_
        exact em12_29 (gm12_2 n) q2 a1 a2 x _ h
      · refine ev_iff rfl (decide_eq_false h5) ?_
        refine ev_run (n := 3) (u' := (0, 0)) (f' := (21, [some (.ref 2), some (.int a1), some (.int a2)], [.int a2, .ref 58])) (h' := hp N x) rfl ?_
        obtain ⟨h3, h⟩ := cond_some h
        refine ev_iald rfl rfl h3 ?_
        refine ev_run (n := 1) (u' := (0, 0)) (f' := (24, [some (.ref 2), some (.int a1), some (.int a2)], [.int 100, .int (x.1 58 (xi a2))])) (h' := hp N x) rfl ?_
        rcases ite_or h with ⟨h4, h⟩ | ⟨h4, h⟩
        · refine ev_ict rfl (decide_eq_true h4) ?_
          exact em12_29 (gm12_2 n) q2 a1 a2 x _ h
        · refine ev_icf rfl (decide_eq_false h4) ?_
          refine ev_run (n := 1) (u' := (0, 0)) (f' := (28, [some (.ref 2), some (.int a1), some (.int a2)], [.int 0])) (h' := hp N x) rfl ?_
          cases h
          exact ev_iret rfl rfl rfl (Or.inr ⟨rfl, rfl⟩)
def gm12 (a1 : Int32) (x : Hs) : Option (Int32) := gm12_2 FU a1 0 x
theorem em12 {N : Nat} (a1 : Int32) (x : Hs) (r : Int32) (h : gm12 a1 x = some r) : Ev 12 (0, 0) (0, aPad [.ref 2, .int a1] 3, []) (hp N x) (cvPi N x r) := by
  show Ev 12 (0, 0) (0, [some (.ref 2), some (.int a1), none], []) (hp N x) _
  unfold gm12 at h
  refine ev_run (n := 2) (u' := (0, 0)) (f' := (2, [some (.ref 2), some (.int a1), some (.int 0)], [])) (h' := hp N x) rfl ?_
  exact em12_2 FU a1 0 x _ h
def gm15 (a1 : Int32) (a2 : Int32) (x : Hs) : Option (Int32) := if a2 = (-1) then (some 1) else (cond (aIn a2 24) (cond (aIn a2 24) (cond (aIn a1 24) (cond (aIn (x.1 4 (xi a2)) 5) (if x.1 5 (xi a2) < x.1 (7 + xi a1) (xi (x.1 4 (xi a2))) then (some 0) else (cond (aIn a2 24) (cond (aIn a1 24) (cond (aIn (x.1 4 (xi a2)) 5) (if x.1 5 (xi a2) > x.1 (32 + xi a1) (xi (x.1 4 (xi a2))) then (some 0) else (some 1)) none) none) none)) none) none) none) none)
theorem em15 {N : Nat} (a1 : Int32) (a2 : Int32) (x : Hs) (r : Int32) (h : gm15 a1 a2 x = some r) : Ev 15 (0, 0) (0, aPad [.ref 2, .int a1, .int a2] 4, []) (hp N x) (cvPi N x r) := by
  show Ev 15 (0, 0) (0, [some (.ref 2), some (.int a1), some (.int a2), none], []) (hp N x) _
  unfold gm15 at h
  refine ev_run (n := 2) (u' := (0, 0)) (f' := (2, [some (.ref 2), some (.int a1), some (.int a2), none], [.int (-1), .int a2])) (h' := hp N x) rfl ?_
  rcases ite_or h with ⟨h10, h⟩ | ⟨h10, h⟩
  · refine ev_icf rfl (decide_eq_false (fun w => w h10)) ?_
    refine ev_run (n := 1) (u' := (0, 0)) (f' := (6, [some (.ref 2), some (.int a1), some (.int a2), none], [.int 1])) (h' := hp N x) rfl ?_
    cases h
    exact ev_iret rfl rfl rfl (Or.inr ⟨rfl, rfl⟩)
  · refine ev_ict rfl (decide_eq_true h10) ?_
    refine ev_run (n := 3) (u' := (0, 0)) (f' := (12, [some (.ref 2), some (.int a1), some (.int a2), none], [.int a2, .ref 4])) (h' := hp N x) rfl ?_
    obtain ⟨h1, h⟩ := cond_some h
    refine ev_iald rfl rfl h1 ?_
    refine ev_run (n := 4) (u' := (0, 0)) (f' := (19, [some (.ref 2), some (.int a1), some (.int a2), some (.int (x.1 4 (xi a2)))], [.int a2, .ref 5])) (h' := hp N x) rfl ?_
    obtain ⟨h2, h⟩ := cond_some h
    refine ev_iald rfl rfl h2 ?_
    refine ev_run (n := 3) (u' := (0, 0)) (f' := (25, [some (.ref 2), some (.int a1), some (.int a2), some (.int (x.1 4 (xi a2)))], [.int a1, .ref 6, .int (x.1 5 (xi a2))])) (h' := hp N x) rfl ?_
    obtain ⟨h3, h⟩ := cond_some h
    refine ev_aald rfl rfl h3 (rf_6 h3) ?_
    refine ev_run (n := 1) (u' := (0, 0)) (f' := (27, [some (.ref 2), some (.int a1), some (.int a2), some (.int (x.1 4 (xi a2)))], [.int (x.1 4 (xi a2)), .ref (7 + xi a1), .int (x.1 5 (xi a2))])) (h' := hp N x) rfl ?_
    obtain ⟨h4, h⟩ := cond_some h
    refine ev_iald rfl (LW_lt N _ (lt_of_aIn h3)).kd ((LW_lt N _ (lt_of_aIn h3)).ln h4) ?_
    rcases ite_or h with ⟨h9, h⟩ | ⟨h9, h⟩
    · refine ev_ict rfl (decide_eq_true h9) ?_
      refine ev_run (n := 1) (u' := (0, 0)) (f' := (53, [none, none, none, none], [.int 0])) (h' := hp N x) rfl ?_
      cases h
      exact ev_iret rfl rfl rfl (Or.inr ⟨rfl, rfl⟩)
    · refine ev_icf rfl (decide_eq_false h9) ?_
      refine ev_run (n := 3) (u' := (0, 0)) (f' := (36, [some (.ref 2), some (.int a1), some (.int a2), some (.int (x.1 4 (xi a2)))], [.int a2, .ref 5])) (h' := hp N x) rfl ?_
      obtain ⟨h5, h⟩ := cond_some h
      refine ev_iald rfl rfl h5 ?_
      refine ev_run (n := 3) (u' := (0, 0)) (f' := (42, [some (.ref 2), some (.int a1), some (.int a2), some (.int (x.1 4 (xi a2)))], [.int a1, .ref 31, .int (x.1 5 (xi a2))])) (h' := hp N x) rfl ?_
      obtain ⟨h6, h⟩ := cond_some h
      refine ev_aald rfl rfl h6 (rf_31 h6) ?_
      refine ev_run (n := 1) (u' := (0, 0)) (f' := (44, [some (.ref 2), some (.int a1), some (.int a2), some (.int (x.1 4 (xi a2)))], [.int (x.1 4 (xi a2)), .ref (32 + xi a1), .int (x.1 5 (xi a2))])) (h' := hp N x) rfl ?_
      obtain ⟨h7, h⟩ := cond_some h
      refine ev_iald rfl (HI_lt N _ (lt_of_aIn h6)).kd ((HI_lt N _ (lt_of_aIn h6)).ln h7) ?_
      rcases ite_or h with ⟨h8, h⟩ | ⟨h8, h⟩
      · refine ev_ict rfl (decide_eq_true h8) ?_
        refine ev_run (n := 1) (u' := (0, 0)) (f' := (53, [none, none, none, none], [.int 0])) (h' := hp N x) rfl ?_
        cases h
        exact ev_iret rfl rfl rfl (Or.inr ⟨rfl, rfl⟩)
      · refine ev_icf rfl (decide_eq_false h8) ?_
        refine ev_run (n := 2) (u' := (0, 0)) (f' := (53, [none, none, none, none], [.int 1])) (h' := hp N x) rfl ?_
        cases h
        exact ev_iret rfl rfl rfl (Or.inr ⟨rfl, rfl⟩)
def gm14_68 (k10 : Int32 → Nat → Nat → Int32 → Hs → Option (Int32)) (a1 : Int32) (a2 : Nat) (a3 : Nat) (a4 : Int32) (x : Hs) : Option (Int32) := k10 a1 a2 a3 (a4 + 1) x
theorem em14_68 {N : Nat} (k10 : Int32 → Nat → Nat → Int32 → Hs → Option (Int32)) (q10 : ∀ (a1 : Int32) (a2 : Nat) (a3 : Nat) (a4 : Int32) (fa2 : A5 N a2) (fa3 : A5 N a3) (x : Hs) (r : Int32), k10 a1 a2 a3 a4 x = some r → Ev 14 (0, 0) (10, [some (.ref 2), some (.int a1), some (.ref a2), some (.ref a3), some (.int a4)], []) (hp N x) (cvPi N x r)) (a1 : Int32) (a2 : Nat) (a3 : Nat) (a4 : Int32) (fa2 : A5 N a2) (fa3 : A5 N a3) (x : Hs) (r : Int32) (h : gm14_68 k10 a1 a2 a3 a4 x = some r) : Ev 14 (0, 0) (68, [some (.ref 2), some (.int a1), some (.ref a2), some (.ref a3), some (.int a4)], []) (hp N x) (cvPi N x r) := by
  unfold gm14_68 at h
  refine ev_run (n := 2) (u' := (0, 0)) (f' := (10, [some (.ref 2), some (.int a1), some (.ref a2), some (.ref a3), some (.int (a4 + 1))], [])) (h' := hp N x) rfl ?_
  exact q10 a1 a2 a3 (a4 + 1) fa2 fa3 x _ h
def gm14_10 : Nat → Int32 → Nat → Nat → Int32 → Hs → Option (Int32)
  | 0, _, _, _, _, _ => none
  | n + 1, a1, a2, a3, a4, x => if a4 ≥ x.1 2 0 then (some 1) else (cond (aIn a1 24) ((gm7 (x.1 4 (xi a1)) a4 x).bind fun w3 => (if w3 = 0 then (gm14_68 (gm14_10 n) a1 a2 a3 a4 x) else (cond (aIn a4 5) (if x.1 a2 (xi a4) = (-1) then (some 0) else (cond (aIn a4 5) ((gm15 a1 (x.1 a2 (xi a4)) x).bind fun w7 => (if w7 = 0 then (some 0) else (cond (aIn a4 5) ((gm15 a1 (x.1 a3 (xi a4)) x).bind fun w10 => (if w10 = 0 then (some 0) else (gm14_68 (gm14_10 n) a1 a2 a3 a4 x))) none))) none)) none))) none)
theorem em14_10 {N : Nat} : ∀ (n : Nat) (a1 : Int32) (a2 : Nat) (a3 : Nat) (a4 : Int32) (fa2 : A5 N a2) (fa3 : A5 N a3) (x : Hs) (r : Int32), gm14_10 n a1 a2 a3 a4 x = some r → Ev 14 (0, 0) (10, [some (.ref 2), some (.int a1), some (.ref a2), some (.ref a3), some (.int a4)], []) (hp N x) (cvPi N x r)
  | 0, a1, a2, a3, a4, fa2, fa3, x, r, h => by
    have e9 : (none : Option (Int32)) = some r := h
    cases e9
  | n + 1, a1, a2, a3, a4, fa2, fa3, x, r, h => by
    have q10 := em14_10 (N := N) n
    rw [gm14_10] at h
    refine ev_run (n := 3) (u' := (0, 0)) (f' := (16, [some (.ref 2), some (.int a1), some (.ref a2), some (.ref a3), some (.int a4)], [.int (x.1 2 0), .int a4])) (h' := hp N x) rfl ?_
    rcases ite_or h with ⟨h16, h⟩ | ⟨h16, h⟩
    · refine ev_ict rfl (decide_eq_true h16) ?_
      refine ev_run (n := 1) (u' := (0, 0)) (f' := (75, [none, none, none, none, none], [.int 1])) (h' := hp N x) rfl ?_
      cases h
      exact ev_iret rfl rfl rfl (Or.inr ⟨rfl, rfl⟩)
    · refine ev_icf rfl (decide_eq_false h16) ?_
      refine ev_run (n := 4) (u' := (0, 0)) (f' := (25, [some (.ref 2), some (.int a1), some (.ref a2), some (.ref a3), some (.int a4)], [.int a1, .ref 4, .ref 2])) (h' := hp N x) rfl ?_
      obtain ⟨h2, h⟩ := cond_some h
      refine ev_iald rfl rfl h2 ?_
      refine ev_run (n := 1) (u' := (0, 0)) (f' := (28, [some (.ref 2), some (.int a1), some (.ref a2), some (.ref a3), some (.int a4)], [.int a4, .int (x.1 4 (xi a1)), .ref 2])) (h' := hp N x) rfl ?_
      obtain ⟨w3, h4, h⟩ := bind_ok h
      refine ev_call (v := some (.int w3)) (h1 := hp N x) rfl rfl rfl rfl (em7 (x.1 4 (xi a1)) a4 x _ h4) ?_
      show Ev 14 (0, 0) (31, [some (.ref 2), some (.int a1), some (.ref a2), some (.ref a3), some (.int a4)], [.int w3]) (hp N x) _
      rcases ite_or h with ⟨h15, h⟩ | ⟨h15, h⟩
      · refine ev_ift rfl (decide_eq_true h15) ?_
        exact em14_68 (gm14_10 n) q10 a1 a2 a3 a4 fa2 fa3 x _ h
      · refine ev_iff rfl (decide_eq_false h15) ?_
        refine ev_run (n := 2) (u' := (0, 0)) (f' := (37, [some (.ref 2), some (.int a1), some (.ref a2), some (.ref a3), some (.int a4)], [.int a4, .ref a2])) (h' := hp N x) rfl ?_
        obtain ⟨h5, h⟩ := cond_some h
        refine ev_iald rfl fa2.kd (fa2.ln h5) ?_
        refine ev_run (n := 1) (u' := (0, 0)) (f' := (39, [some (.ref 2), some (.int a1), some (.ref a2), some (.ref a3), some (.int a4)], [.int (-1), .int (x.1 a2 (xi a4))])) (h' := hp N x) rfl ?_
        rcases ite_or h with ⟨h14, h⟩ | ⟨h14, h⟩
        · refine ev_ict rfl (decide_eq_true h14) ?_
          refine ev_run (n := 1) (u' := (0, 0)) (f' := (67, [none, none, none, none, none], [.int 0])) (h' := hp N x) rfl ?_
          cases h
          exact ev_iret rfl rfl rfl (Or.inr ⟨rfl, rfl⟩)
        · refine ev_icf rfl (decide_eq_false h14) ?_
          refine ev_run (n := 4) (u' := (0, 0)) (f' := (47, [some (.ref 2), some (.int a1), some (.ref a2), some (.ref a3), some (.int a4)], [.int a4, .ref a2, .int a1, .ref 2])) (h' := hp N x) rfl ?_
          obtain ⟨h6, h⟩ := cond_some h
          refine ev_iald rfl fa2.kd (fa2.ln h6) ?_
          obtain ⟨w7, h8, h⟩ := bind_ok h
          refine ev_call (v := some (.int w7)) (h1 := hp N x) rfl rfl rfl rfl (em15 a1 (x.1 a2 (xi a4)) x _ h8) ?_
          show Ev 14 (0, 0) (51, [some (.ref 2), some (.int a1), some (.ref a2), some (.ref a3), some (.int a4)], [.int w7]) (hp N x) _
          rcases ite_or h with ⟨h13, h⟩ | ⟨h13, h⟩
          · refine ev_ift rfl (decide_eq_true h13) ?_
            refine ev_run (n := 1) (u' := (0, 0)) (f' := (67, [none, none, none, none, none], [.int 0])) (h' := hp N x) rfl ?_
            cases h
            exact ev_iret rfl rfl rfl (Or.inr ⟨rfl, rfl⟩)
          · refine ev_iff rfl (decide_eq_false h13) ?_
            refine ev_run (n := 4) (u' := (0, 0)) (f' := (59, [some (.ref 2), some (.int a1), some (.ref a2), some (.ref a3), some (.int a4)], [.int a4, .ref a3, .int a1, .ref 2])) (h' := hp N x) rfl ?_
            obtain ⟨h9, h⟩ := cond_some h
            refine ev_iald rfl fa3.kd (fa3.ln h9) ?_
            obtain ⟨w10, h11, h⟩ := bind_ok h
            refine ev_call (v := some (.int w10)) (h1 := hp N x) rfl rfl rfl rfl (em15 a1 (x.1 a3 (xi a4)) x _ h11) ?_
            show Ev 14 (0, 0) (63, [some (.ref 2), some (.int a1), some (.ref a2), some (.ref a3), some (.int a4)], [.int w10]) (hp N x) _
            rcases ite_or h with ⟨h12, h⟩ | ⟨h12, h⟩
            · refine ev_iff rfl (decide_eq_false (fun w => w h12)) ?_
              refine ev_run (n := 1) (u' := (0, 0)) (f' := (67, [some (.ref 2), some (.int a1), some (.ref a2), some (.ref a3), some (.int a4)], [.int 0])) (h' := hp N x) rfl ?_
              cases h
              exact ev_iret rfl rfl rfl (Or.inr ⟨rfl, rfl⟩)
            · refine ev_ift rfl (decide_eq_true h12) ?_
              exact em14_68 (gm14_10 n) q10 a1 a2 a3 a4 fa2 fa3 x _ h
def gm14 (a1 : Int32) (a2 : Nat) (a3 : Nat) (x : Hs) : Option (Int32) := if a1 = (-1) then (some 1) else (gm14_10 FU a1 a2 a3 0 x)
theorem em14 {N : Nat} (a1 : Int32) (a2 : Nat) (a3 : Nat) (fa2 : A5 N a2) (fa3 : A5 N a3) (x : Hs) (r : Int32) (h : gm14 a1 a2 a3 x = some r) : Ev 14 (0, 0) (0, aPad [.ref 2, .int a1, .ref a2, .ref a3] 5, []) (hp N x) (cvPi N x r) := by
  show Ev 14 (0, 0) (0, [some (.ref 2), some (.int a1), some (.ref a2), some (.ref a3), none], []) (hp N x) _
  unfold gm14 at h
  refine ev_run (n := 2) (u' := (0, 0)) (f' := (2, [some (.ref 2), some (.int a1), some (.ref a2), some (.ref a3), none], [.int (-1), .int a1])) (h' := hp N x) rfl ?_
  rcases ite_or h with ⟨h1, h⟩ | ⟨h1, h⟩
  · refine ev_icf rfl (decide_eq_false (fun w => w h1)) ?_
    refine ev_run (n := 1) (u' := (0, 0)) (f' := (6, [some (.ref 2), some (.int a1), some (.ref a2), some (.ref a3), none], [.int 1])) (h' := hp N x) rfl ?_
    cases h
    exact ev_iret rfl rfl rfl (Or.inr ⟨rfl, rfl⟩)
  · refine ev_ict rfl (decide_eq_true h1) ?_
    refine ev_run (n := 2) (u' := (0, 0)) (f' := (10, [some (.ref 2), some (.int a1), some (.ref a2), some (.ref a3), some (.int 0)], [])) (h' := hp N x) rfl ?_
    exact em14_10 FU a1 a2 a3 0 fa2 fa3 x _ h
def gm13_2 : Nat → Nat → Nat → Int32 → Hs → Option (Int32)
  | 0, _, _, _, _ => none
  | n + 1, a1, a2, a3, x => if a3 ≥ x.1 2 0 then (some 1) else (cond (aIn a3 5) ((gm14 (x.1 a1 (xi a3)) a1 a2 x).bind fun w2 => (if w2 = 0 then (some 0) else (cond (aIn a3 5) ((gm14 (x.1 a2 (xi a3)) a1 a2 x).bind fun w5 => (if w5 = 0 then (some 0) else (gm13_2 n a1 a2 (a3 + 1) x))) none))) none)
theorem em13_2 {N : Nat} : ∀ (n : Nat) (a1 : Nat) (a2 : Nat) (a3 : Int32) (fa1 : A5 N a1) (fa2 : A5 N a2) (x : Hs) (r : Int32), gm13_2 n a1 a2 a3 x = some r → Ev 13 (0, 0) (2, [some (.ref 2), some (.ref a1), some (.ref a2), some (.int a3)], []) (hp N x) (cvPi N x r)
  | 0, a1, a2, a3, fa1, fa2, x, r, h => by
    have e9 : (none : Option (Int32)) = some r := h
    cases e9
  | n + 1, a1, a2, a3, fa1, fa2, x, r, h => by
    have q2 := em13_2 (N := N) n
    rw [gm13_2] at h
    refine ev_run (n := 3) (u' := (0, 0)) (f' := (7, [some (.ref 2), some (.ref a1), some (.ref a2), some (.int a3)], [.int (x.1 2 0), .int a3])) (h' := hp N x) rfl ?_
    rcases ite_or h with ⟨h9, h⟩ | ⟨h9, h⟩
    · refine ev_ict rfl (decide_eq_true h9) ?_
      refine ev_run (n := 1) (u' := (0, 0)) (f' := (43, [none, none, none, none], [.int 1])) (h' := hp N x) rfl ?_
      cases h
      exact ev_iret rfl rfl rfl (Or.inr ⟨rfl, rfl⟩)
    · refine ev_icf rfl (decide_eq_false h9) ?_
      refine ev_run (n := 3) (u' := (0, 0)) (f' := (13, [some (.ref 2), some (.ref a1), some (.ref a2), some (.int a3)], [.int a3, .ref a1, .ref 2])) (h' := hp N x) rfl ?_
      obtain ⟨h1, h⟩ := cond_some h
      refine ev_iald rfl fa1.kd (fa1.ln h1) ?_
      refine ev_run (n := 2) (u' := (0, 0)) (f' := (16, [some (.ref 2), some (.ref a1), some (.ref a2), some (.int a3)], [.ref a2, .ref a1, .int (x.1 a1 (xi a3)), .ref 2])) (h' := hp N x) rfl ?_
      obtain ⟨w2, h3, h⟩ := bind_ok h
      refine ev_call (v := some (.int w2)) (h1 := hp N x) rfl rfl rfl rfl (em14 (x.1 a1 (xi a3)) a1 a2 fa1 fa2 x _ h3) ?_
      show Ev 13 (0, 0) (19, [some (.ref 2), some (.ref a1), some (.ref a2), some (.int a3)], [.int w2]) (hp N x) _
      rcases ite_or h with ⟨h8, h⟩ | ⟨h8, h⟩
      · refine ev_ift rfl (decide_eq_true h8) ?_
        refine ev_run (n := 1) (u' := (0, 0)) (f' := (35, [none, none, none, none], [.int 0])) (h' := hp N x) rfl ?_
        cases h
        exact ev_iret rfl rfl rfl (Or.inr ⟨rfl, rfl⟩)
      · refine ev_iff rfl (decide_eq_false h8) ?_
        refine ev_run (n := 3) (u' := (0, 0)) (f' := (25, [some (.ref 2), some (.ref a1), some (.ref a2), some (.int a3)], [.int a3, .ref a2, .ref 2])) (h' := hp N x) rfl ?_
        obtain ⟨h4, h⟩ := cond_some h
        refine ev_iald rfl fa2.kd (fa2.ln h4) ?_
        refine ev_run (n := 2) (u' := (0, 0)) (f' := (28, [some (.ref 2), some (.ref a1), some (.ref a2), some (.int a3)], [.ref a2, .ref a1, .int (x.1 a2 (xi a3)), .ref 2])) (h' := hp N x) rfl ?_
        obtain ⟨w5, h6, h⟩ := bind_ok h
        refine ev_call (v := some (.int w5)) (h1 := hp N x) rfl rfl rfl rfl (em14 (x.1 a2 (xi a3)) a1 a2 fa1 fa2 x _ h6) ?_
        show Ev 13 (0, 0) (31, [some (.ref 2), some (.ref a1), some (.ref a2), some (.int a3)], [.int w5]) (hp N x) _
        rcases ite_or h with ⟨h7, h⟩ | ⟨h7, h⟩
        · refine ev_iff rfl (decide_eq_false (fun w => w h7)) ?_
          refine ev_run (n := 1) (u' := (0, 0)) (f' := (35, [some (.ref 2), some (.ref a1), some (.ref a2), some (.int a3)], [.int 0])) (h' := hp N x) rfl ?_
          cases h
          exact ev_iret rfl rfl rfl (Or.inr ⟨rfl, rfl⟩)
        · refine ev_ift rfl (decide_eq_true h7) ?_
          refine ev_run (n := 2) (u' := (0, 0)) (f' := (2, [some (.ref 2), some (.ref a1), some (.ref a2), some (.int (a3 + 1))], [])) (h' := hp N x) rfl ?_
          exact q2 a1 a2 (a3 + 1) fa1 fa2 x _ h
def gm13 (a1 : Nat) (a2 : Nat) (x : Hs) : Option (Int32) := gm13_2 FU a1 a2 0 x
theorem em13 {N : Nat} (a1 : Nat) (a2 : Nat) (fa1 : A5 N a1) (fa2 : A5 N a2) (x : Hs) (r : Int32) (h : gm13 a1 a2 x = some r) : Ev 13 (0, 0) (0, aPad [.ref 2, .ref a1, .ref a2] 4, []) (hp N x) (cvPi N x r) := by
  show Ev 13 (0, 0) (0, [some (.ref 2), some (.ref a1), some (.ref a2), none], []) (hp N x) _
  unfold gm13 at h
  refine ev_run (n := 2) (u' := (0, 0)) (f' := (2, [some (.ref 2), some (.ref a1), some (.ref a2), some (.int 0)], [])) (h' := hp N x) rfl ?_
  exact em13_2 FU a1 a2 0 fa1 fa2 x _ h
def gm17_18 (a1 : Int32) (x : Hs) : Option (Int32) := cond (aIn a1 21) (some (x.1 116 (xi a1))) none
theorem em17_18 {N : Nat} (a1 : Int32) (x : Hs) (r : Int32) (h : gm17_18 a1 x = some r) : Ev 17 (0, 0) (18, [some (.ref 115), some (.int a1)], []) (hp N x) (cvPi N x r) := by
  unfold gm17_18 at h
  refine ev_run (n := 3) (u' := (0, 0)) (f' := (23, [some (.ref 115), some (.int a1)], [.int a1, .ref 116])) (h' := hp N x) rfl ?_
  obtain ⟨h5, h⟩ := cond_some h
  refine ev_iald rfl rfl h5 ?_
  cases h
  exact ev_iret rfl rfl rfl (Or.inl rfl)
def gm17 (a1 : Int32) (x : Hs) : Option (Int32) := cond (aIn a1 21) (if x.1 116 (xi a1) = (-1) then (if x.1 115 0 ≥ 1 then (if x.1 115 0 = 0 then none else (some (a1 - a1 / x.1 115 0 * x.1 115 0))) else (gm17_18 a1 x)) else (gm17_18 a1 x)) none
theorem em17 {N : Nat} (a1 : Int32) (x : Hs) (r : Int32) (h : gm17 a1 x = some r) : Ev 17 (0, 0) (0, aPad [.ref 115, .int a1] 2, []) (hp N x) (cvPi N x r) := by
  show Ev 17 (0, 0) (0, [some (.ref 115), some (.int a1)], []) (hp N x) _
  unfold gm17 at h
  refine ev_run (n := 3) (u' := (0, 0)) (f' := (5, [some (.ref 115), some (.int a1)], [.int a1, .ref 116])) (h' := hp N x) rfl ?_
  obtain ⟨h1, h⟩ := cond_some h
  refine ev_iald rfl rfl h1 ?_
  refine ev_run (n := 1) (u' := (0, 0)) (f' := (7, [some (.ref 115), some (.int a1)], [.int (-1), .int (x.1 116 (xi a1))])) (h' := hp N x) rfl ?_
  rcases ite_or h with ⟨h4, h⟩ | ⟨h4, h⟩
  · refine ev_icf rfl (decide_eq_false (fun w => w h4)) ?_
    refine ev_run (n := 3) (u' := (0, 0)) (f' := (15, [some (.ref 115), some (.int a1)], [.int 1, .int (x.1 115 0)])) (h' := hp N x) rfl ?_
    rcases ite_or h with ⟨h3, h⟩ | ⟨h3, h⟩
    · refine ev_ict rfl (decide_eq_true h3) ?_
      refine ev_run (n := 3) (u' := (0, 0)) (f' := (30, [some (.ref 115), some (.int a1)], [.int (x.1 115 0), .int a1])) (h' := hp N x) rfl ?_
      rcases ite_or h with ⟨-, h⟩ | ⟨h2, h⟩
      · cases h
      refine ev_irem rfl h2 ?_
      cases h
      exact ev_iret rfl rfl rfl (Or.inl rfl)
    · refine ev_icf rfl (decide_eq_false h3) ?_
      exact em17_18 a1 x _ h
  · refine ev_ict rfl (decide_eq_true h4) ?_
    exact em17_18 a1 x _ h
def gm18_37 (k2 : Int32 → Int32 → Hs → Option (Int32)) (a1 : Int32) (a2 : Int32) (x : Hs) : Option (Int32) := k2 a1 (a2 + 1) x
theorem em18_37 {N : Nat} (k2 : Int32 → Int32 → Hs → Option (Int32)) (q2 : ∀ (a1 : Int32) (a2 : Int32) (x : Hs) (r : Int32), k2 a1 a2 x = some r → Ev 18 (0, 0) (2, [some (.ref 115), some (.int a1), some (.int a2)], []) (hp N x) (cvPi N x r)) (a1 : Int32) (a2 : Int32) (x : Hs) (r : Int32) (h : gm18_37 k2 a1 a2 x = some r) : Ev 18 (0, 0) (37, [some (.ref 115), some (.int a1), some (.int a2)], []) (hp N x) (cvPi N x r) := by
  unfold gm18_37 at h
  refine ev_run (n := 2) (u' := (0, 0)) (f' := (2, [some (.ref 115), some (.int a1), some (.int (a2 + 1))], [])) (h' := hp N x) rfl ?_
  exact q2 a1 (a2 + 1) x _ h
def gm18_2 : Nat → Int32 → Int32 → Hs → Option (Int32)
  | 0, _, _, _ => none
  | n + 1, a1, a2, x => if a2 ≥ x.1 115 1 then (some (-1)) else (cond (aIn a2 12) (if x.1 (118 + xi a2) 0 = a1 then (cond (aIn a2 12) (if x.1 (118 + xi a2) 6 = 0 then (some a2) else (gm18_37 (gm18_2 n) a1 a2 x)) none) else (gm18_37 (gm18_2 n) a1 a2 x)) none)
theorem em18_2 {N : Nat} : ∀ (n : Nat) (a1 : Int32) (a2 : Int32) (x : Hs) (r : Int32), gm18_2 n a1 a2 x = some r → Ev 18 (0, 0) (2, [some (.ref 115), some (.int a1), some (.int a2)], []) (hp N x) (cvPi N x r)
  | 0, a1, a2, x, r, h => by
    have e9 : (none : Option (Int32)) = some r := h
    cases e9
  | n + 1, a1, a2, x, r, h => by
    have q2 := em18_2 (N := N) n
    rw [gm18_2] at h
    refine ev_run (n := 3) (u' := (0, 0)) (f' := (7, [some (.ref 115), some (.int a1), some (.int a2)], [.int (x.1 115 1), .int a2])) (h' := hp N x) rfl ?_
    rcases ite_or h with ⟨h5, h⟩ | ⟨h5, h⟩
    · refine ev_ict rfl (decide_eq_true h5) ?_
      refine ev_run (n := 1) (u' := (0, 0)) (f' := (44, [none, none, none], [.int (-1)])) (h' := hp N x) rfl ?_
      cases h
      exact ev_iret rfl rfl rfl (Or.inl rfl)
    · refine ev_icf rfl (decide_eq_false h5) ?_
      refine ev_run (n := 3) (u' := (0, 0)) (f' := (15, [some (.ref 115), some (.int a1), some (.int a2)], [.int a2, .ref 117])) (h' := hp N x) rfl ?_
      obtain ⟨h1, h⟩ := cond_some h
      refine ev_aald rfl rfl h1 (rf_117 h1) ?_
      refine ev_gfi rfl rfl (IN_lt N _ (lt_of_aIn h1)) ?_
      refine ev_run (n := 1) (u' := (0, 0)) (f' := (20, [some (.ref 115), some (.int a1), some (.int a2)], [.int a1, .int (x.1 (118 + xi a2) 0)])) (h' := hp N x) rfl ?_
      rcases ite_or h with ⟨h4, h⟩ | ⟨h4, h⟩
      · refine ev_icf rfl (decide_eq_false (fun w => w h4)) ?_
        refine ev_run (n := 3) (u' := (0, 0)) (f' := (28, [some (.ref 115), some (.int a1), some (.int a2)], [.int a2, .ref 117])) (h' := hp N x) rfl ?_
        obtain ⟨h2, h⟩ := cond_some h
        refine ev_aald rfl rfl h2 (rf_117 h2) ?_
        refine ev_gfi rfl rfl (IN_lt N _ (lt_of_aIn h2)) ?_
        rcases ite_or h with ⟨h3, h⟩ | ⟨h3, h⟩
        · refine ev_iff rfl (decide_eq_false (fun w => w h3)) ?_
          refine ev_run (n := 1) (u' := (0, 0)) (f' := (36, [some (.ref 115), some (.int a1), some (.int a2)], [.int a2])) (h' := hp N x) rfl ?_
          cases h
          exact ev_iret rfl rfl rfl (Or.inl rfl)
        · refine ev_ift rfl (decide_eq_true h3) ?_
          exact em18_37 (gm18_2 n) q2 a1 a2 x _ h
      · refine ev_ict rfl (decide_eq_true h4) ?_
        exact em18_37 (gm18_2 n) q2 a1 a2 x _ h
def gm18 (a1 : Int32) (x : Hs) : Option (Int32) := gm18_2 FU a1 0 x
theorem em18 {N : Nat} (a1 : Int32) (x : Hs) (r : Int32) (h : gm18 a1 x = some r) : Ev 18 (0, 0) (0, aPad [.ref 115, .int a1] 3, []) (hp N x) (cvPi N x r) := by
  show Ev 18 (0, 0) (0, [some (.ref 115), some (.int a1), none], []) (hp N x) _
  unfold gm18 at h
  refine ev_run (n := 2) (u' := (0, 0)) (f' := (2, [some (.ref 115), some (.int a1), some (.int 0)], [])) (h' := hp N x) rfl ?_
  exact em18_2 FU a1 0 x _ h
def gm36 (a0 : Nat) (a1 : Int32) (x : Hs) : Option (Hs) := some (wI (wI (wI x a0 3 a1) a0 4 ((wI x a0 3 a1).1 a0 4 ||| (1 <<< (a1 &&& 31)))) a0 7 ((wI (wI x a0 3 a1) a0 4 ((wI x a0 3 a1).1 a0 4 ||| (1 <<< (a1 &&& 31)))).1 a0 7 + 10))
theorem em36 {N : Nat} (a0 : Nat) (a1 : Int32) (fa0 : IN N a0) (x : Hs) (r : Hs) (h : gm36 a0 a1 x = some r) : Ev 36 (0, 0) (0, aPad [.ref a0, .int a1] 2, []) (hp N x) (cvMv N r) := by
  show Ev 36 (0, 0) (0, [some (.ref a0), some (.int a1)], []) (hp N x) _
  unfold gm36 at h
  refine ev_run (n := 2) (u' := (0, 0)) (f' := (2, [some (.ref a0), some (.int a1)], [.int a1, .ref a0])) (h' := hp N x) rfl ?_
  refine ev_pfi rfl fa0 rfl ?_
  show Ev 36 (0, 0) (5, [some (.ref a0), some (.int a1)], []) (hp N (wI x a0 3 a1)) _
  refine ev_run (n := 2) (u' := (0, 0)) (f' := (7, [some (.ref a0), some (.int a1)], [.ref a0, .ref a0])) (h' := hp N (wI x a0 3 a1)) rfl ?_
  refine ev_gfi rfl rfl fa0 ?_
  refine ev_run (n := 4) (u' := (0, 0)) (f' := (14, [some (.ref a0), some (.int a1)], [.int ((wI x a0 3 a1).1 a0 4 ||| (1 <<< (a1 &&& 31))), .ref a0])) (h' := hp N (wI x a0 3 a1)) rfl ?_
  refine ev_pfi rfl fa0 rfl ?_
  show Ev 36 (0, 0) (17, [some (.ref a0), some (.int a1)], []) (hp N (wI (wI x a0 3 a1) a0 4 ((wI x a0 3 a1).1 a0 4 ||| (1 <<< (a1 &&& 31))))) _
  refine ev_run (n := 2) (u' := (0, 0)) (f' := (19, [some (.ref a0), some (.int a1)], [.ref a0, .ref a0])) (h' := hp N (wI (wI x a0 3 a1) a0 4 ((wI x a0 3 a1).1 a0 4 ||| (1 <<< (a1 &&& 31))))) rfl ?_
  refine ev_gfi rfl rfl fa0 ?_
  refine ev_run (n := 2) (u' := (0, 0)) (f' := (25, [some (.ref a0), some (.int a1)], [.int ((wI (wI x a0 3 a1) a0 4 ((wI x a0 3 a1).1 a0 4 ||| (1 <<< (a1 &&& 31)))).1 a0 7 + 10), .ref a0])) (h' := hp N (wI (wI x a0 3 a1) a0 4 ((wI x a0 3 a1).1 a0 4 ||| (1 <<< (a1 &&& 31))))) rfl ?_
  refine ev_pfi rfl fa0 rfl ?_
  show Ev 36 (0, 0) (28, [some (.ref a0), some (.int a1)], []) (hp N (wI (wI (wI x a0 3 a1) a0 4 ((wI x a0 3 a1).1 a0 4 ||| (1 <<< (a1 &&& 31)))) a0 7 ((wI (wI x a0 3 a1) a0 4 ((wI x a0 3 a1).1 a0 4 ||| (1 <<< (a1 &&& 31)))).1 a0 7 + 10))) _
  cases h
  exact ev_vret rfl rfl rfl
def gm33 (a0 : Nat) (a1 : Int32) (a2 : Int32) (a3 : Int32) (a4 : Int32) (x : Hs) : Option (Hs) := (gm36 a0 a3 (wI (wI (wI (wI x a0 0 a1) a0 1 a2) a0 2 1) a0 7 a4)).bind fun w1 => (some w1)
theorem em33 {N : Nat} (a0 : Nat) (a1 : Int32) (a2 : Int32) (a3 : Int32) (a4 : Int32) (fa0 : IN N a0) (x : Hs) (r : Hs) (h : gm33 a0 a1 a2 a3 a4 x = some r) : Ev 33 (0, 0) (0, aPad [.ref a0, .int a1, .int a2, .int a3, .int a4] 5, []) (hp N x) (cvMv N r) := by
  show Ev 33 (0, 0) (0, [some (.ref a0), some (.int a1), some (.int a2), some (.int a3), some (.int a4)], []) (hp N x) _
  unfold gm33 at h
  refine ev_run (n := 2) (u' := (0, 0)) (f' := (2, [some (.ref a0), some (.int a1), some (.int a2), some (.int a3), some (.int a4)], [.int a1, .ref a0])) (h' := hp N x) rfl ?_
  refine ev_pfi rfl fa0 rfl ?_
  show Ev 33 (0, 0) (5, [some (.ref a0), some (.int a1), some (.int a2), some (.int a3), some (.int a4)], []) (hp N (wI x a0 0 a1)) _
  refine ev_run (n := 2) (u' := (0, 0)) (f' := (7, [some (.ref a0), some (.int a1), some (.int a2), some (.int a3), some (.int a4)], [.int a2, .ref a0])) (h' := hp N (wI x a0 0 a1)) rfl ?_
  refine ev_pfi rfl fa0 rfl ?_
  show Ev 33 (0, 0) (10, [some (.ref a0), some (.int a1), some (.int a2), some (.int a3), some (.int a4)], []) (hp N (wI (wI x a0 0 a1) a0 1 a2)) _
  refine ev_run (n := 2) (u' := (0, 0)) (f' := (12, [some (.ref a0), some (.int a1), some (.int a2), some (.int a3), some (.int a4)], [.int 1, .ref a0])) (h' := hp N (wI (wI x a0 0 a1) a0 1 a2)) rfl ?_
  refine ev_pfi rfl fa0 rfl ?_
  show Ev 33 (0, 0) (15, [some (.ref a0), some (.int a1), some (.int a2), some (.int a3), some (.int a4)], []) (hp N (wI (wI (wI x a0 0 a1) a0 1 a2) a0 2 1)) _
  refine ev_run (n := 2) (u' := (0, 0)) (f' := (18, [some (.ref a0), some (.int a1), some (.int a2), some (.int a3), some (.int a4)], [.int a4, .ref a0])) (h' := hp N (wI (wI (wI x a0 0 a1) a0 1 a2) a0 2 1)) rfl ?_
  refine ev_pfi rfl fa0 rfl ?_
  show Ev 33 (0, 0) (21, [some (.ref a0), some (.int a1), some (.int a2), some (.int a3), some (.int a4)], []) (hp N (wI (wI (wI (wI x a0 0 a1) a0 1 a2) a0 2 1) a0 7 a4)) _
  refine ev_run (n := 2) (u' := (0, 0)) (f' := (23, [some (.ref a0), some (.int a1), some (.int a2), some (.int a3), some (.int a4)], [.int a3, .ref a0])) (h' := hp N (wI (wI (wI (wI x a0 0 a1) a0 1 a2) a0 2 1) a0 7 a4)) rfl ?_
  obtain ⟨w1, h2, h⟩ := bind_ok h
  refine ev_call (v := none) (h1 := hp N w1) rfl rfl rfl (ok_q (q0 := 118) (h0 := hp N (x0 (fun _ => 0))) fa0 rfl) (em36 a0 a3 fa0 (wI (wI (wI (wI x a0 0 a1) a0 1 a2) a0 2 1) a0 7 a4) _ h2) ?_
  show Ev 33 (0, 0) (26, [some (.ref a0), some (.int a1), some (.int a2), some (.int a3), some (.int a4)], []) (hp N w1) _
  cases h
  exact ev_vret rfl rfl rfl
def gm19 (a1 : Int32) (a2 : Int32) (a3 : Int32) (x : Hs) : Option (Int32 × Hs) := cond (aIn (x.1 115 1) 12) ((gm17 (a3 / 480) x).bind fun w2 => ((gm33 (118 + xi (x.1 115 1)) a1 a2 w2 a3 x).bind fun w4 => (some (x.1 115 1, (wI w4 115 1 (w4.1 115 1 + 1)))))) none
theorem em19 {N : Nat} (a1 : Int32) (a2 : Int32) (a3 : Int32) (x : Hs) (r : Int32 × Hs) (h : gm19 a1 a2 a3 x = some r) : Ev 19 (0, 0) (0, aPad [.ref 115, .int a1, .int a2, .int a3] 5, []) (hp N x) (cvMi N r) := by
  show Ev 19 (0, 0) (0, [some (.ref 115), some (.int a1), some (.int a2), some (.int a3), none], []) (hp N x) _
  unfold gm19 at h
  refine ev_run (n := 6) (u' := (0, 0)) (f' := (12, [some (.ref 115), some (.int a1), some (.int a2), some (.int a3), some (.int (x.1 115 1))], [.int (x.1 115 1), .ref 117])) (h' := hp N x) rfl ?_
  obtain ⟨h1, h⟩ := cond_some h
  refine ev_aald rfl rfl h1 (rf_117 h1) ?_
  refine ev_run (n := 5) (u' := (0, 0)) (f' := (20, [some (.ref 115), some (.int a1), some (.int a2), some (.int a3), some (.int (x.1 115 1))], [.int 480, .int a3, .ref 115, .int a2, .int a1, .ref (118 + xi (x.1 115 1))])) (h' := hp N x) rfl ?_
  refine ev_idiv rfl (by decide) ?_
  obtain ⟨w2, h3, h⟩ := bind_ok h
  refine ev_call (v := some (.int w2)) (h1 := hp N x) rfl rfl rfl rfl (em17 (a3 / 480) x _ h3) ?_
  show Ev 19 (0, 0) (24, [some (.ref 115), some (.int a1), some (.int a2), some (.int a3), some (.int (x.1 115 1))], [.int w2, .int a2, .int a1, .ref (118 + xi (x.1 115 1))]) (hp N x) _
  refine ev_run (n := 1) (u' := (0, 0)) (f' := (25, [some (.ref 115), some (.int a1), some (.int a2), some (.int a3), some (.int (x.1 115 1))], [.int a3, .int w2, .int a2, .int a1, .ref (118 + xi (x.1 115 1))])) (h' := hp N x) rfl ?_
  obtain ⟨w4, h5, h⟩ := bind_ok h
  refine ev_call (v := none) (h1 := hp N w4) rfl rfl rfl (ok_q (q0 := 118) (h0 := hp N (x0 (fun _ => 0))) (IN_lt N _ (lt_of_aIn h1)) rfl) (em33 (118 + xi (x.1 115 1)) a1 a2 w2 a3 (IN_lt N _ (lt_of_aIn h1)) x _ h5) ?_
  show Ev 19 (0, 0) (28, [some (.ref 115), some (.int a1), some (.int a2), some (.int a3), some (.int (x.1 115 1))], []) (hp N w4) _
  refine ev_run (n := 7) (u' := (0, 0)) (f' := (40, [some (.ref 115), some (.int a1), some (.int a2), some (.int a3), some (.int (x.1 115 1))], [.int (x.1 115 1)])) (h' := hp N (wI w4 115 1 (w4.1 115 1 + 1))) rfl ?_
  cases h
  exact ev_iret rfl rfl rfl (Or.inl rfl)
def gm20_45 (k2 : Int32 → Int32 → Hs → Option (Int32)) (a1 : Int32) (a2 : Int32) (x : Hs) : Option (Int32) := k2 a1 (a2 + 1) x
theorem em20_45 {N : Nat} (k2 : Int32 → Int32 → Hs → Option (Int32)) (q2 : ∀ (a1 : Int32) (a2 : Int32) (x : Hs) (r : Int32), k2 a1 a2 x = some r → Ev 20 (0, 0) (2, [some (.ref 115), some (.int a1), some (.int a2), none], []) (hp N x) (cvPi N x r)) (a1 : Int32) (a2 : Int32) (x : Hs) (r : Int32) (h : gm20_45 k2 a1 a2 x = some r) : Ev 20 (0, 0) (45, [some (.ref 115), some (.int a1), some (.int a2), none], []) (hp N x) (cvPi N x r) := by
  unfold gm20_45 at h
  refine ev_run (n := 2) (u' := (0, 0)) (f' := (2, [some (.ref 115), some (.int a1), some (.int (a2 + 1)), none], [])) (h' := hp N x) rfl ?_
  exact q2 a1 (a2 + 1) x _ h
def gm20_2 : Nat → Int32 → Int32 → Hs → Option (Int32)
  | 0, _, _, _ => none
  | n + 1, a1, a2, x => if a2 ≥ x.1 115 1 then (some 0) else (cond (aIn a2 12) (if x.1 (118 + xi a2) 6 = 0 then (if x.1 (118 + xi a2) 1 < 2 then (gm20_45 (gm20_2 n) a1 a2 x) else ((gm101 a1 (x.1 (118 + xi a2) 0) x).bind fun w2 => (if w2 = 0 then (gm20_45 (gm20_2 n) a1 a2 x) else (some 1)))) else (gm20_45 (gm20_2 n) a1 a2 x)) none)
theorem em20_2 {N : Nat} : ∀ (n : Nat) (a1 : Int32) (a2 : Int32) (x : Hs) (r : Int32), gm20_2 n a1 a2 x = some r → Ev 20 (0, 0) (2, [some (.ref 115), some (.int a1), some (.int a2), none], []) (hp N x) (cvPi N x r)
  | 0, a1, a2, x, r, h => by
    have e9 : (none : Option (Int32)) = some r := h
    cases e9
  | n + 1, a1, a2, x, r, h => by
    have q2 := em20_2 (N := N) n
    rw [gm20_2] at h
    refine ev_run (n := 3) (u' := (0, 0)) (f' := (7, [some (.ref 115), some (.int a1), some (.int a2), none], [.int (x.1 115 1), .int a2])) (h' := hp N x) rfl ?_
    rcases ite_or h with ⟨h7, h⟩ | ⟨h7, h⟩
    · refine ev_ict rfl (decide_eq_true h7) ?_
      refine ev_run (n := 1) (u' := (0, 0)) (f' := (52, [none, none, none, none], [.int 0])) (h' := hp N x) rfl ?_
      cases h
      exact ev_iret rfl rfl rfl (Or.inr ⟨rfl, rfl⟩)
    · refine ev_icf rfl (decide_eq_false h7) ?_
      refine ev_run (n := 3) (u' := (0, 0)) (f' := (15, [some (.ref 115), some (.int a1), some (.int a2), none], [.int a2, .ref 117])) (h' := hp N x) rfl ?_
      obtain ⟨h1, h⟩ := cond_some h
      refine ev_aald rfl rfl h1 (rf_117 h1) ?_
      refine ev_run (n := 2) (u' := (0, 0)) (f' := (18, [some (.ref 115), some (.int a1), some (.int a2), some (.ref (118 + xi a2))], [.ref (118 + xi a2)])) (h' := hp N x) rfl ?_
      refine ev_gfi rfl rfl (IN_lt N _ (lt_of_aIn h1)) ?_
      rcases ite_or h with ⟨h6, h⟩ | ⟨h6, h⟩
      · refine ev_iff rfl (decide_eq_false (fun w => w h6)) ?_
        refine ev_run (n := 1) (u' := (0, 0)) (f' := (25, [some (.ref 115), some (.int a1), some (.int a2), some (.ref (118 + xi a2))], [.ref (118 + xi a2)])) (h' := hp N x) rfl ?_
        refine ev_gfi rfl rfl (IN_lt N _ (lt_of_aIn h1)) ?_
        refine ev_run (n := 1) (u' := (0, 0)) (f' := (29, [some (.ref 115), some (.int a1), some (.int a2), some (.ref (118 + xi a2))], [.int 2, .int (x.1 (118 + xi a2) 1)])) (h' := hp N x) rfl ?_
        rcases ite_or h with ⟨h5, h⟩ | ⟨h5, h⟩
        · refine ev_ict rfl (decide_eq_true h5) ?_
          exact em20_45 (gm20_2 n) q2 a1 a2 x _ h
        · refine ev_icf rfl (decide_eq_false h5) ?_
          refine ev_run (n := 2) (u' := (0, 0)) (f' := (34, [some (.ref 115), some (.int a1), some (.int a2), some (.ref (118 + xi a2))], [.ref (118 + xi a2), .int a1])) (h' := hp N x) rfl ?_
          refine ev_gfi rfl rfl (IN_lt N _ (lt_of_aIn h1)) ?_
          obtain ⟨w2, h3, h⟩ := bind_ok h
          refine ev_call (v := some (.int w2)) (h1 := hp N x) rfl rfl rfl rfl (em101 a1 (x.1 (118 + xi a2) 0) x _ h3) ?_
          show Ev 20 (0, 0) (40, [some (.ref 115), some (.int a1), some (.int a2), some (.ref (118 + xi a2))], [.int w2]) (hp N x) _
          rcases ite_or h with ⟨h4, h⟩ | ⟨h4, h⟩
          · refine ev_ift rfl (decide_eq_true h4) ?_
            exact em20_45 (gm20_2 n) q2 a1 a2 x _ h
          · refine ev_iff rfl (decide_eq_false h4) ?_
            refine ev_run (n := 1) (u' := (0, 0)) (f' := (44, [some (.ref 115), some (.int a1), some (.int a2), some (.ref (118 + xi a2))], [.int 1])) (h' := hp N x) rfl ?_
            cases h
            exact ev_iret rfl rfl rfl (Or.inr ⟨rfl, rfl⟩)
      · refine ev_ift rfl (decide_eq_true h6) ?_
        exact em20_45 (gm20_2 n) q2 a1 a2 x _ h
def gm20 (a1 : Int32) (x : Hs) : Option (Int32) := gm20_2 FU a1 0 x
theorem em20 {N : Nat} (a1 : Int32) (x : Hs) (r : Int32) (h : gm20 a1 x = some r) : Ev 20 (0, 0) (0, aPad [.ref 115, .int a1] 4, []) (hp N x) (cvPi N x r) := by
  show Ev 20 (0, 0) (0, [some (.ref 115), some (.int a1), none, none], []) (hp N x) _
  unfold gm20 at h
  refine ev_run (n := 2) (u' := (0, 0)) (f' := (2, [some (.ref 115), some (.int a1), some (.int 0), none], [])) (h' := hp N x) rfl ?_
  exact em20_2 FU a1 0 x _ h
def gm35_46 (k2 : Nat → Int32 → Int32 → Int32 → Hs → Option (Hs)) (a0 : Nat) (a1 : Int32) (a2 : Int32) (a3 : Int32) (s0 : Nat) (s1 : Int32) (x : Hs) : Option (Hs) := (gm36 s0 s1 x).bind fun w5 => (k2 a0 a1 a2 (a3 + 1) w5)
theorem em35_46 {N : Nat} (k2 : Nat → Int32 → Int32 → Int32 → Hs → Option (Hs)) (q2 : ∀ (a0 : Nat) (a1 : Int32) (a2 : Int32) (a3 : Int32) (fa0 : IN N a0) (x : Hs) (r : Hs), k2 a0 a1 a2 a3 x = some r → Ev 35 (0, 0) (2, [some (.ref a0), some (.int a1), some (.int a2), some (.int a3)], []) (hp N x) (cvMv N r)) (a0 : Nat) (a1 : Int32) (a2 : Int32) (a3 : Int32) (s0 : Nat) (s1 : Int32) (fa0 : IN N a0) (fs0 : IN N s0) (x : Hs) (r : Hs) (h : gm35_46 k2 a0 a1 a2 a3 s0 s1 x = some r) : Ev 35 (0, 0) (46, [some (.ref a0), some (.int a1), some (.int a2), some (.int a3)], [.int s1, .ref s0]) (hp N x) (cvMv N r) := by
  unfold gm35_46 at h
  obtain ⟨w5, h6, h⟩ := bind_ok h
  refine ev_call (v := none) (h1 := hp N w5) rfl rfl rfl (ok_q (q0 := 118) (h0 := hp N (x0 (fun _ => 0))) fs0 rfl) (em36 s0 s1 fs0 x _ h6) ?_
  show Ev 35 (0, 0) (49, [some (.ref a0), some (.int a1), some (.int a2), some (.int a3)], []) (hp N w5) _
  refine ev_run (n := 2) (u' := (0, 0)) (f' := (2, [some (.ref a0), some (.int a1), some (.int a2), some (.int (a3 + 1))], [])) (h' := hp N w5) rfl ?_
  exact q2 a0 a1 a2 (a3 + 1) fa0 w5 _ h
def gm35_2 : Nat → Nat → Int32 → Int32 → Int32 → Hs → Option (Hs)
  | 0, _, _, _, _, _ => none
  | n + 1, a0, a1, a2, a3, x => if a3 ≥ 600 then (some x) else (if x.1 a0 5 = (-1) then (if x.1 a0 7 > a1 then (some x) else (if (x.1 a0 3 + 1) ≥ a2 then (gm35_46 (gm35_2 n) a0 a1 a2 a3 a0 0 x) else (gm35_46 (gm35_2 n) a0 a1 a2 a3 a0 (x.1 a0 3 + 1) x))) else (some x))
theorem em35_2 {N : Nat} : ∀ (n : Nat) (a0 : Nat) (a1 : Int32) (a2 : Int32) (a3 : Int32) (fa0 : IN N a0) (x : Hs) (r : Hs), gm35_2 n a0 a1 a2 a3 x = some r → Ev 35 (0, 0) (2, [some (.ref a0), some (.int a1), some (.int a2), some (.int a3)], []) (hp N x) (cvMv N r)
  | 0, a0, a1, a2, a3, fa0, x, r, h => by
    have e9 : (none : Option (Hs)) = some r := h
    cases e9
  | n + 1, a0, a1, a2, a3, fa0, x, r, h => by
    have q2 := em35_2 (N := N) n
    rw [gm35_2] at h
    refine ev_run (n := 2) (u' := (0, 0)) (f' := (6, [some (.ref a0), some (.int a1), some (.int a2), some (.int a3)], [.int 600, .int a3])) (h' := hp N x) rfl ?_
    rcases ite_or h with ⟨h4, h⟩ | ⟨h4, h⟩
    · refine ev_ict rfl (decide_eq_true h4) ?_
      cases h
      exact ev_vret rfl rfl rfl
    · refine ev_icf rfl (decide_eq_false h4) ?_
      refine ev_run (n := 1) (u' := (0, 0)) (f' := (10, [some (.ref a0), some (.int a1), some (.int a2), some (.int a3)], [.ref a0])) (h' := hp N x) rfl ?_
      refine ev_gfi rfl rfl fa0 ?_
      refine ev_run (n := 1) (u' := (0, 0)) (f' := (14, [some (.ref a0), some (.int a1), some (.int a2), some (.int a3)], [.int (-1), .int (x.1 a0 5)])) (h' := hp N x) rfl ?_
      rcases ite_or h with ⟨h3, h⟩ | ⟨h3, h⟩
      · refine ev_icf rfl (decide_eq_false (fun w => w h3)) ?_
        refine ev_run (n := 1) (u' := (0, 0)) (f' := (18, [some (.ref a0), some (.int a1), some (.int a2), some (.int a3)], [.ref a0])) (h' := hp N x) rfl ?_
        refine ev_gfi rfl rfl fa0 ?_
        refine ev_run (n := 1) (u' := (0, 0)) (f' := (22, [some (.ref a0), some (.int a1), some (.int a2), some (.int a3)], [.int a1, .int (x.1 a0 7)])) (h' := hp N x) rfl ?_
        rcases ite_or h with ⟨h2, h⟩ | ⟨h2, h⟩
        · refine ev_ict rfl (decide_eq_true h2) ?_
          cases h
          exact ev_vret rfl rfl rfl
        · refine ev_icf rfl (decide_eq_false h2) ?_
          refine ev_run (n := 2) (u' := (0, 0)) (f' := (27, [some (.ref a0), some (.int a1), some (.int a2), some (.int a3)], [.ref a0, .ref a0])) (h' := hp N x) rfl ?_
          refine ev_gfi rfl rfl fa0 ?_
          refine ev_run (n := 3) (u' := (0, 0)) (f' := (33, [some (.ref a0), some (.int a1), some (.int a2), some (.int a3)], [.int a2, .int (x.1 a0 3 + 1), .ref a0])) (h' := hp N x) rfl ?_
          rcases ite_or h with ⟨h1, h⟩ | ⟨h1, h⟩
          · refine ev_ict rfl (decide_eq_true h1) ?_
            refine ev_run (n := 1) (u' := (0, 0)) (f' := (46, [some (.ref a0), some (.int a1), some (.int a2), some (.int a3)], [.int 0, .ref a0])) (h' := hp N x) rfl ?_
            exact em35_46 (gm35_2 n) q2 a0 a1 a2 a3 a0 0 fa0 fa0 x _ h
          · refine ev_icf rfl (decide_eq_false h1) ?_
            refine ev_run (n := 1) (u' := (0, 0)) (f' := (37, [some (.ref a0), some (.int a1), some (.int a2), some (.int a3)], [.ref a0, .ref a0])) (h' := hp N x) rfl ?_
            refine ev_gfi rfl rfl fa0 ?_
            refine ev_run (n := 3) (u' := (0, 0)) (f' := (46, [some (.ref a0), some (.int a1), some (.int a2), some (.int a3)], [.int (x.1 a0 3 + 1), .ref a0])) (h' := hp N x) rfl ?_
            exact em35_46 (gm35_2 n) q2 a0 a1 a2 a3 a0 (x.1 a0 3 + 1) fa0 fa0 x _ h
      · refine ev_ict rfl (decide_eq_true h3) ?_
        cases h
        exact ev_vret rfl rfl rfl
def gm35 (a0 : Nat) (a1 : Int32) (a2 : Int32) (x : Hs) : Option (Hs) := gm35_2 FU a0 a1 a2 0 x
theorem em35 {N : Nat} (a0 : Nat) (a1 : Int32) (a2 : Int32) (fa0 : IN N a0) (x : Hs) (r : Hs) (h : gm35 a0 a1 a2 x = some r) : Ev 35 (0, 0) (0, aPad [.ref a0, .int a1, .int a2] 4, []) (hp N x) (cvMv N r) := by
  show Ev 35 (0, 0) (0, [some (.ref a0), some (.int a1), some (.int a2), none], []) (hp N x) _
  unfold gm35 at h
  refine ev_run (n := 2) (u' := (0, 0)) (f' := (2, [some (.ref a0), some (.int a1), some (.int a2), some (.int 0)], [])) (h' := hp N x) rfl ?_
  exact em35_2 FU a0 a1 a2 0 fa0 x _ h
def gm21_2 : Nat → Int32 → Int32 → Hs → Option (Hs)
  | 0, _, _, _ => none
  | n + 1, a1, a2, x => if a2 ≥ x.1 115 1 then (some x) else (cond (aIn a2 12) ((gm35 (118 + xi a2) a1 (x.1 115 0) x).bind fun w2 => (gm21_2 n a1 (a2 + 1) w2)) none)
theorem em21_2 {N : Nat} : ∀ (n : Nat) (a1 : Int32) (a2 : Int32) (x : Hs) (r : Hs), gm21_2 n a1 a2 x = some r → Ev 21 (0, 0) (2, [some (.ref 115), some (.int a1), some (.int a2)], []) (hp N x) (cvMv N r)
  | 0, a1, a2, x, r, h => by
    have e9 : (none : Option (Hs)) = some r := h
    cases e9
  | n + 1, a1, a2, x, r, h => by
    have q2 := em21_2 (N := N) n
    rw [gm21_2] at h
    refine ev_run (n := 3) (u' := (0, 0)) (f' := (7, [some (.ref 115), some (.int a1), some (.int a2)], [.int (x.1 115 1), .int a2])) (h' := hp N x) rfl ?_
    rcases ite_or h with ⟨h4, h⟩ | ⟨h4, h⟩
    · refine ev_ict rfl (decide_eq_true h4) ?_
      cases h
      exact ev_vret rfl rfl rfl
    · refine ev_icf rfl (decide_eq_false h4) ?_
      refine ev_run (n := 3) (u' := (0, 0)) (f' := (15, [some (.ref 115), some (.int a1), some (.int a2)], [.int a2, .ref 117])) (h' := hp N x) rfl ?_
      obtain ⟨h1, h⟩ := cond_some h
      refine ev_aald rfl rfl h1 (rf_117 h1) ?_
      refine ev_run (n := 3) (u' := (0, 0)) (f' := (21, [some (.ref 115), some (.int a1), some (.int a2)], [.int (x.1 115 0), .int a1, .ref (118 + xi a2)])) (h' := hp N x) rfl ?_
      obtain ⟨w2, h3, h⟩ := bind_ok h
      refine ev_call (v := none) (h1 := hp N w2) rfl rfl rfl (ok_q (q0 := 118) (h0 := hp N (x0 (fun _ => 0))) (IN_lt N _ (lt_of_aIn h1)) rfl) (em35 (118 + xi a2) a1 (x.1 115 0) (IN_lt N _ (lt_of_aIn h1)) x _ h3) ?_
      show Ev 21 (0, 0) (24, [some (.ref 115), some (.int a1), some (.int a2)], []) (hp N w2) _
      refine ev_run (n := 2) (u' := (0, 0)) (f' := (2, [some (.ref 115), some (.int a1), some (.int (a2 + 1))], [])) (h' := hp N w2) rfl ?_
      exact q2 a1 (a2 + 1) w2 _ h
def gm21 (a1 : Int32) (x : Hs) : Option (Hs) := gm21_2 FU a1 0 x
theorem em21 {N : Nat} (a1 : Int32) (x : Hs) (r : Hs) (h : gm21 a1 x = some r) : Ev 21 (0, 0) (0, aPad [.ref 115, .int a1] 3, []) (hp N x) (cvMv N r) := by
  show Ev 21 (0, 0) (0, [some (.ref 115), some (.int a1), none], []) (hp N x) _
  unfold gm21 at h
  refine ev_run (n := 2) (u' := (0, 0)) (f' := (2, [some (.ref 115), some (.int a1), some (.int 0)], [])) (h' := hp N x) rfl ?_
  exact em21_2 FU a1 0 x _ h
def gm23 (a1 : Int32) (a2 : Int32) (a3 : Int32) (a4 : Int32) (x : Hs) : Option (Int32 × Hs) := cond (aIn (x.1 107 0) 12) (cond (aIn (x.1 107 0) 12) (cond (aIn (x.1 107 0) 12) (cond (aIn (x.1 107 0) 12) (some (x.1 107 0, (wI (wI (wI (wI (wI x 108 (xi (x.1 107 0)) a1) 109 (xi (x.1 107 0)) a2) 110 (xi (x.1 107 0)) a3) 112 (xi (x.1 107 0)) a4) 107 0 ((wI (wI (wI (wI x 108 (xi (x.1 107 0)) a1) 109 (xi (x.1 107 0)) a2) 110 (xi (x.1 107 0)) a3) 112 (xi (x.1 107 0)) a4).1 107 0 + 1)))) none) none) none) none
theorem em23 {N : Nat} (a1 : Int32) (a2 : Int32) (a3 : Int32) (a4 : Int32) (x : Hs) (r : Int32 × Hs) (h : gm23 a1 a2 a3 a4 x = some r) : Ev 23 (0, 0) (0, aPad [.ref 107, .int a1, .int a2, .int a3, .int a4] 6, []) (hp N x) (cvMi N r) := by
  show Ev 23 (0, 0) (0, [some (.ref 107), some (.int a1), some (.int a2), some (.int a3), some (.int a4), none], []) (hp N x) _
  unfold gm23 at h
  refine ev_run (n := 7) (u' := (0, 0)) (f' := (13, [some (.ref 107), some (.int a1), some (.int a2), some (.int a3), some (.int a4), some (.int (x.1 107 0))], [.int a1, .int (x.1 107 0), .ref 108])) (h' := hp N x) rfl ?_
  obtain ⟨h1, h⟩ := cond_some h
  refine ev_iast rfl rfl h1 ?_
  show Ev 23 (0, 0) (14, [some (.ref 107), some (.int a1), some (.int a2), some (.int a3), some (.int a4), some (.int (x.1 107 0))], []) (hp N (wI x 108 (xi (x.1 107 0)) a1)) _
  refine ev_run (n := 4) (u' := (0, 0)) (f' := (21, [some (.ref 107), some (.int a1), some (.int a2), some (.int a3), some (.int a4), some (.int (x.1 107 0))], [.int a2, .int (x.1 107 0), .ref 109])) (h' := hp N (wI x 108 (xi (x.1 107 0)) a1)) rfl ?_
  obtain ⟨h2, h⟩ := cond_some h
  refine ev_iast rfl rfl h2 ?_
  show Ev 23 (0, 0) (22, [some (.ref 107), some (.int a1), some (.int a2), some (.int a3), some (.int a4), some (.int (x.1 107 0))], []) (hp N (wI (wI x 108 (xi (x.1 107 0)) a1) 109 (xi (x.1 107 0)) a2)) _
  refine ev_run (n := 4) (u' := (0, 0)) (f' := (29, [some (.ref 107), some (.int a1), some (.int a2), some (.int a3), some (.int a4), some (.int (x.1 107 0))], [.int a3, .int (x.1 107 0), .ref 110])) (h' := hp N (wI (wI x 108 (xi (x.1 107 0)) a1) 109 (xi (x.1 107 0)) a2)) rfl ?_
  obtain ⟨h3, h⟩ := cond_some h
  refine ev_iast rfl rfl h3 ?_
  show Ev 23 (0, 0) (30, [some (.ref 107), some (.int a1), some (.int a2), some (.int a3), some (.int a4), some (.int (x.1 107 0))], []) (hp N (wI (wI (wI x 108 (xi (x.1 107 0)) a1) 109 (xi (x.1 107 0)) a2) 110 (xi (x.1 107 0)) a3)) _
  refine ev_run (n := 4) (u' := (0, 0)) (f' := (38, [some (.ref 107), some (.int a1), some (.int a2), some (.int a3), some (.int a4), some (.int (x.1 107 0))], [.int a4, .int (x.1 107 0), .ref 112])) (h' := hp N (wI (wI (wI x 108 (xi (x.1 107 0)) a1) 109 (xi (x.1 107 0)) a2) 110 (xi (x.1 107 0)) a3)) rfl ?_
  obtain ⟨h4, h⟩ := cond_some h
  refine ev_iast rfl rfl h4 ?_
  show Ev 23 (0, 0) (39, [some (.ref 107), some (.int a1), some (.int a2), some (.int a3), some (.int a4), some (.int (x.1 107 0))], []) (hp N (wI (wI (wI (wI x 108 (xi (x.1 107 0)) a1) 109 (xi (x.1 107 0)) a2) 110 (xi (x.1 107 0)) a3) 112 (xi (x.1 107 0)) a4)) _
  refine ev_run (n := 7) (u' := (0, 0)) (f' := (51, [some (.ref 107), some (.int a1), some (.int a2), some (.int a3), some (.int a4), some (.int (x.1 107 0))], [.int (x.1 107 0)])) (h' := hp N (wI (wI (wI (wI (wI x 108 (xi (x.1 107 0)) a1) 109 (xi (x.1 107 0)) a2) 110 (xi (x.1 107 0)) a3) 112 (xi (x.1 107 0)) a4) 107 0 ((wI (wI (wI (wI x 108 (xi (x.1 107 0)) a1) 109 (xi (x.1 107 0)) a2) 110 (xi (x.1 107 0)) a3) 112 (xi (x.1 107 0)) a4).1 107 0 + 1))) rfl ?_
  cases h
  exact ev_iret rfl rfl rfl (Or.inl rfl)
def gm24_57 (k3 : Int32 → Int32 → Int32 → Int32 → Int32 → Hs → Option (Int32)) (a1 : Int32) (a2 : Int32) (a3 : Int32) (a4 : Int32) (a5 : Int32) (x : Hs) : Option (Int32) := k3 a1 a2 a3 a4 (a5 + 1) x
theorem em24_57 {N : Nat} (k3 : Int32 → Int32 → Int32 → Int32 → Int32 → Hs → Option (Int32)) (q3 : ∀ (a1 : Int32) (a2 : Int32) (a3 : Int32) (a4 : Int32) (a5 : Int32) (x : Hs) (r : Int32), k3 a1 a2 a3 a4 a5 x = some r → Ev 24 (0, 0) (3, [some (.ref 107), some (.int a1), some (.int a2), some (.int a3), some (.int a4), some (.int a5)], []) (hp N x) (cvPi N x r)) (a1 : Int32) (a2 : Int32) (a3 : Int32) (a4 : Int32) (a5 : Int32) (x : Hs) (r : Int32) (h : gm24_57 k3 a1 a2 a3 a4 a5 x = some r) : Ev 24 (0, 0) (57, [some (.ref 107), some (.int a1), some (.int a2), some (.int a3), some (.int a4), some (.int a5)], []) (hp N x) (cvPi N x r) := by
  unfold gm24_57 at h
  refine ev_run (n := 2) (u' := (0, 0)) (f' := (3, [some (.ref 107), some (.int a1), some (.int a2), some (.int a3), some (.int a4), some (.int (a5 + 1))], [])) (h' := hp N x) rfl ?_
  exact q3 a1 a2 a3 a4 (a5 + 1) x _ h
def gm24_3 : Nat → Int32 → Int32 → Int32 → Int32 → Int32 → Hs → Option (Int32)
  | 0, _, _, _, _, _, _ => none
  | n + 1, a1, a2, a3, a4, a5, x => if a5 ≥ x.1 107 0 then (some 1) else (if a5 = a4 then (gm24_57 (gm24_3 n) a1 a2 a3 a4 a5 x) else (cond (aIn a5 12) (if x.1 108 (xi a5) = a1 then (cond (aIn a5 12) (cond (aIn a5 12) (if (if a2 < x.1 109 (xi a5) then x.1 109 (xi a5) else a2) ≥ (if x.1 110 (xi a5) < a3 then x.1 110 (xi a5) else a3) then (gm24_57 (gm24_3 n) a1 a2 a3 a4 a5 x) else (some 0)) none) none) else (gm24_57 (gm24_3 n) a1 a2 a3 a4 a5 x)) none))
theorem em24_3 {N : Nat} : ∀ (n : Nat) (a1 : Int32) (a2 : Int32) (a3 : Int32) (a4 : Int32) (a5 : Int32) (x : Hs) (r : Int32), gm24_3 n a1 a2 a3 a4 a5 x = some r → Ev 24 (0, 0) (3, [some (.ref 107), some (.int a1), some (.int a2), some (.int a3), some (.int a4), some (.int a5)], []) (hp N x) (cvPi N x r)
  | 0, a1, a2, a3, a4, a5, x, r, h => by
    have e9 : (none : Option (Int32)) = some r := h
    cases e9
  | n + 1, a1, a2, a3, a4, a5, x, r, h => by
    have q3 := em24_3 (N := N) n
    rw [gm24_3] at h
    refine ev_run (n := 3) (u' := (0, 0)) (f' := (9, [some (.ref 107), some (.int a1), some (.int a2), some (.int a3), some (.int a4), some (.int a5)], [.int (x.1 107 0), .int a5])) (h' := hp N x) rfl ?_
    rcases ite_or h with ⟨h7, h⟩ | ⟨h7, h⟩
    · refine ev_ict rfl (decide_eq_true h7) ?_
      refine ev_run (n := 1) (u' := (0, 0)) (f' := (64, [none, none, none, none, none, none], [.int 1])) (h' := hp N x) rfl ?_
      cases h
      exact ev_iret rfl rfl rfl (Or.inr ⟨rfl, rfl⟩)
    · refine ev_icf rfl (decide_eq_false h7) ?_
      refine ev_run (n := 2) (u' := (0, 0)) (f' := (16, [some (.ref 107), some (.int a1), some (.int a2), some (.int a3), some (.int a4), some (.int a5)], [.int a4, .int a5])) (h' := hp N x) rfl ?_
      rcases ite_or h with ⟨h6, h⟩ | ⟨h6, h⟩
      · refine ev_ict rfl (decide_eq_true h6) ?_
        exact em24_57 (gm24_3 n) q3 a1 a2 a3 a4 a5 x _ h
      · refine ev_icf rfl (decide_eq_false h6) ?_
        refine ev_run (n := 3) (u' := (0, 0)) (f' := (25, [some (.ref 107), some (.int a1), some (.int a2), some (.int a3), some (.int a4), some (.int a5)], [.int a5, .ref 108])) (h' := hp N x) rfl ?_
        obtain ⟨h1, h⟩ := cond_some h
        refine ev_iald rfl rfl h1 ?_
        refine ev_run (n := 1) (u' := (0, 0)) (f' := (27, [some (.ref 107), some (.int a1), some (.int a2), some (.int a3), some (.int a4), some (.int a5)], [.int a1, .int (x.1 108 (xi a5))])) (h' := hp N x) rfl ?_
        rcases ite_or h with ⟨h5, h⟩ | ⟨h5, h⟩
        · refine ev_icf rfl (decide_eq_false (fun w => w h5)) ?_
          refine ev_run (n := 4) (u' := (0, 0)) (f' := (37, [some (.ref 107), some (.int a1), some (.int a2), some (.int a3), some (.int a4), some (.int a5)], [.int a5, .ref 109, .int a2])) (h' := hp N x) rfl ?_
          obtain ⟨h2, h⟩ := cond_some h
          refine ev_iald rfl rfl h2 ?_
          refine ev_mm rfl rfl rfl (Nat.zero_le _) (Nat.zero_le _) ?_
          show Ev 24 (0, 0) (41, [some (.ref 107), some (.int a1), some (.int a2), some (.int a3), some (.int a4), some (.int a5)], [.int (if a2 < x.1 109 (xi a5) then x.1 109 (xi a5) else a2)]) (hp N x) _
          refine ev_run (n := 4) (u' := (0, 0)) (f' := (48, [some (.ref 107), some (.int a1), some (.int a2), some (.int a3), some (.int a4), some (.int a5)], [.int a5, .ref 110, .int a3, .int (if a2 < x.1 109 (xi a5) then x.1 109 (xi a5) else a2)])) (h' := hp N x) rfl ?_
          obtain ⟨h3, h⟩ := cond_some h
          refine ev_iald rfl rfl h3 ?_
          refine ev_mm rfl rfl rfl (Nat.zero_le _) (Nat.zero_le _) ?_
          show Ev 24 (0, 0) (52, [some (.ref 107), some (.int a1), some (.int a2), some (.int a3), some (.int a4), some (.int a5)], [.int (if x.1 110 (xi a5) < a3 then x.1 110 (xi a5) else a3), .int (if a2 < x.1 109 (xi a5) then x.1 109 (xi a5) else a2)]) (hp N x) _
          rcases ite_or h with ⟨h4, h⟩ | ⟨h4, h⟩
          · refine ev_ict rfl (decide_eq_true h4) ?_
            exact em24_57 (gm24_3 n) q3 a1 a2 a3 a4 a5 x _ h
          · refine ev_icf rfl (decide_eq_false h4) ?_
            refine ev_run (n := 1) (u' := (0, 0)) (f' := (56, [some (.ref 107), some (.int a1), some (.int a2), some (.int a3), some (.int a4), some (.int a5)], [.int 0])) (h' := hp N x) rfl ?_
            cases h
            exact ev_iret rfl rfl rfl (Or.inr ⟨rfl, rfl⟩)
        · refine ev_ict rfl (decide_eq_true h5) ?_
          exact em24_57 (gm24_3 n) q3 a1 a2 a3 a4 a5 x _ h
