/-! The methods as functions; printed by dec.py -/
def gm38_117 (a2 : Int32) (x : Hs) : Option (Int32 × Hs) := gm38_120 FU a2 0 x
theorem em38_117 {N : Nat} (a2 : Int32) (x : Hs) (r : Int32 × Hs) (h : gm38_117 a2 x = some r) : Ev 38 (0, 0) (117, [some (.ref 130), none, some (.int a2), none, none, none], []) (hp N x) (cvMi N r) := by
  unfold gm38_117 at h
  refine ev_run (n := 2) (u' := (0, 0)) (f' := (120, [some (.ref 130), none, some (.int a2), none, none, some (.int 0)], [])) (h' := hp N x) rfl ?_
  exact em38_120 FU a2 0 x _ h
theorem em38_117_k1 {N : Nat} (a2 : Int32) (a3 : Int32) (x : Hs) (r : Int32 × Hs) (h : gm38_117 a2 x = some r) : Ev 38 (0, 0) (117, [some (.ref 130), none, some (.int a2), some (.int a3), none, none], []) (hp N x) (cvMi N r) := by
  unfold gm38_117 at h
  refine ev_run (n := 2) (u' := (0, 0)) (f' := (120, [some (.ref 130), none, some (.int a2), none, none, some (.int 0)], [])) (h' := hp N x) rfl ?_
  exact em38_120 FU a2 0 x _ h
theorem em38_117_k2 {N : Nat} (a2 : Int32) (a3 : Int32) (a4 : Int32) (x : Hs) (r : Int32 × Hs) (h : gm38_117 a2 x = some r) : Ev 38 (0, 0) (117, [some (.ref 130), none, some (.int a2), some (.int a3), some (.int a4), none], []) (hp N x) (cvMi N r) := by
  unfold gm38_117 at h
  refine ev_run (n := 2) (u' := (0, 0)) (f' := (120, [some (.ref 130), none, some (.int a2), none, none, some (.int 0)], [])) (h' := hp N x) rfl ?_
  exact em38_120 FU a2 0 x _ h
def gm38_104 (a2 : Int32) (a3 : Int32) (x : Hs) : Option (Int32 × Hs) := (gm101 a3 a2 x).bind fun w16 => (if w16 = 0 then (gm38_117 a2 x) else (gm38_117 a2 (wI x 130 11 0)))
theorem em38_104 {N : Nat} (a2 : Int32) (a3 : Int32) (x : Hs) (r : Int32 × Hs) (h : gm38_104 a2 a3 x = some r) : Ev 38 (0, 0) (104, [some (.ref 130), none, some (.int a2), some (.int a3), none, none], []) (hp N x) (cvMi N r) := by
  unfold gm38_104 at h
  refine ev_run (n := 2) (u' := (0, 0)) (f' := (106, [some (.ref 130), none, some (.int a2), some (.int a3), none, none], [.int a2, .int a3])) (h' := hp N x) rfl ?_
  obtain ⟨w16, h17, h⟩ := bind_ok h
  refine ev_call (v := some (.int w16)) (h1 := hp N x) rfl rfl rfl rfl (em101 a3 a2 x _ h17) ?_
  show Ev 38 (0, 0) (109, [some (.ref 130), none, some (.int a2), some (.int a3), none, none], [.int w16]) (hp N x) _
  rcases ite_or h with ⟨h18, h⟩ | ⟨h18, h⟩
  · refine ev_ift rfl (decide_eq_true h18) ?_
    exact em38_117 a2 x _ h
  · refine ev_iff rfl (decide_eq_false h18) ?_
    refine ev_run (n := 3) (u' := (0, 0)) (f' := (117, [some (.ref 130), none, some (.int a2), some (.int a3), none, none], [])) (h' := hp N (wI x 130 11 0)) rfl ?_
    exact em38_117_k1 a2 a3 (wI x 130 11 0) _ h
theorem em38_104_k1 {N : Nat} (a2 : Int32) (a3 : Int32) (a4 : Int32) (x : Hs) (r : Int32 × Hs) (h : gm38_104 a2 a3 x = some r) : Ev 38 (0, 0) (104, [some (.ref 130), none, some (.int a2), some (.int a3), some (.int a4), none], []) (hp N x) (cvMi N r) := by
  unfold gm38_104 at h
  refine ev_run (n := 2) (u' := (0, 0)) (f' := (106, [some (.ref 130), none, some (.int a2), some (.int a3), some (.int a4), none], [.int a2, .int a3])) (h' := hp N x) rfl ?_
  obtain ⟨w19, h20, h⟩ := bind_ok h
  refine ev_call (v := some (.int w19)) (h1 := hp N x) rfl rfl rfl rfl (em101 a3 a2 x _ h20) ?_
  show Ev 38 (0, 0) (109, [some (.ref 130), none, some (.int a2), some (.int a3), some (.int a4), none], [.int w19]) (hp N x) _
  rcases ite_or h with ⟨h21, h⟩ | ⟨h21, h⟩
  · refine ev_ift rfl (decide_eq_true h21) ?_
    exact em38_117 a2 x _ h
  · refine ev_iff rfl (decide_eq_false h21) ?_
    refine ev_run (n := 3) (u' := (0, 0)) (f' := (117, [some (.ref 130), none, some (.int a2), some (.int a3), some (.int a4), none], [])) (h' := hp N (wI x 130 11 0)) rfl ?_
    exact em38_117_k2 a2 a3 a4 (wI x 130 11 0) _ h
def gm38_66 (a2 : Int32) (a3 : Int32) (x : Hs) : Option (Int32 × Hs) := (gm43 a3 (-1) (-1) x).bind fun w9 => ((gm45 a3 w9).bind fun w11 => (if w11.1 < 0 then (gm38_104 a2 a3 w11.2) else (if w11.1 ≥ 6480 then (gm38_104 a2 a3 w11.2) else (cond (aIn w11.1 6480) (gm38_104 a2 a3 (wI w11.2 132 (xi w11.1) (w11.2.1 130 8))) none))))
theorem em38_66 {N : Nat} (a2 : Int32) (a3 : Int32) (x : Hs) (r : Int32 × Hs) (h : gm38_66 a2 a3 x = some r) : Ev 38 (0, 0) (66, [some (.ref 130), none, some (.int a2), some (.int a3), none, none], []) (hp N x) (cvMi N r) := by
  unfold gm38_66 at h
  refine ev_run (n := 4) (u' := (0, 0)) (f' := (70, [some (.ref 130), none, some (.int a2), some (.int a3), none, none], [.int (-1), .int (-1), .int a3, .ref 130])) (h' := hp N x) rfl ?_
  obtain ⟨w9, h10, h⟩ := bind_ok h
  refine ev_call (v := none) (h1 := hp N w9) rfl rfl rfl rfl (em43 a3 (-1) (-1) x _ h10) ?_
  show Ev 38 (0, 0) (73, [some (.ref 130), none, some (.int a2), some (.int a3), none, none], []) (hp N w9) _
  refine ev_run (n := 2) (u' := (0, 0)) (f' := (75, [some (.ref 130), none, some (.int a2), some (.int a3), none, none], [.int a3, .ref 130])) (h' := hp N w9) rfl ?_
  obtain ⟨w11, h12, h⟩ := bind_ok h
  refine ev_call (v := some (.int w11.1)) (h1 := hp N w11.2) rfl rfl rfl rfl (em45 a3 w9 _ h12) ?_
  show Ev 38 (0, 0) (78, [some (.ref 130), none, some (.int a2), some (.int a3), none, none], [.int w11.1]) (hp N w11.2) _
  refine ev_run (n := 2) (u' := (0, 0)) (f' := (82, [some (.ref 130), none, some (.int a2), some (.int a3), some (.int w11.1), none], [.int w11.1])) (h' := hp N w11.2) rfl ?_
  rcases ite_or h with ⟨h15, h⟩ | ⟨h15, h⟩
  · refine ev_ift rfl (decide_eq_true h15) ?_
    exact em38_104 a2 a3 w11.2 _ h
  · refine ev_iff rfl (decide_eq_false h15) ?_
    refine ev_run (n := 2) (u' := (0, 0)) (f' := (90, [some (.ref 130), none, some (.int a2), some (.int a3), some (.int w11.1), none], [.int 6480, .int w11.1])) (h' := hp N w11.2) rfl ?_
    rcases ite_or h with ⟨h14, h⟩ | ⟨h14, h⟩
    · refine ev_ict rfl (decide_eq_true h14) ?_
      exact em38_104 a2 a3 w11.2 _ h
    · refine ev_icf rfl (decide_eq_false h14) ?_
      refine ev_run (n := 5) (u' := (0, 0)) (f' := (103, [some (.ref 130), none, some (.int a2), some (.int a3), some (.int w11.1), none], [.int (w11.2.1 130 8), .int w11.1, .ref 132])) (h' := hp N w11.2) rfl ?_
      obtain ⟨h13, h⟩ := cond_some h
      refine ev_iast rfl rfl h13 ?_
      show Ev 38 (0, 0) (104, [some (.ref 130), none, some (.int a2), some (.int a3), some (.int w11.1), none], []) (hp N (wI w11.2 132 (xi w11.1) (w11.2.1 130 8))) _
      exact em38_104_k1 a2 a3 w11.1 (wI w11.2 132 (xi w11.1) (w11.2.1 130 8)) _ h
def gm38_33 : Nat → Nat → Int32 → Int32 → Int32 → Hs → Option (Int32 × Hs)
  | 0, _, _, _, _, _ => none
  | n + 1, a1, a2, a3, a4, x => if a4 ≥ 5 then (gm38_66 a2 a3 x) else (cond (aIn a4 5) (if x.1 a1 (xi a4) = (-1) then (gm38_58 (gm38_33 n) a1 a2 a4 a3 0 x) else (cond (aIn a4 5) (gm38_58 (gm38_33 n) a1 a2 a4 a3 (1 <<< (x.1 a1 (xi a4) &&& 31)) x) none)) none)
theorem em38_33 {N : Nat} : ∀ (n : Nat) (a1 : Nat) (a2 : Int32) (a3 : Int32) (a4 : Int32) (fa1 : A5 N a1) (x : Hs) (r : Int32 × Hs), gm38_33 n a1 a2 a3 a4 x = some r → Ev 38 (0, 0) (33, [some (.ref 130), some (.ref a1), some (.int a2), some (.int a3), some (.int a4), none], []) (hp N x) (cvMi N r)
  | 0, a1, a2, a3, a4, fa1, x, r, h => by
    have e9 : (none : Option (Int32 × Hs)) = some r := h
    cases e9
  | n + 1, a1, a2, a3, a4, fa1, x, r, h => by
    have q33 := em38_33 (N := N) n
    rw [gm38_33] at h
    refine ev_run (n := 2) (u' := (0, 0)) (f' := (36, [some (.ref 130), some (.ref a1), some (.int a2), some (.int a3), some (.int a4), none], [.int 5, .int a4])) (h' := hp N x) rfl ?_
    rcases ite_or h with ⟨h8, h⟩ | ⟨h8, h⟩
    · refine ev_ict rfl (decide_eq_true h8) ?_
      exact em38_66 a2 a3 x _ h
    · refine ev_icf rfl (decide_eq_false h8) ?_
      refine ev_run (n := 3) (u' := (0, 0)) (f' := (43, [some (.ref 130), some (.ref a1), some (.int a2), some (.int a3), some (.int a4), none], [.int a4, .ref a1, .int a3])) (h' := hp N x) rfl ?_
      obtain ⟨h5, h⟩ := cond_some h
      refine ev_iald rfl fa1.kd (fa1.ln h5) ?_
      refine ev_run (n := 1) (u' := (0, 0)) (f' := (45, [some (.ref 130), some (.ref a1), some (.int a2), some (.int a3), some (.int a4), none], [.int (-1), .int (x.1 a1 (xi a4)), .int a3])) (h' := hp N x) rfl ?_
      rcases ite_or h with ⟨h7, h⟩ | ⟨h7, h⟩
      · refine ev_icf rfl (decide_eq_false (fun w => w h7)) ?_
        refine ev_run (n := 2) (u' := (0, 0)) (f' := (58, [some (.ref 130), some (.ref a1), some (.int a2), none, some (.int a4), none], [.int 0, .int a3])) (h' := hp N x) rfl ?_
        exact em38_58 (gm38_33 n) q33 a1 a2 a4 a3 0 fa1 x _ h
      · refine ev_ict rfl (decide_eq_true h7) ?_
        refine ev_run (n := 3) (u' := (0, 0)) (f' := (56, [some (.ref 130), some (.ref a1), some (.int a2), none, some (.int a4), none], [.int a4, .ref a1, .int 1, .int a3])) (h' := hp N x) rfl ?_
        obtain ⟨h6, h⟩ := cond_some h
        refine ev_iald rfl fa1.kd (fa1.ln h6) ?_
        refine ev_run (n := 1) (u' := (0, 0)) (f' := (58, [some (.ref 130), some (.ref a1), some (.int a2), none, some (.int a4), none], [.int (1 <<< (x.1 a1 (xi a4) &&& 31)), .int a3])) (h' := hp N x) rfl ?_
        exact em38_58 (gm38_33 n) q33 a1 a2 a4 a3 (1 <<< (x.1 a1 (xi a4) &&& 31)) fa1 x _ h
def gm38 (a1 : Nat) (a2 : Int32) (x : Hs) : Option (Int32 × Hs) := (gm41 (wI (wI (wI x 130 8 (x.1 130 8 + 1)) 130 10 0) 130 11 (-1))).bind fun w1 => ((gm42 w1).bind fun w3 => (gm38_33 FU a1 a2 0 0 w3))
theorem em38 {N : Nat} (a1 : Nat) (a2 : Int32) (fa1 : A5 N a1) (x : Hs) (r : Int32 × Hs) (h : gm38 a1 a2 x = some r) : Ev 38 (0, 0) (0, aPad [.ref 130, .ref a1, .int a2] 6, []) (hp N x) (cvMi N r) := by
  show Ev 38 (0, 0) (0, [some (.ref 130), some (.ref a1), some (.int a2), none, none, none], []) (hp N x) _
  unfold gm38 at h
  refine ev_run (n := 13) (u' := (0, 0)) (f' := (21, [some (.ref 130), some (.ref a1), some (.int a2), none, none, none], [.ref 130])) (h' := hp N (wI (wI (wI x 130 8 (x.1 130 8 + 1)) 130 10 0) 130 11 (-1))) rfl ?_
  obtain ⟨w1, h2, h⟩ := bind_ok h
  refine ev_call (v := none) (h1 := hp N w1) rfl rfl rfl rfl (em41 (wI (wI (wI x 130 8 (x.1 130 8 + 1)) 130 10 0) 130 11 (-1)) _ h2) ?_
  show Ev 38 (0, 0) (24, [some (.ref 130), some (.ref a1), some (.int a2), none, none, none], []) (hp N w1) _
  refine ev_run (n := 1) (u' := (0, 0)) (f' := (25, [some (.ref 130), some (.ref a1), some (.int a2), none, none, none], [.ref 130])) (h' := hp N w1) rfl ?_
  obtain ⟨w3, h4, h⟩ := bind_ok h
  refine ev_call (v := none) (h1 := hp N w3) rfl rfl rfl rfl (em42 w1 _ h4) ?_
  show Ev 38 (0, 0) (28, [some (.ref 130), some (.ref a1), some (.int a2), none, none, none], []) (hp N w3) _
  refine ev_run (n := 4) (u' := (0, 0)) (f' := (33, [some (.ref 130), some (.ref a1), some (.int a2), some (.int 0), some (.int 0), none], [])) (h' := hp N w3) rfl ?_
  exact em38_33 FU a1 a2 0 0 fa1 w3 _ h
def gm39_34 (a2 : Int32) (x : Hs) : Option (Int32) := if a2 ≤ 0 then (some (-1)) else (cond (aIn a2 6480) (some (x.1 135 (xi a2))) none)
theorem em39_34 {N : Nat} (a2 : Int32) (x : Hs) (r : Int32) (h : gm39_34 a2 x = some r) : Ev 39 (0, 0) (34, [some (.ref 130), none, some (.int a2), none], []) (hp N x) (cvPi N x r) := by
  unfold gm39_34 at h
  refine ev_run (n := 1) (u' := (0, 0)) (f' := (35, [some (.ref 130), none, some (.int a2), none], [.int a2])) (h' := hp N x) rfl ?_
  rcases ite_or h with ⟨h5, h⟩ | ⟨h5, h⟩
  · refine ev_ift rfl (decide_eq_true h5) ?_
    refine ev_run (n := 1) (u' := (0, 0)) (f' := (48, [none, none, none, none], [.int (-1)])) (h' := hp N x) rfl ?_
    cases h
    exact ev_iret rfl rfl rfl (Or.inl rfl)
  · refine ev_iff rfl (decide_eq_false h5) ?_
    refine ev_run (n := 3) (u' := (0, 0)) (f' := (43, [some (.ref 130), none, some (.int a2), none], [.int a2, .ref 135])) (h' := hp N x) rfl ?_
    obtain ⟨h4, h⟩ := cond_some h
    refine ev_iald rfl rfl h4 ?_
    refine ev_run (n := 1) (u' := (0, 0)) (f' := (48, [none, none, none, none], [.int (x.1 135 (xi a2))])) (h' := hp N x) rfl ?_
    cases h
    exact ev_iret rfl rfl rfl (Or.inl rfl)
def gm39_12 : Nat → Int32 → Int32 → Int32 → Hs → Option (Int32)
  | 0, _, _, _, _ => none
  | n + 1, a1, a2, a3, x => if a3 ≤ a1 then (gm39_34 a2 x) else (if a2 ≤ 0 then (gm39_34 a2 x) else (cond (aIn a2 6480) (gm39_12 n a1 (x.1 134 (xi a2)) (a3 + (-1)) x) none))
theorem em39_12 {N : Nat} : ∀ (n : Nat) (a1 : Int32) (a2 : Int32) (a3 : Int32) (x : Hs) (r : Int32), gm39_12 n a1 a2 a3 x = some r → Ev 39 (0, 0) (12, [some (.ref 130), some (.int a1), some (.int a2), some (.int a3)], []) (hp N x) (cvPi N x r)
  | 0, a1, a2, a3, x, r, h => by
    have e9 : (none : Option (Int32)) = some r := h
    cases e9
  | n + 1, a1, a2, a3, x, r, h => by
    have q12 := em39_12 (N := N) n
    rw [gm39_12] at h
    refine ev_run (n := 2) (u' := (0, 0)) (f' := (14, [some (.ref 130), some (.int a1), some (.int a2), some (.int a3)], [.int a1, .int a3])) (h' := hp N x) rfl ?_
    rcases ite_or h with ⟨h3, h⟩ | ⟨h3, h⟩
    · refine ev_ict rfl (decide_eq_true h3) ?_
      exact em39_34 a2 x _ h
    · refine ev_icf rfl (decide_eq_false h3) ?_
      refine ev_run (n := 1) (u' := (0, 0)) (f' := (18, [some (.ref 130), some (.int a1), some (.int a2), some (.int a3)], [.int a2])) (h' := hp N x) rfl ?_
      rcases ite_or h with ⟨h2, h⟩ | ⟨h2, h⟩
      · refine ev_ift rfl (decide_eq_true h2) ?_
        exact em39_34 a2 x _ h
      · refine ev_iff rfl (decide_eq_false h2) ?_
        refine ev_run (n := 3) (u' := (0, 0)) (f' := (26, [some (.ref 130), some (.int a1), some (.int a2), some (.int a3)], [.int a2, .ref 134])) (h' := hp N x) rfl ?_
        obtain ⟨h1, h⟩ := cond_some h
        refine ev_iald rfl rfl h1 ?_
        refine ev_run (n := 3) (u' := (0, 0)) (f' := (12, [some (.ref 130), some (.int a1), some (.int (x.1 134 (xi a2))), some (.int (a3 + (-1)))], [])) (h' := hp N x) rfl ?_
        exact q12 a1 (x.1 134 (xi a2)) (a3 + (-1)) x _ h
def gm39 (a1 : Int32) (x : Hs) : Option (Int32) := gm39_12 FU a1 (x.1 130 11) (x.1 130 12 - 1) x
theorem em39 {N : Nat} (a1 : Int32) (x : Hs) (r : Int32) (h : gm39 a1 x = some r) : Ev 39 (0, 0) (0, aPad [.ref 130, .int a1] 4, []) (hp N x) (cvPi N x r) := by
  show Ev 39 (0, 0) (0, [some (.ref 130), some (.int a1), none, none], []) (hp N x) _
  unfold gm39 at h
  refine ev_run (n := 8) (u' := (0, 0)) (f' := (12, [some (.ref 130), some (.int a1), some (.int (x.1 130 11)), some (.int (x.1 130 12 - 1))], [])) (h' := hp N x) rfl ?_
  exact em39_12 FU a1 (x.1 130 11) (x.1 130 12 - 1) x _ h
def gm48 (a0 : Nat) (a1 : Int32) (a2 : Int32) (a3 : Int32) (x : Hs) : Option (Int32 × Hs) := cond (aIn a1 5) (cond (aIn a1 5) (cond (aIn a1 5) (cond (aIn a1 5) ((gm13 (a0 + 1) (a0 + 2) (wI (wI x (a0 + 1) (xi a1) a2) (a0 + 2) (xi a1) a3)).bind fun w5 => (cond (aIn a1 5) (cond (aIn a1 5) (cond (aBit w5) (some (w5, (wI (wI (wI (wI x (a0 + 1) (xi a1) a2) (a0 + 2) (xi a1) a3) (a0 + 1) (xi a1) (x.1 (a0 + 1) (xi a1))) (a0 + 2) (xi a1) (x.1 (a0 + 2) (xi a1))))) none) none) none)) none) none) none) none
theorem em48 {N : Nat} (a0 : Nat) (a1 : Int32) (a2 : Int32) (a3 : Int32) (fa0 : RG N a0) (x : Hs) (r : Int32 × Hs) (h : gm48 a0 a1 a2 a3 x = some r) : Ev 48 (0, 0) (0, aPad [.ref a0, .int a1, .int a2, .int a3] 7, []) (hp N x) (cvMi N r) := by
  show Ev 48 (0, 0) (0, [some (.ref a0), some (.int a1), some (.int a2), some (.int a3), none, none, none], []) (hp N x) _
  unfold gm48 at h
  refine ev_run (n := 1) (u' := (0, 0)) (f' := (1, [some (.ref a0), some (.int a1), some (.int a2), some (.int a3), none, none, none], [.ref a0])) (h' := hp N x) rfl ?_
  refine ev_gfr rfl rfl fa0.1 (fa0.fd (by decide) (by decide)) ?_
  refine ev_run (n := 1) (u' := (0, 0)) (f' := (5, [some (.ref a0), some (.int a1), some (.int a2), some (.int a3), none, none, none], [.int a1, .ref (a0 + 1)])) (h' := hp N x) rfl ?_
  obtain ⟨h1, h⟩ := cond_some h
  refine ev_iald rfl fa0.2.2.1.kd (fa0.2.2.1.ln h1) ?_
  refine ev_run (n := 2) (u' := (0, 0)) (f' := (9, [some (.ref a0), some (.int a1), some (.int a2), some (.int a3), some (.int (x.1 (a0 + 1) (xi a1))), none, none], [.ref a0])) (h' := hp N x) rfl ?_
  refine ev_gfr rfl rfl fa0.1 (fa0.fd (by decide) (by decide)) ?_
  refine ev_run (n := 1) (u' := (0, 0)) (f' := (13, [some (.ref a0), some (.int a1), some (.int a2), some (.int a3), some (.int (x.1 (a0 + 1) (xi a1))), none, none], [.int a1, .ref (a0 + 2)])) (h' := hp N x) rfl ?_
  obtain ⟨h2, h⟩ := cond_some h
  refine ev_iald rfl fa0.2.2.2.1.kd (fa0.2.2.2.1.ln h2) ?_
  refine ev_run (n := 2) (u' := (0, 0)) (f' := (17, [some (.ref a0), some (.int a1), some (.int a2), some (.int a3), some (.int (x.1 (a0 + 1) (xi a1))), some (.int (x.1 (a0 + 2) (xi a1))), none], [.ref a0])) (h' := hp N x) rfl ?_
  refine ev_gfr rfl rfl fa0.1 (fa0.fd (by decide) (by decide)) ?_
  refine ev_run (n := 2) (u' := (0, 0)) (f' := (22, [some (.ref a0), some (.int a1), some (.int a2), some (.int a3), some (.int (x.1 (a0 + 1) (xi a1))), some (.int (x.1 (a0 + 2) (xi a1))), none], [.int a2, .int a1, .ref (a0 + 1)])) (h' := hp N x) rfl ?_
  obtain ⟨h3, h⟩ := cond_some h
  refine ev_iast rfl fa0.2.2.1.1 (fa0.2.2.1.ln h3) ?_
  show Ev 48 (0, 0) (23, [some (.ref a0), some (.int a1), some (.int a2), some (.int a3), some (.int (x.1 (a0 + 1) (xi a1))), some (.int (x.1 (a0 + 2) (xi a1))), none], []) (hp N (wI x (a0 + 1) (xi a1) a2)) _
  refine ev_run (n := 1) (u' := (0, 0)) (f' := (24, [some (.ref a0), some (.int a1), some (.int a2), some (.int a3), some (.int (x.1 (a0 + 1) (xi a1))), some (.int (x.1 (a0 + 2) (xi a1))), none], [.ref a0])) (h' := hp N (wI x (a0 + 1) (xi a1) a2)) rfl ?_
  refine ev_gfr rfl rfl fa0.1 (fa0.fd (by decide) (by decide)) ?_
  refine ev_run (n := 2) (u' := (0, 0)) (f' := (29, [some (.ref a0), some (.int a1), some (.int a2), some (.int a3), some (.int (x.1 (a0 + 1) (xi a1))), some (.int (x.1 (a0 + 2) (xi a1))), none], [.int a3, .int a1, .ref (a0 + 2)])) (h' := hp N (wI x (a0 + 1) (xi a1) a2)) rfl ?_
  obtain ⟨h4, h⟩ := cond_some h
  refine ev_iast rfl fa0.2.2.2.1.1 (fa0.2.2.2.1.ln h4) ?_
  show Ev 48 (0, 0) (30, [some (.ref a0), some (.int a1), some (.int a2), some (.int a3), some (.int (x.1 (a0 + 1) (xi a1))), some (.int (x.1 (a0 + 2) (xi a1))), none], []) (hp N (wI (wI x (a0 + 1) (xi a1) a2) (a0 + 2) (xi a1) a3)) _
  refine ev_run (n := 1) (u' := (0, 0)) (f' := (31, [some (.ref a0), some (.int a1), some (.int a2), some (.int a3), some (.int (x.1 (a0 + 1) (xi a1))), some (.int (x.1 (a0 + 2) (xi a1))), none], [.ref a0])) (h' := hp N (wI (wI x (a0 + 1) (xi a1) a2) (a0 + 2) (xi a1) a3)) rfl ?_
  refine ev_gfr rfl rfl fa0.1 fa0.cat ?_
  refine ev_run (n := 1) (u' := (0, 0)) (f' := (35, [some (.ref a0), some (.int a1), some (.int a2), some (.int a3), some (.int (x.1 (a0 + 1) (xi a1))), some (.int (x.1 (a0 + 2) (xi a1))), none], [.ref a0, .ref 2])) (h' := hp N (wI (wI x (a0 + 1) (xi a1) a2) (a0 + 2) (xi a1) a3)) rfl ?_
  refine ev_gfr rfl rfl fa0.1 (fa0.fd (by decide) (by decide)) ?_
  refine ev_run (n := 1) (u' := (0, 0)) (f' := (39, [some (.ref a0), some (.int a1), some (.int a2), some (.int a3), some (.int (x.1 (a0 + 1) (xi a1))), some (.int (x.1 (a0 + 2) (xi a1))), none], [.ref a0, .ref (a0 + 1), .ref 2])) (h' := hp N (wI (wI x (a0 + 1) (xi a1) a2) (a0 + 2) (xi a1) a3)) rfl ?_
  refine ev_gfr rfl rfl fa0.1 (fa0.fd (by decide) (by decide)) ?_
  obtain ⟨w5, h6, h⟩ := bind_ok h
  refine ev_call (v := some (.int w5)) (h1 := hp N (wI (wI x (a0 + 1) (xi a1) a2) (a0 + 2) (xi a1) a3)) rfl rfl rfl rfl (em13 (a0 + 1) (a0 + 2) fa0.2.2.1 fa0.2.2.2.1 (wI (wI x (a0 + 1) (xi a1) a2) (a0 + 2) (xi a1) a3) _ h6) ?_
  show Ev 48 (0, 0) (45, [some (.ref a0), some (.int a1), some (.int a2), some (.int a3), some (.int (x.1 (a0 + 1) (xi a1))), some (.int (x.1 (a0 + 2) (xi a1))), none], [.int w5]) (hp N (wI (wI x (a0 + 1) (xi a1) a2) (a0 + 2) (xi a1) a3)) _
  refine ev_run (n := 2) (u' := (0, 0)) (f' := (48, [some (.ref a0), some (.int a1), some (.int a2), some (.int a3), some (.int (x.1 (a0 + 1) (xi a1))), some (.int (x.1 (a0 + 2) (xi a1))), some (.int w5)], [.ref a0])) (h' := hp N (wI (wI x (a0 + 1) (xi a1) a2) (a0 + 2) (xi a1) a3)) rfl ?_
  refine ev_gfr rfl rfl fa0.1 (fa0.fd (by decide) (by decide)) ?_
  refine ev_run (n := 2) (u' := (0, 0)) (f' := (54, [some (.ref a0), some (.int a1), some (.int a2), some (.int a3), some (.int (x.1 (a0 + 1) (xi a1))), some (.int (x.1 (a0 + 2) (xi a1))), some (.int w5)], [.int (x.1 (a0 + 1) (xi a1)), .int a1, .ref (a0 + 1)])) (h' := hp N (wI (wI x (a0 + 1) (xi a1) a2) (a0 + 2) (xi a1) a3)) rfl ?_
  obtain ⟨h7, h⟩ := cond_some h
  refine ev_iast rfl fa0.2.2.1.1 (fa0.2.2.1.ln h7) ?_
  show Ev 48 (0, 0) (55, [some (.ref a0), some (.int a1), some (.int a2), some (.int a3), some (.int (x.1 (a0 + 1) (xi a1))), some (.int (x.1 (a0 + 2) (xi a1))), some (.int w5)], []) (hp N (wI (wI (wI x (a0 + 1) (xi a1) a2) (a0 + 2) (xi a1) a3) (a0 + 1) (xi a1) (x.1 (a0 + 1) (xi a1)))) _
  refine ev_run (n := 1) (u' := (0, 0)) (f' := (56, [some (.ref a0), some (.int a1), some (.int a2), some (.int a3), some (.int (x.1 (a0 + 1) (xi a1))), some (.int (x.1 (a0 + 2) (xi a1))), some (.int w5)], [.ref a0])) (h' := hp N (wI (wI (wI x (a0 + 1) (xi a1) a2) (a0 + 2) (xi a1) a3) (a0 + 1) (xi a1) (x.1 (a0 + 1) (xi a1)))) rfl ?_
  refine ev_gfr rfl rfl fa0.1 (fa0.fd (by decide) (by decide)) ?_
  refine ev_run (n := 2) (u' := (0, 0)) (f' := (62, [some (.ref a0), some (.int a1), some (.int a2), some (.int a3), some (.int (x.1 (a0 + 1) (xi a1))), some (.int (x.1 (a0 + 2) (xi a1))), some (.int w5)], [.int (x.1 (a0 + 2) (xi a1)), .int a1, .ref (a0 + 2)])) (h' := hp N (wI (wI (wI x (a0 + 1) (xi a1) a2) (a0 + 2) (xi a1) a3) (a0 + 1) (xi a1) (x.1 (a0 + 1) (xi a1)))) rfl ?_
  obtain ⟨h8, h⟩ := cond_some h
  refine ev_iast rfl fa0.2.2.2.1.1 (fa0.2.2.2.1.ln h8) ?_
  show Ev 48 (0, 0) (63, [some (.ref a0), some (.int a1), some (.int a2), some (.int a3), some (.int (x.1 (a0 + 1) (xi a1))), some (.int (x.1 (a0 + 2) (xi a1))), some (.int w5)], []) (hp N (wI (wI (wI (wI x (a0 + 1) (xi a1) a2) (a0 + 2) (xi a1) a3) (a0 + 1) (xi a1) (x.1 (a0 + 1) (xi a1))) (a0 + 2) (xi a1) (x.1 (a0 + 2) (xi a1)))) _
  refine ev_run (n := 1) (u' := (0, 0)) (f' := (65, [some (.ref a0), some (.int a1), some (.int a2), some (.int a3), some (.int (x.1 (a0 + 1) (xi a1))), some (.int (x.1 (a0 + 2) (xi a1))), some (.int w5)], [.int w5])) (h' := hp N (wI (wI (wI (wI x (a0 + 1) (xi a1) a2) (a0 + 2) (xi a1) a3) (a0 + 1) (xi a1) (x.1 (a0 + 1) (xi a1))) (a0 + 2) (xi a1) (x.1 (a0 + 2) (xi a1)))) rfl ?_
  obtain ⟨h9, h⟩ := cond_some h
  cases h
  exact ev_iret rfl rfl rfl (Or.inr ⟨rfl, h9⟩)
def gm49 (a0 : Nat) (a1 : Int32) (a2 : Int32) (x : Hs) : Option (Hs) := cond (aIn a1 5) (cond (aIn a1 5) (cond (aIn a1 5) (cond (aIn a1 5) (cond (aIn a1 5) (some (wJ (wJ (wJ (wJ (wI x (a0 + 2) (xi a1) a2) (a0 + 6) (xi a1) 0) (a0 + 7) (xi a1) 0) (a0 + 4) (xi a1) 0) (a0 + 5) (xi a1) 0)) none) none) none) none) none
theorem em49 {N : Nat} (a0 : Nat) (a1 : Int32) (a2 : Int32) (fa0 : RG N a0) (x : Hs) (r : Hs) (h : gm49 a0 a1 a2 x = some r) : Ev 49 (0, 0) (0, aPad [.ref a0, .int a1, .int a2] 3, []) (hp N x) (cvMv N r) := by
  show Ev 49 (0, 0) (0, [some (.ref a0), some (.int a1), some (.int a2)], []) (hp N x) _
  unfold gm49 at h
  refine ev_run (n := 1) (u' := (0, 0)) (f' := (1, [some (.ref a0), some (.int a1), some (.int a2)], [.ref a0])) (h' := hp N x) rfl ?_
  refine ev_gfr rfl rfl fa0.1 (fa0.fd (by decide) (by decide)) ?_
  refine ev_run (n := 2) (u' := (0, 0)) (f' := (6, [some (.ref a0), some (.int a1), some (.int a2)], [.int a2, .int a1, .ref (a0 + 2)])) (h' := hp N x) rfl ?_
  obtain ⟨h1, h⟩ := cond_some h
  refine ev_iast rfl fa0.2.2.2.1.1 (fa0.2.2.2.1.ln h1) ?_
  show Ev 49 (0, 0) (7, [some (.ref a0), some (.int a1), some (.int a2)], []) (hp N (wI x (a0 + 2) (xi a1) a2)) _
  refine ev_run (n := 1) (u' := (0, 0)) (f' := (8, [some (.ref a0), some (.int a1), some (.int a2)], [.ref a0])) (h' := hp N (wI x (a0 + 2) (xi a1) a2)) rfl ?_
  refine ev_gfr rfl rfl fa0.1 (fa0.fd (by decide) (by decide)) ?_
  refine ev_run (n := 2) (u' := (0, 0)) (f' := (13, [some (.ref a0), some (.int a1), some (.int a2)], [.long 0, .int a1, .ref (a0 + 6)])) (h' := hp N (wI x (a0 + 2) (xi a1) a2)) rfl ?_
  obtain ⟨h2, h⟩ := cond_some h
  refine ev_last rfl fa0.2.2.2.2.2.2.2.1.1 (fa0.2.2.2.2.2.2.2.1.ln h2) ?_
  show Ev 49 (0, 0) (14, [some (.ref a0), some (.int a1), some (.int a2)], []) (hp N (wJ (wI x (a0 + 2) (xi a1) a2) (a0 + 6) (xi a1) 0)) _
  refine ev_run (n := 1) (u' := (0, 0)) (f' := (15, [some (.ref a0), some (.int a1), some (.int a2)], [.ref a0])) (h' := hp N (wJ (wI x (a0 + 2) (xi a1) a2) (a0 + 6) (xi a1) 0)) rfl ?_
  refine ev_gfr rfl rfl fa0.1 (fa0.fd (by decide) (by decide)) ?_
  refine ev_run (n := 2) (u' := (0, 0)) (f' := (20, [some (.ref a0), some (.int a1), some (.int a2)], [.long 0, .int a1, .ref (a0 + 7)])) (h' := hp N (wJ (wI x (a0 + 2) (xi a1) a2) (a0 + 6) (xi a1) 0)) rfl ?_
  obtain ⟨h3, h⟩ := cond_some h
  refine ev_last rfl fa0.2.2.2.2.2.2.2.2.1 (fa0.2.2.2.2.2.2.2.2.ln h3) ?_
  show Ev 49 (0, 0) (21, [some (.ref a0), some (.int a1), some (.int a2)], []) (hp N (wJ (wJ (wI x (a0 + 2) (xi a1) a2) (a0 + 6) (xi a1) 0) (a0 + 7) (xi a1) 0)) _
  refine ev_run (n := 1) (u' := (0, 0)) (f' := (22, [some (.ref a0), some (.int a1), some (.int a2)], [.ref a0])) (h' := hp N (wJ (wJ (wI x (a0 + 2) (xi a1) a2) (a0 + 6) (xi a1) 0) (a0 + 7) (xi a1) 0)) rfl ?_
  refine ev_gfr rfl rfl fa0.1 (fa0.fd (by decide) (by decide)) ?_
  refine ev_run (n := 2) (u' := (0, 0)) (f' := (27, [some (.ref a0), some (.int a1), some (.int a2)], [.long 0, .int a1, .ref (a0 + 4)])) (h' := hp N (wJ (wJ (wI x (a0 + 2) (xi a1) a2) (a0 + 6) (xi a1) 0) (a0 + 7) (xi a1) 0)) rfl ?_
  obtain ⟨h4, h⟩ := cond_some h
  refine ev_last rfl fa0.2.2.2.2.2.1.1 (fa0.2.2.2.2.2.1.ln h4) ?_
  show Ev 49 (0, 0) (28, [some (.ref a0), some (.int a1), some (.int a2)], []) (hp N (wJ (wJ (wJ (wI x (a0 + 2) (xi a1) a2) (a0 + 6) (xi a1) 0) (a0 + 7) (xi a1) 0) (a0 + 4) (xi a1) 0)) _
  refine ev_run (n := 1) (u' := (0, 0)) (f' := (29, [some (.ref a0), some (.int a1), some (.int a2)], [.ref a0])) (h' := hp N (wJ (wJ (wJ (wI x (a0 + 2) (xi a1) a2) (a0 + 6) (xi a1) 0) (a0 + 7) (xi a1) 0) (a0 + 4) (xi a1) 0)) rfl ?_
  refine ev_gfr rfl rfl fa0.1 (fa0.fd (by decide) (by decide)) ?_
  refine ev_run (n := 2) (u' := (0, 0)) (f' := (34, [some (.ref a0), some (.int a1), some (.int a2)], [.long 0, .int a1, .ref (a0 + 5)])) (h' := hp N (wJ (wJ (wJ (wI x (a0 + 2) (xi a1) a2) (a0 + 6) (xi a1) 0) (a0 + 7) (xi a1) 0) (a0 + 4) (xi a1) 0)) rfl ?_
  obtain ⟨h5, h⟩ := cond_some h
  refine ev_last rfl fa0.2.2.2.2.2.2.1.1 (fa0.2.2.2.2.2.2.1.ln h5) ?_
  show Ev 49 (0, 0) (35, [some (.ref a0), some (.int a1), some (.int a2)], []) (hp N (wJ (wJ (wJ (wJ (wI x (a0 + 2) (xi a1) a2) (a0 + 6) (xi a1) 0) (a0 + 7) (xi a1) 0) (a0 + 4) (xi a1) 0) (a0 + 5) (xi a1) 0)) _
  cases h
  exact ev_vret rfl rfl rfl
def gm50 (a0 : Nat) (a1 : Int32) (x : Hs) : Option (Hs) := cond (aIn a1 5) (cond (aIn a1 5) (cond (aIn a1 5) (cond (aIn a1 5) (cond (aIn a1 5) (some (wI (wI (wI x (a0 + 3) (xi a1) (x.1 (a0 + 1) (xi a1))) (a0 + 1) (xi a1) ((wI x (a0 + 3) (xi a1) (x.1 (a0 + 1) (xi a1))).1 (a0 + 2) (xi a1))) (a0 + 2) (xi a1) (-1))) none) none) none) none) none
theorem em50 {N : Nat} (a0 : Nat) (a1 : Int32) (fa0 : RG N a0) (x : Hs) (r : Hs) (h : gm50 a0 a1 x = some r) : Ev 50 (0, 0) (0, aPad [.ref a0, .int a1] 2, []) (hp N x) (cvMv N r) := by
  show Ev 50 (0, 0) (0, [some (.ref a0), some (.int a1)], []) (hp N x) _
  unfold gm50 at h
  refine ev_run (n := 1) (u' := (0, 0)) (f' := (1, [some (.ref a0), some (.int a1)], [.ref a0])) (h' := hp N x) rfl ?_
  refine ev_gfr rfl rfl fa0.1 (fa0.fd (by decide) (by decide)) ?_
  refine ev_run (n := 2) (u' := (0, 0)) (f' := (6, [some (.ref a0), some (.int a1)], [.ref a0, .int a1, .ref (a0 + 3)])) (h' := hp N x) rfl ?_
  refine ev_gfr rfl rfl fa0.1 (fa0.fd (by decide) (by decide)) ?_
  refine ev_run (n := 1) (u' := (0, 0)) (f' := (10, [some (.ref a0), some (.int a1)], [.int a1, .ref (a0 + 1), .int a1, .ref (a0 + 3)])) (h' := hp N x) rfl ?_
  obtain ⟨h1, h⟩ := cond_some h
  refine ev_iald rfl fa0.2.2.1.kd (fa0.2.2.1.ln h1) ?_
  obtain ⟨h2, h⟩ := cond_some h
  refine ev_iast rfl fa0.2.2.2.2.1.1 (fa0.2.2.2.2.1.ln h2) ?_
  show Ev 50 (0, 0) (12, [some (.ref a0), some (.int a1)], []) (hp N (wI x (a0 + 3) (xi a1) (x.1 (a0 + 1) (xi a1)))) _
  refine ev_run (n := 1) (u' := (0, 0)) (f' := (13, [some (.ref a0), some (.int a1)], [.ref a0])) (h' := hp N (wI x (a0 + 3) (xi a1) (x.1 (a0 + 1) (xi a1)))) rfl ?_
  refine ev_gfr rfl rfl fa0.1 (fa0.fd (by decide) (by decide)) ?_
  refine ev_run (n := 2) (u' := (0, 0)) (f' := (18, [some (.ref a0), some (.int a1)], [.ref a0, .int a1, .ref (a0 + 1)])) (h' := hp N (wI x (a0 + 3) (xi a1) (x.1 (a0 + 1) (xi a1)))) rfl ?_
  refine ev_gfr rfl rfl fa0.1 (fa0.fd (by decide) (by decide)) ?_
  refine ev_run (n := 1) (u' := (0, 0)) (f' := (22, [some (.ref a0), some (.int a1)], [.int a1, .ref (a0 + 2), .int a1, .ref (a0 + 1)])) (h' := hp N (wI x (a0 + 3) (xi a1) (x.1 (a0 + 1) (xi a1)))) rfl ?_
  obtain ⟨h3, h⟩ := cond_some h
  refine ev_iald rfl fa0.2.2.2.1.kd (fa0.2.2.2.1.ln h3) ?_
  obtain ⟨h4, h⟩ := cond_some h
  refine ev_iast rfl fa0.2.2.1.1 (fa0.2.2.1.ln h4) ?_
  show Ev 50 (0, 0) (24, [some (.ref a0), some (.int a1)], []) (hp N (wI (wI x (a0 + 3) (xi a1) (x.1 (a0 + 1) (xi a1))) (a0 + 1) (xi a1) ((wI x (a0 + 3) (xi a1) (x.1 (a0 + 1) (xi a1))).1 (a0 + 2) (xi a1)))) _
  refine ev_run (n := 1) (u' := (0, 0)) (f' := (25, [some (.ref a0), some (.int a1)], [.ref a0])) (h' := hp N (wI (wI x (a0 + 3) (xi a1) (x.1 (a0 + 1) (xi a1))) (a0 + 1) (xi a1) ((wI x (a0 + 3) (xi a1) (x.1 (a0 + 1) (xi a1))).1 (a0 + 2) (xi a1)))) rfl ?_
  refine ev_gfr rfl rfl fa0.1 (fa0.fd (by decide) (by decide)) ?_
  refine ev_run (n := 2) (u' := (0, 0)) (f' := (30, [some (.ref a0), some (.int a1)], [.int (-1), .int a1, .ref (a0 + 2)])) (h' := hp N (wI (wI x (a0 + 3) (xi a1) (x.1 (a0 + 1) (xi a1))) (a0 + 1) (xi a1) ((wI x (a0 + 3) (xi a1) (x.1 (a0 + 1) (xi a1))).1 (a0 + 2) (xi a1)))) rfl ?_
  obtain ⟨h5, h⟩ := cond_some h
  refine ev_iast rfl fa0.2.2.2.1.1 (fa0.2.2.2.1.ln h5) ?_
  show Ev 50 (0, 0) (31, [some (.ref a0), some (.int a1)], []) (hp N (wI (wI (wI x (a0 + 3) (xi a1) (x.1 (a0 + 1) (xi a1))) (a0 + 1) (xi a1) ((wI x (a0 + 3) (xi a1) (x.1 (a0 + 1) (xi a1))).1 (a0 + 2) (xi a1))) (a0 + 2) (xi a1) (-1))) _
  cases h
  exact ev_vret rfl rfl rfl
def gm51 (a0 : Nat) (a1 : Int32) (x : Hs) : Option (Hs) := cond (aIn a1 5) (cond (aIn a1 5) (cond (aIn a1 5) (some (wI (wI x (a0 + 1) (xi a1) (x.1 (a0 + 3) (xi a1))) (a0 + 3) (xi a1) (-1))) none) none) none
theorem em51 {N : Nat} (a0 : Nat) (a1 : Int32) (fa0 : RG N a0) (x : Hs) (r : Hs) (h : gm51 a0 a1 x = some r) : Ev 51 (0, 0) (0, aPad [.ref a0, .int a1] 2, []) (hp N x) (cvMv N r) := by
  show Ev 51 (0, 0) (0, [some (.ref a0), some (.int a1)], []) (hp N x) _
  unfold gm51 at h
  refine ev_run (n := 1) (u' := (0, 0)) (f' := (1, [some (.ref a0), some (.int a1)], [.ref a0])) (h' := hp N x) rfl ?_
  refine ev_gfr rfl rfl fa0.1 (fa0.fd (by decide) (by decide)) ?_
  refine ev_run (n := 2) (u' := (0, 0)) (f' := (6, [some (.ref a0), some (.int a1)], [.ref a0, .int a1, .ref (a0 + 1)])) (h' := hp N x) rfl ?_
  refine ev_gfr rfl rfl fa0.1 (fa0.fd (by decide) (by decide)) ?_
  refine ev_run (n := 1) (u' := (0, 0)) (f' := (10, [some (.ref a0), some (.int a1)], [.int a1, .ref (a0 + 3), .int a1, .ref (a0 + 1)])) (h' := hp N x) rfl ?_
  obtain ⟨h1, h⟩ := cond_some h
  refine ev_iald rfl fa0.2.2.2.2.1.kd (fa0.2.2.2.2.1.ln h1) ?_
  obtain ⟨h2, h⟩ := cond_some h
  refine ev_iast rfl fa0.2.2.1.1 (fa0.2.2.1.ln h2) ?_
  show Ev 51 (0, 0) (12, [some (.ref a0), some (.int a1)], []) (hp N (wI x (a0 + 1) (xi a1) (x.1 (a0 + 3) (xi a1)))) _
  refine ev_run (n := 1) (u' := (0, 0)) (f' := (13, [some (.ref a0), some (.int a1)], [.ref a0])) (h' := hp N (wI x (a0 + 1) (xi a1) (x.1 (a0 + 3) (xi a1)))) rfl ?_
  refine ev_gfr rfl rfl fa0.1 (fa0.fd (by decide) (by decide)) ?_
  refine ev_run (n := 2) (u' := (0, 0)) (f' := (18, [some (.ref a0), some (.int a1)], [.int (-1), .int a1, .ref (a0 + 3)])) (h' := hp N (wI x (a0 + 1) (xi a1) (x.1 (a0 + 3) (xi a1)))) rfl ?_
  obtain ⟨h3, h⟩ := cond_some h
  refine ev_iast rfl fa0.2.2.2.2.1.1 (fa0.2.2.2.2.1.ln h3) ?_
  show Ev 51 (0, 0) (19, [some (.ref a0), some (.int a1)], []) (hp N (wI (wI x (a0 + 1) (xi a1) (x.1 (a0 + 3) (xi a1))) (a0 + 3) (xi a1) (-1))) _
  cases h
  exact ev_vret rfl rfl rfl
def gm52 (a0 : Nat) (a1 : Int32) (a2 : Int32) (a3 : Int32) (x : Hs) : Option (Int32 × Hs) := cond (aIn a1 5) (cond (aIn a1 5) (cond (aIn a1 5) (cond (aIn a1 5) (cond (aIn a1 5) (some ((Int64.toInt32 ((wJ (wJ x (a0 + 6) (xi a1) (x.2.1 (a0 + 6) (xi a1) + (Int32.toInt64 a2))) (a0 + 7) (xi a1) ((wJ x (a0 + 6) (xi a1) (x.2.1 (a0 + 6) (xi a1) + (Int32.toInt64 a2))).2.1 (a0 + 7) (xi a1) + (Int32.toInt64 a3))).2.1 (a0 + 6) (xi a1))), (wJ (wJ x (a0 + 6) (xi a1) (x.2.1 (a0 + 6) (xi a1) + (Int32.toInt64 a2))) (a0 + 7) (xi a1) ((wJ x (a0 + 6) (xi a1) (x.2.1 (a0 + 6) (xi a1) + (Int32.toInt64 a2))).2.1 (a0 + 7) (xi a1) + (Int32.toInt64 a3))))) none) none) none) none) none
theorem em52 {N : Nat} (a0 : Nat) (a1 : Int32) (a2 : Int32) (a3 : Int32) (fa0 : RG N a0) (x : Hs) (r : Int32 × Hs) (h : gm52 a0 a1 a2 a3 x = some r) : Ev 52 (0, 0) (0, aPad [.ref a0, .int a1, .int a2, .int a3] 4, []) (hp N x) (cvMi N r) := by
  show Ev 52 (0, 0) (0, [some (.ref a0), some (.int a1), some (.int a2), some (.int a3)], []) (hp N x) _
  unfold gm52 at h
  refine ev_run (n := 1) (u' := (0, 0)) (f' := (1, [some (.ref a0), some (.int a1), some (.int a2), some (.int a3)], [.ref a0])) (h' := hp N x) rfl ?_
  refine ev_gfr rfl rfl fa0.1 (fa0.fd (by decide) (by decide)) ?_
  refine ev_run (n := 2) (u' := (0, 0)) (f' := (6, [some (.ref a0), some (.int a1), some (.int a2), some (.int a3)], [.int a1, .ref (a0 + 6), .int a1, .ref (a0 + 6)])) (h' := hp N x) rfl ?_
  obtain ⟨h1, h⟩ := cond_some h
  refine ev_lald rfl fa0.2.2.2.2.2.2.2.1.1 (fa0.2.2.2.2.2.2.2.1.ln h1) ?_
  refine ev_run (n := 3) (u' := (0, 0)) (f' := (10, [some (.ref a0), some (.int a1), some (.int a2), some (.int a3)], [.long (x.2.1 (a0 + 6) (xi a1) + (Int32.toInt64 a2)), .int a1, .ref (a0 + 6)])) (h' := hp N x) rfl ?_
  obtain ⟨h2, h⟩ := cond_some h
  refine ev_last rfl fa0.2.2.2.2.2.2.2.1.1 (fa0.2.2.2.2.2.2.2.1.ln h2) ?_
  show Ev 52 (0, 0) (11, [some (.ref a0), some (.int a1), some (.int a2), some (.int a3)], []) (hp N (wJ x (a0 + 6) (xi a1) (x.2.1 (a0 + 6) (xi a1) + (Int32.toInt64 a2)))) _
  refine ev_run (n := 1) (u' := (0, 0)) (f' := (12, [some (.ref a0), some (.int a1), some (.int a2), some (.int a3)], [.ref a0])) (h' := hp N (wJ x (a0 + 6) (xi a1) (x.2.1 (a0 + 6) (xi a1) + (Int32.toInt64 a2)))) rfl ?_
  refine ev_gfr rfl rfl fa0.1 (fa0.fd (by decide) (by decide)) ?_
  refine ev_run (n := 2) (u' := (0, 0)) (f' := (17, [some (.ref a0), some (.int a1), some (.int a2), some (.int a3)], [.int a1, .ref (a0 + 7), .int a1, .ref (a0 + 7)])) (h' := hp N (wJ x (a0 + 6) (xi a1) (x.2.1 (a0 + 6) (xi a1) + (Int32.toInt64 a2)))) rfl ?_
  obtain ⟨h3, h⟩ := cond_some h
  refine ev_lald rfl fa0.2.2.2.2.2.2.2.2.1 (fa0.2.2.2.2.2.2.2.2.ln h3) ?_
  refine ev_run (n := 3) (u' := (0, 0)) (f' := (21, [some (.ref a0), some (.int a1), some (.int a2), some (.int a3)], [.long ((wJ x (a0 + 6) (xi a1) (x.2.1 (a0 + 6) (xi a1) + (Int32.toInt64 a2))).2.1 (a0 + 7) (xi a1) + (Int32.toInt64 a3)), .int a1, .ref (a0 + 7)])) (h' := hp N (wJ x (a0 + 6) (xi a1) (x.2.1 (a0 + 6) (xi a1) + (Int32.toInt64 a2)))) rfl ?_
  obtain ⟨h4, h⟩ := cond_some h
  refine ev_last rfl fa0.2.2.2.2.2.2.2.2.1 (fa0.2.2.2.2.2.2.2.2.ln h4) ?_
  show Ev 52 (0, 0) (22, [some (.ref a0), some (.int a1), some (.int a2), some (.int a3)], []) (hp N (wJ (wJ x (a0 + 6) (xi a1) (x.2.1 (a0 + 6) (xi a1) + (Int32.toInt64 a2))) (a0 + 7) (xi a1) ((wJ x (a0 + 6) (xi a1) (x.2.1 (a0 + 6) (xi a1) + (Int32.toInt64 a2))).2.1 (a0 + 7) (xi a1) + (Int32.toInt64 a3)))) _
  refine ev_run (n := 1) (u' := (0, 0)) (f' := (23, [some (.ref a0), some (.int a1), some (.int a2), some (.int a3)], [.ref a0])) (h' := hp N (wJ (wJ x (a0 + 6) (xi a1) (x.2.1 (a0 + 6) (xi a1) + (Int32.toInt64 a2))) (a0 + 7) (xi a1) ((wJ x (a0 + 6) (xi a1) (x.2.1 (a0 + 6) (xi a1) + (Int32.toInt64 a2))).2.1 (a0 + 7) (xi a1) + (Int32.toInt64 a3)))) rfl ?_
  refine ev_gfr rfl rfl fa0.1 (fa0.fd (by decide) (by decide)) ?_
  refine ev_run (n := 1) (u' := (0, 0)) (f' := (27, [some (.ref a0), some (.int a1), some (.int a2), some (.int a3)], [.int a1, .ref (a0 + 6)])) (h' := hp N (wJ (wJ x (a0 + 6) (xi a1) (x.2.1 (a0 + 6) (xi a1) + (Int32.toInt64 a2))) (a0 + 7) (xi a1) ((wJ x (a0 + 6) (xi a1) (x.2.1 (a0 + 6) (xi a1) + (Int32.toInt64 a2))).2.1 (a0 + 7) (xi a1) + (Int32.toInt64 a3)))) rfl ?_
  obtain ⟨h5, h⟩ := cond_some h
  refine ev_lald rfl fa0.2.2.2.2.2.2.2.1.1 (fa0.2.2.2.2.2.2.2.1.ln h5) ?_
  refine ev_run (n := 1) (u' := (0, 0)) (f' := (29, [some (.ref a0), some (.int a1), some (.int a2), some (.int a3)], [.int (Int64.toInt32 ((wJ (wJ x (a0 + 6) (xi a1) (x.2.1 (a0 + 6) (xi a1) + (Int32.toInt64 a2))) (a0 + 7) (xi a1) ((wJ x (a0 + 6) (xi a1) (x.2.1 (a0 + 6) (xi a1) + (Int32.toInt64 a2))).2.1 (a0 + 7) (xi a1) + (Int32.toInt64 a3))).2.1 (a0 + 6) (xi a1)))])) (h' := hp N (wJ (wJ x (a0 + 6) (xi a1) (x.2.1 (a0 + 6) (xi a1) + (Int32.toInt64 a2))) (a0 + 7) (xi a1) ((wJ x (a0 + 6) (xi a1) (x.2.1 (a0 + 6) (xi a1) + (Int32.toInt64 a2))).2.1 (a0 + 7) (xi a1) + (Int32.toInt64 a3)))) rfl ?_
  cases h
  exact ev_iret rfl rfl rfl (Or.inl rfl)
def gm53 (a0 : Nat) (a1 : Int32) (a2 : Int32) (a3 : Int32) (x : Hs) : Option (Int32 × Hs) := cond (aIn a1 5) (cond (aIn a1 5) (cond (aIn a1 5) (cond (aIn a1 5) (cond (aIn a1 5) (some ((Int64.toInt32 ((wJ (wJ x (a0 + 4) (xi a1) (x.2.1 (a0 + 4) (xi a1) + (Int32.toInt64 a2))) (a0 + 5) (xi a1) ((wJ x (a0 + 4) (xi a1) (x.2.1 (a0 + 4) (xi a1) + (Int32.toInt64 a2))).2.1 (a0 + 5) (xi a1) + (Int32.toInt64 a3))).2.1 (a0 + 4) (xi a1))), (wJ (wJ x (a0 + 4) (xi a1) (x.2.1 (a0 + 4) (xi a1) + (Int32.toInt64 a2))) (a0 + 5) (xi a1) ((wJ x (a0 + 4) (xi a1) (x.2.1 (a0 + 4) (xi a1) + (Int32.toInt64 a2))).2.1 (a0 + 5) (xi a1) + (Int32.toInt64 a3))))) none) none) none) none) none
theorem em53 {N : Nat} (a0 : Nat) (a1 : Int32) (a2 : Int32) (a3 : Int32) (fa0 : RG N a0) (x : Hs) (r : Int32 × Hs) (h : gm53 a0 a1 a2 a3 x = some r) : Ev 53 (0, 0) (0, aPad [.ref a0, .int a1, .int a2, .int a3] 4, []) (hp N x) (cvMi N r) := by
  show Ev 53 (0, 0) (0, [some (.ref a0), some (.int a1), some (.int a2), some (.int a3)], []) (hp N x) _
  unfold gm53 at h
  refine ev_run (n := 1) (u' := (0, 0)) (f' := (1, [some (.ref a0), some (.int a1), some (.int a2), some (.int a3)], [.ref a0])) (h' := hp N x) rfl ?_
  refine ev_gfr rfl rfl fa0.1 (fa0.fd (by decide) (by decide)) ?_
  refine ev_run (n := 2) (u' := (0, 0)) (f' := (6, [some (.ref a0), some (.int a1), some (.int a2), some (.int a3)], [.int a1, .ref (a0 + 4), .int a1, .ref (a0 + 4)])) (h' := hp N x) rfl ?_
  obtain ⟨h1, h⟩ := cond_some h
  refine ev_lald rfl fa0.2.2.2.2.2.1.1 (fa0.2.2.2.2.2.1.ln h1) ?_
  refine ev_run (n := 3) (u' := (0, 0)) (f' := (10, [some (.ref a0), some (.int a1), some (.int a2), some (.int a3)], [.long (x.2.1 (a0 + 4) (xi a1) + (Int32.toInt64 a2)), .int a1, .ref (a0 + 4)])) (h' := hp N x) rfl ?_
  obtain ⟨h2, h⟩ := cond_some h
  refine ev_last rfl fa0.2.2.2.2.2.1.1 (fa0.2.2.2.2.2.1.ln h2) ?_
  show Ev 53 (0, 0) (11, [some (.ref a0), some (.int a1), some (.int a2), some (.int a3)], []) (hp N (wJ x (a0 + 4) (xi a1) (x.2.1 (a0 + 4) (xi a1) + (Int32.toInt64 a2)))) _
  refine ev_run (n := 1) (u' := (0, 0)) (f' := (12, [some (.ref a0), some (.int a1), some (.int a2), some (.int a3)], [.ref a0])) (h' := hp N (wJ x (a0 + 4) (xi a1) (x.2.1 (a0 + 4) (xi a1) + (Int32.toInt64 a2)))) rfl ?_
  refine ev_gfr rfl rfl fa0.1 (fa0.fd (by decide) (by decide)) ?_
  refine ev_run (n := 2) (u' := (0, 0)) (f' := (17, [some (.ref a0), some (.int a1), some (.int a2), some (.int a3)], [.int a1, .ref (a0 + 5), .int a1, .ref (a0 + 5)])) (h' := hp N (wJ x (a0 + 4) (xi a1) (x.2.1 (a0 + 4) (xi a1) + (Int32.toInt64 a2)))) rfl ?_
  obtain ⟨h3, h⟩ := cond_some h
  refine ev_lald rfl fa0.2.2.2.2.2.2.1.1 (fa0.2.2.2.2.2.2.1.ln h3) ?_
  refine ev_run (n := 3) (u' := (0, 0)) (f' := (21, [some (.ref a0), some (.int a1), some (.int a2), some (.int a3)], [.long ((wJ x (a0 + 4) (xi a1) (x.2.1 (a0 + 4) (xi a1) + (Int32.toInt64 a2))).2.1 (a0 + 5) (xi a1) + (Int32.toInt64 a3)), .int a1, .ref (a0 + 5)])) (h' := hp N (wJ x (a0 + 4) (xi a1) (x.2.1 (a0 + 4) (xi a1) + (Int32.toInt64 a2)))) rfl ?_
  obtain ⟨h4, h⟩ := cond_some h
  refine ev_last rfl fa0.2.2.2.2.2.2.1.1 (fa0.2.2.2.2.2.2.1.ln h4) ?_
  show Ev 53 (0, 0) (22, [some (.ref a0), some (.int a1), some (.int a2), some (.int a3)], []) (hp N (wJ (wJ x (a0 + 4) (xi a1) (x.2.1 (a0 + 4) (xi a1) + (Int32.toInt64 a2))) (a0 + 5) (xi a1) ((wJ x (a0 + 4) (xi a1) (x.2.1 (a0 + 4) (xi a1) + (Int32.toInt64 a2))).2.1 (a0 + 5) (xi a1) + (Int32.toInt64 a3)))) _
  refine ev_run (n := 1) (u' := (0, 0)) (f' := (23, [some (.ref a0), some (.int a1), some (.int a2), some (.int a3)], [.ref a0])) (h' := hp N (wJ (wJ x (a0 + 4) (xi a1) (x.2.1 (a0 + 4) (xi a1) + (Int32.toInt64 a2))) (a0 + 5) (xi a1) ((wJ x (a0 + 4) (xi a1) (x.2.1 (a0 + 4) (xi a1) + (Int32.toInt64 a2))).2.1 (a0 + 5) (xi a1) + (Int32.toInt64 a3)))) rfl ?_
  refine ev_gfr rfl rfl fa0.1 (fa0.fd (by decide) (by decide)) ?_
  refine ev_run (n := 1) (u' := (0, 0)) (f' := (27, [some (.ref a0), some (.int a1), some (.int a2), some (.int a3)], [.int a1, .ref (a0 + 4)])) (h' := hp N (wJ (wJ x (a0 + 4) (xi a1) (x.2.1 (a0 + 4) (xi a1) + (Int32.toInt64 a2))) (a0 + 5) (xi a1) ((wJ x (a0 + 4) (xi a1) (x.2.1 (a0 + 4) (xi a1) + (Int32.toInt64 a2))).2.1 (a0 + 5) (xi a1) + (Int32.toInt64 a3)))) rfl ?_
  obtain ⟨h5, h⟩ := cond_some h
  refine ev_lald rfl fa0.2.2.2.2.2.1.1 (fa0.2.2.2.2.2.1.ln h5) ?_
  refine ev_run (n := 1) (u' := (0, 0)) (f' := (29, [some (.ref a0), some (.int a1), some (.int a2), some (.int a3)], [.int (Int64.toInt32 ((wJ (wJ x (a0 + 4) (xi a1) (x.2.1 (a0 + 4) (xi a1) + (Int32.toInt64 a2))) (a0 + 5) (xi a1) ((wJ x (a0 + 4) (xi a1) (x.2.1 (a0 + 4) (xi a1) + (Int32.toInt64 a2))).2.1 (a0 + 5) (xi a1) + (Int32.toInt64 a3))).2.1 (a0 + 4) (xi a1)))])) (h' := hp N (wJ (wJ x (a0 + 4) (xi a1) (x.2.1 (a0 + 4) (xi a1) + (Int32.toInt64 a2))) (a0 + 5) (xi a1) ((wJ x (a0 + 4) (xi a1) (x.2.1 (a0 + 4) (xi a1) + (Int32.toInt64 a2))).2.1 (a0 + 5) (xi a1) + (Int32.toInt64 a3)))) rfl ?_
  cases h
  exact ev_iret rfl rfl rfl (Or.inl rfl)
def gm54_36 (x : Hs) : Option (Int32) := some 1
theorem em54_36 {N : Nat} (x : Hs) (r : Int32) (h : gm54_36 x = some r) : Ev 54 (0, 0) (36, [none, none], []) (hp N x) (cvPi N x r) := by
  unfold gm54_36 at h
  refine ev_run (n := 2) (u' := (0, 0)) (f' := (41, [none, none], [.int 1])) (h' := hp N x) rfl ?_
  cases h
  exact ev_iret rfl rfl rfl (Or.inr ⟨rfl, rfl⟩)
theorem em54_36_k1 {N : Nat} (a0 : Nat) (a1 : Int32) (fa0 : RG N a0) (x : Hs) (r : Int32) (h : gm54_36 x = some r) : Ev 54 (0, 0) (36, [some (.ref a0), some (.int a1)], []) (hp N x) (cvPi N x r) := by
  unfold gm54_36 at h
  refine ev_run (n := 2) (u' := (0, 0)) (f' := (41, [none, none], [.int 1])) (h' := hp N x) rfl ?_
  cases h
  exact ev_iret rfl rfl rfl (Or.inr ⟨rfl, rfl⟩)
def gm54 (a0 : Nat) (a1 : Int32) (x : Hs) : Option (Int32) := cond (aIn a1 5) (if (lg_cmp (x.2.1 (a0 + 6) (xi a1)) 20) < 0 then (gm54_36 x) else (cond (aIn a1 5) (if x.1 (a0 + 1) (xi a1) = (-1) then (some 0) else (cond (aIn a1 5) (if (lg_cmp (x.2.1 (a0 + 4) (xi a1)) 20) ≥ 0 then (some 0) else (gm54_36 x)) none)) none)) none
theorem em54 {N : Nat} (a0 : Nat) (a1 : Int32) (fa0 : RG N a0) (x : Hs) (r : Int32) (h : gm54 a0 a1 x = some r) : Ev 54 (0, 0) (0, aPad [.ref a0, .int a1] 2, []) (hp N x) (cvPi N x r) := by
  show Ev 54 (0, 0) (0, [some (.ref a0), some (.int a1)], []) (hp N x) _
  unfold gm54 at h
  refine ev_run (n := 1) (u' := (0, 0)) (f' := (1, [some (.ref a0), some (.int a1)], [.ref a0])) (h' := hp N x) rfl ?_
  refine ev_gfr rfl rfl fa0.1 (fa0.fd (by decide) (by decide)) ?_
  refine ev_run (n := 1) (u' := (0, 0)) (f' := (5, [some (.ref a0), some (.int a1)], [.int a1, .ref (a0 + 6)])) (h' := hp N x) rfl ?_
  obtain ⟨h1, h⟩ := cond_some h
  refine ev_lald rfl fa0.2.2.2.2.2.2.2.1.1 (fa0.2.2.2.2.2.2.2.1.ln h1) ?_
  refine ev_run (n := 2) (u' := (0, 0)) (f' := (10, [some (.ref a0), some (.int a1)], [.int (lg_cmp (x.2.1 (a0 + 6) (xi a1)) 20)])) (h' := hp N x) rfl ?_
  rcases ite_or h with ⟨h6, h⟩ | ⟨h6, h⟩
  · refine ev_ift rfl (decide_eq_true h6) ?_
    exact em54_36 x _ h
  · refine ev_iff rfl (decide_eq_false h6) ?_
    refine ev_run (n := 1) (u' := (0, 0)) (f' := (14, [some (.ref a0), some (.int a1)], [.ref a0])) (h' := hp N x) rfl ?_
    refine ev_gfr rfl rfl fa0.1 (fa0.fd (by decide) (by decide)) ?_
    refine ev_run (n := 1) (u' := (0, 0)) (f' := (18, [some (.ref a0), some (.int a1)], [.int a1, .ref (a0 + 1)])) (h' := hp N x) rfl ?_
    obtain ⟨h2, h⟩ := cond_some h
    refine ev_iald rfl fa0.2.2.1.kd (fa0.2.2.1.ln h2) ?_
    refine ev_run (n := 1) (u' := (0, 0)) (f' := (20, [some (.ref a0), some (.int a1)], [.int (-1), .int (x.1 (a0 + 1) (xi a1))])) (h' := hp N x) rfl ?_
    rcases ite_or h with ⟨h5, h⟩ | ⟨h5, h⟩
    · refine ev_ict rfl (decide_eq_true h5) ?_
      refine ev_run (n := 1) (u' := (0, 0)) (f' := (41, [none, none], [.int 0])) (h' := hp N x) rfl ?_
      cases h
      exact ev_iret rfl rfl rfl (Or.inr ⟨rfl, rfl⟩)
    · refine ev_icf rfl (decide_eq_false h5) ?_
      refine ev_run (n := 1) (u' := (0, 0)) (f' := (24, [some (.ref a0), some (.int a1)], [.ref a0])) (h' := hp N x) rfl ?_
      refine ev_gfr rfl rfl fa0.1 (fa0.fd (by decide) (by decide)) ?_
      refine ev_run (n := 1) (u' := (0, 0)) (f' := (28, [some (.ref a0), some (.int a1)], [.int a1, .ref (a0 + 4)])) (h' := hp N x) rfl ?_
      obtain ⟨h3, h⟩ := cond_some h
      refine ev_lald rfl fa0.2.2.2.2.2.1.1 (fa0.2.2.2.2.2.1.ln h3) ?_
      refine ev_run (n := 2) (u' := (0, 0)) (f' := (33, [some (.ref a0), some (.int a1)], [.int (lg_cmp (x.2.1 (a0 + 4) (xi a1)) 20)])) (h' := hp N x) rfl ?_
      rcases ite_or h with ⟨h4, h⟩ | ⟨h4, h⟩
      · refine ev_ift rfl (decide_eq_true h4) ?_
        refine ev_run (n := 1) (u' := (0, 0)) (f' := (41, [none, none], [.int 0])) (h' := hp N x) rfl ?_
        cases h
        exact ev_iret rfl rfl rfl (Or.inr ⟨rfl, rfl⟩)
      · refine ev_iff rfl (decide_eq_false h4) ?_
        exact em54_36_k1 a0 a1 fa0 x _ h
def gm55 (a0 : Nat) (a1 : Int32) (x : Hs) : Option (Int32) := cond (aIn a1 5) (cond (aIn a1 5) (cond (aIn a1 5) (if x.1 (a0 + 1) (xi a1) = (-1) then (if (lg_cmp (100 * x.2.1 (a0 + 7) (xi a1)) (5 * x.2.1 (a0 + 6) (xi a1))) ≤ 0 then (some 0) else (some 1)) else (cond (aIn a1 5) (cond (aIn a1 5) (if (lg_cmp (100 * ((x.2.1 (a0 + 7) (xi a1) * x.2.1 (a0 + 4) (xi a1)) - (x.2.1 (a0 + 5) (xi a1) * x.2.1 (a0 + 6) (xi a1)))) ((5 * x.2.1 (a0 + 6) (xi a1)) * x.2.1 (a0 + 4) (xi a1))) ≤ 0 then (some 0) else (some 1)) none) none)) none) none) none
theorem em55 {N : Nat} (a0 : Nat) (a1 : Int32) (fa0 : RG N a0) (x : Hs) (r : Int32) (h : gm55 a0 a1 x = some r) : Ev 55 (0, 0) (0, aPad [.ref a0, .int a1] 10, []) (hp N x) (cvPi N x r) := by
  show Ev 55 (0, 0) (0, [some (.ref a0), some (.int a1), none, none, none, none, none, none, none, none], []) (hp N x) _
  unfold gm55 at h
  refine ev_run (n := 1) (u' := (0, 0)) (f' := (1, [some (.ref a0), some (.int a1), none, none, none, none, none, none, none, none], [.ref a0])) (h' := hp N x) rfl ?_
  refine ev_gfr rfl rfl fa0.1 (fa0.fd (by decide) (by decide)) ?_
  refine ev_run (n := 1) (u' := (0, 0)) (f' := (5, [some (.ref a0), some (.int a1), none, none, none, none, none, none, none, none], [.int a1, .ref (a0 + 6)])) (h' := hp N x) rfl ?_
  obtain ⟨h1, h⟩ := cond_some h
  refine ev_lald rfl fa0.2.2.2.2.2.2.2.1.1 (fa0.2.2.2.2.2.2.2.1.ln h1) ?_
  refine ev_run (n := 2) (u' := (0, 0)) (f' := (8, [some (.ref a0), some (.int a1), some (.long (x.2.1 (a0 + 6) (xi a1))), none, none, none, none, none, none, none], [.ref a0])) (h' := hp N x) rfl ?_
  refine ev_gfr rfl rfl fa0.1 (fa0.fd (by decide) (by decide)) ?_
  refine ev_run (n := 1) (u' := (0, 0)) (f' := (12, [some (.ref a0), some (.int a1), some (.long (x.2.1 (a0 + 6) (xi a1))), none, none, none, none, none, none, none], [.int a1, .ref (a0 + 7)])) (h' := hp N x) rfl ?_
  obtain ⟨h2, h⟩ := cond_some h
  refine ev_lald rfl fa0.2.2.2.2.2.2.2.2.1 (fa0.2.2.2.2.2.2.2.2.ln h2) ?_
  refine ev_run (n := 2) (u' := (0, 0)) (f' := (16, [some (.ref a0), some (.int a1), some (.long (x.2.1 (a0 + 6) (xi a1))), none, some (.long (x.2.1 (a0 + 7) (xi a1))), none, none, none, none, none], [.ref a0])) (h' := hp N x) rfl ?_
  refine ev_gfr rfl rfl fa0.1 (fa0.fd (by decide) (by decide)) ?_
  refine ev_run (n := 1) (u' := (0, 0)) (f' := (20, [some (.ref a0), some (.int a1), some (.long (x.2.1 (a0 + 6) (xi a1))), none, some (.long (x.2.1 (a0 + 7) (xi a1))), none, none, none, none, none], [.int a1, .ref (a0 + 1)])) (h' := hp N x) rfl ?_
  obtain ⟨h3, h⟩ := cond_some h
  refine ev_iald rfl fa0.2.2.1.kd (fa0.2.2.1.ln h3) ?_
  refine ev_run (n := 1) (u' := (0, 0)) (f' := (22, [some (.ref a0), some (.int a1), some (.long (x.2.1 (a0 + 6) (xi a1))), none, some (.long (x.2.1 (a0 + 7) (xi a1))), none, none, none, none, none], [.int (-1), .int (x.1 (a0 + 1) (xi a1))])) (h' := hp N x) rfl ?_
  rcases ite_or h with ⟨h8, h⟩ | ⟨h8, h⟩
  · refine ev_icf rfl (decide_eq_false (fun w => w h8)) ?_
    refine ev_run (n := 7) (u' := (0, 0)) (f' := (37, [some (.ref a0), some (.int a1), some (.long (x.2.1 (a0 + 6) (xi a1))), none, some (.long (x.2.1 (a0 + 7) (xi a1))), none, none, none, none, none], [.int (lg_cmp (100 * x.2.1 (a0 + 7) (xi a1)) (5 * x.2.1 (a0 + 6) (xi a1)))])) (h' := hp N x) rfl ?_
    rcases ite_or h with ⟨h7, h⟩ | ⟨h7, h⟩
    · refine ev_ift rfl (decide_eq_true h7) ?_
      refine ev_run (n := 1) (u' := (0, 0)) (f' := (45, [none, none, none, none, none, none, none, none, none, none], [.int 0])) (h' := hp N x) rfl ?_
      cases h
      exact ev_iret rfl rfl rfl (Or.inr ⟨rfl, rfl⟩)
    · refine ev_iff rfl (decide_eq_false h7) ?_
      refine ev_run (n := 2) (u' := (0, 0)) (f' := (45, [none, none, none, none, none, none, none, none, none, none], [.int 1])) (h' := hp N x) rfl ?_
      cases h
      exact ev_iret rfl rfl rfl (Or.inr ⟨rfl, rfl⟩)
  · refine ev_ict rfl (decide_eq_true h8) ?_
    refine ev_run (n := 1) (u' := (0, 0)) (f' := (47, [some (.ref a0), some (.int a1), some (.long (x.2.1 (a0 + 6) (xi a1))), none, some (.long (x.2.1 (a0 + 7) (xi a1))), none, none, none, none, none], [.ref a0])) (h' := hp N x) rfl ?_
    refine ev_gfr rfl rfl fa0.1 (fa0.fd (by decide) (by decide)) ?_
    refine ev_run (n := 1) (u' := (0, 0)) (f' := (51, [some (.ref a0), some (.int a1), some (.long (x.2.1 (a0 + 6) (xi a1))), none, some (.long (x.2.1 (a0 + 7) (xi a1))), none, none, none, none, none], [.int a1, .ref (a0 + 4)])) (h' := hp N x) rfl ?_
    obtain ⟨h4, h⟩ := cond_some h
    refine ev_lald rfl fa0.2.2.2.2.2.1.1 (fa0.2.2.2.2.2.1.ln h4) ?_
    refine ev_run (n := 2) (u' := (0, 0)) (f' := (55, [some (.ref a0), some (.int a1), some (.long (x.2.1 (a0 + 6) (xi a1))), none, some (.long (x.2.1 (a0 + 7) (xi a1))), none, some (.long (x.2.1 (a0 + 4) (xi a1))), none, none, none], [.ref a0])) (h' := hp N x) rfl ?_
    refine ev_gfr rfl rfl fa0.1 (fa0.fd (by decide) (by decide)) ?_
    refine ev_run (n := 1) (u' := (0, 0)) (f' := (59, [some (.ref a0), some (.int a1), some (.long (x.2.1 (a0 + 6) (xi a1))), none, some (.long (x.2.1 (a0 + 7) (xi a1))), none, some (.long (x.2.1 (a0 + 4) (xi a1))), none, none, none], [.int a1, .ref (a0 + 5)])) (h' := hp N x) rfl ?_
    obtain ⟨h5, h⟩ := cond_some h
    refine ev_lald rfl fa0.2.2.2.2.2.2.1.1 (fa0.2.2.2.2.2.2.1.ln h5) ?_
    refine ev_run (n := 16) (u' := (0, 0)) (f' := (85, [some (.ref a0), some (.int a1), some (.long (x.2.1 (a0 + 6) (xi a1))), none, some (.long (x.2.1 (a0 + 7) (xi a1))), none, some (.long (x.2.1 (a0 + 4) (xi a1))), none, some (.long (x.2.1 (a0 + 5) (xi a1))), none], [.int (lg_cmp (100 * ((x.2.1 (a0 + 7) (xi a1) * x.2.1 (a0 + 4) (xi a1)) - (x.2.1 (a0 + 5) (xi a1) * x.2.1 (a0 + 6) (xi a1)))) ((5 * x.2.1 (a0 + 6) (xi a1)) * x.2.1 (a0 + 4) (xi a1)))])) (h' := hp N x) rfl ?_
    rcases ite_or h with ⟨h6, h⟩ | ⟨h6, h⟩
    · refine ev_ift rfl (decide_eq_true h6) ?_
      refine ev_run (n := 1) (u' := (0, 0)) (f' := (93, [none, none, none, none, none, none, none, none, none, none], [.int 0])) (h' := hp N x) rfl ?_
      cases h
      exact ev_iret rfl rfl rfl (Or.inr ⟨rfl, rfl⟩)
    · refine ev_iff rfl (decide_eq_false h6) ?_
      refine ev_run (n := 2) (u' := (0, 0)) (f' := (93, [none, none, none, none, none, none, none, none, none, none], [.int 1])) (h' := hp N x) rfl ?_
      cases h
      exact ev_iret rfl rfl rfl (Or.inr ⟨rfl, rfl⟩)
def gm57 (a0 : Nat) (a1 : Int32) (x : Hs) : Option (Hs) := some (wI (wI (wI x a0 0 a1) a0 1 0) a0 3 0)
theorem em57 {N : Nat} (a0 : Nat) (a1 : Int32) (fa0 : RO N a0) (x : Hs) (r : Hs) (h : gm57 a0 a1 x = some r) : Ev 57 (0, 0) (0, aPad [.ref a0, .int a1] 2, []) (hp N x) (cvMv N r) := by
  show Ev 57 (0, 0) (0, [some (.ref a0), some (.int a1)], []) (hp N x) _
  unfold gm57 at h
  refine ev_run (n := 2) (u' := (0, 0)) (f' := (2, [some (.ref a0), some (.int a1)], [.int a1, .ref a0])) (h' := hp N x) rfl ?_
  refine ev_pfi rfl fa0 rfl ?_
  show Ev 57 (0, 0) (5, [some (.ref a0), some (.int a1)], []) (hp N (wI x a0 0 a1)) _
  refine ev_run (n := 2) (u' := (0, 0)) (f' := (7, [some (.ref a0), some (.int a1)], [.int 0, .ref a0])) (h' := hp N (wI x a0 0 a1)) rfl ?_
  refine ev_pfi rfl fa0 rfl ?_
  show Ev 57 (0, 0) (10, [some (.ref a0), some (.int a1)], []) (hp N (wI (wI x a0 0 a1) a0 1 0)) _
  refine ev_run (n := 2) (u' := (0, 0)) (f' := (12, [some (.ref a0), some (.int a1)], [.int 0, .ref a0])) (h' := hp N (wI (wI x a0 0 a1) a0 1 0)) rfl ?_
  refine ev_pfi rfl fa0 rfl ?_
  show Ev 57 (0, 0) (15, [some (.ref a0), some (.int a1)], []) (hp N (wI (wI (wI x a0 0 a1) a0 1 0) a0 3 0)) _
  cases h
  exact ev_vret rfl rfl rfl
def gm93 (a0 : Int32) (x : Hs) : Option ((Unit ⊕ Nat) × Hs) := if a0 = 0 then (some (.inr 2, x)) else (some (.inl (), x))
theorem em93 {N : Nat} {u1 u2 : Nat} (a0 : Int32) (hu1 : u1 + 1 ≤ 1) (hu2 : u2 + 6 ≤ 6) (x : Hs) (r : (Unit ⊕ Nat) × Hs) (h : gm93 a0 x = some r) : Ev 93 (u1, u2) (0, aPad [.int a0] 1, []) (hp N x) (cvXv N r) := by
  show Ev 93 (u1, u2) (0, [some (.int a0)], []) (hp N x) _
  unfold gm93 at h
  refine ev_run (n := 1) (u' := (u1, u2)) (f' := (1, [some (.int a0)], [.int a0])) (h' := hp N x) rfl ?_
  rcases ite_or h with ⟨h1, h⟩ | ⟨h1, h⟩
  · refine ev_iff rfl (decide_eq_false (fun w => w h1)) ?_
    cases h
    exact ev_thr rfl rfl rfl (by show _ ≤ 1; omega) (by show _ ≤ 6; omega) rfl
  · refine ev_ift rfl (decide_eq_true h1) ?_
    cases h
    exact ev_vret rfl (end_u (by show _ ≤ 1; omega) (by show _ ≤ 6; omega)) rfl
def gm59_16 (s0 : Int32) (x : Hs) : Option ((Int32 ⊕ Nat) × Hs) := (gm93 s0 x).bind fun w2 => match w2 with | (.inl _, x6) => ((gm6 x6).bind fun w7 => (some (.inl w7.1, w7.2))) | (.inr k5, x6) => (cond (Nat.blt k5 3) (some (.inr k5, x6)) none)
theorem em59_16 {N : Nat} {u1 u2 : Nat} (s0 : Int32) (hu1 : u1 + 1 ≤ 1) (hu2 : u2 + 6 ≤ 6) (x : Hs) (r : (Int32 ⊕ Nat) × Hs) (h : gm59_16 s0 x = some r) : Ev 59 (u1, u2) (16, [some (.ref 1)], [.int s0]) (hp N x) (cvXi N r) := by
  unfold gm59_16 at h
  obtain ⟨w2, h3, h⟩ := bind_ok h
  obtain ⟨w2, x6⟩ := w2
  cases w2 with
  | inl v4 =>
    refine ev_call (v := none) (h1 := hp N x6) rfl rfl rfl (ok_u rfl (by show u1 + 1 ≤ 1; omega) (by show u2 + 6 ≤ 6; omega)) (em93 s0 (by decide) (by decide) x _ h3) ?_
    show Ev 59 (u1 + 1, u2 + 6) (19, [some (.ref 1)], []) (hp N x6) _
    refine ev_run (n := 2) (u' := (u1 + 1, u2 + 6)) (f' := (23, [some (.ref 1)], [.ref 2])) (h' := hp N x6) rfl ?_
    obtain ⟨w7, h8, h⟩ := bind_ok h
    refine ev_call (v := some (.int w7.1)) (h1 := hp N w7.2) rfl rfl rfl (ok_u rfl (by show u1 + 1 + 0 ≤ 1; omega) (by show u2 + 6 + 0 ≤ 6; omega)) (em6 x6 _ h8) ?_
    show Ev 59 (u1 + 1, u2 + 6) (26, [some (.ref 1)], [.int w7.1]) (hp N w7.2) _
    cases h
    exact ev_iret rfl (end_u (by show _ ≤ 1; omega) (by show _ ≤ 6; omega)) rfl (Or.inl rfl)
  | inr k5 =>
    obtain ⟨h9, h⟩ := cond_some h
    cases h
    exact ev_callX (h1 := hp N x6) rfl rfl rfl (ok_u rfl (by show u1 + 1 ≤ 1; omega) (by show u2 + 6 ≤ 6; omega)) h9 rfl (em93 s0 (by decide) (by decide) x _ h3)
def gm59 (x : Hs) : Option ((Int32 ⊕ Nat) × Hs) := if x.1 2 0 ≥ 5 then (gm59_16 0 x) else (gm59_16 1 x)
theorem em59 {N : Nat} {u1 u2 : Nat} (hu1 : u1 + 1 ≤ 1) (hu2 : u2 + 6 ≤ 6) (x : Hs) (r : (Int32 ⊕ Nat) × Hs) (h : gm59 x = some r) : Ev 59 (u1, u2) (0, aPad [.ref 1] 1, []) (hp N x) (cvXi N r) := by
  show Ev 59 (u1, u2) (0, [some (.ref 1)], []) (hp N x) _
  unfold gm59 at h
  refine ev_run (n := 4) (u' := (u1, u2)) (f' := (8, [some (.ref 1)], [.int 5, .int (x.1 2 0)])) (h' := hp N x) rfl ?_
  rcases ite_or h with ⟨h1, h⟩ | ⟨h1, h⟩
  · refine ev_ict rfl (decide_eq_true h1) ?_
    refine ev_run (n := 1) (u' := (u1, u2)) (f' := (16, [some (.ref 1)], [.int 0])) (h' := hp N x) rfl ?_
    exact em59_16 0 (by omega) (by omega) x _ h
  · refine ev_icf rfl (decide_eq_false h1) ?_
    refine ev_run (n := 2) (u' := (u1, u2)) (f' := (16, [some (.ref 1)], [.int 1])) (h' := hp N x) rfl ?_
    exact em59_16 1 (by omega) (by omega) x _ h
def gm91_9 (x : Hs) : Option ((Unit ⊕ Nat) × Hs) := some (.inr 0, x)
theorem em91_9 {N : Nat} {u1 u2 : Nat} (hu1 : u1 + 1 ≤ 1) (hu2 : u2 + 6 ≤ 6) (x : Hs) (r : (Unit ⊕ Nat) × Hs) (h : gm91_9 x = some r) : Ev 91 (u1, u2) (9, [none, none], []) (hp N x) (cvXv N r) := by
  unfold gm91_9 at h
  cases h
  exact ev_thr rfl rfl rfl (by show _ ≤ 1; omega) (by show _ ≤ 6; omega) rfl
theorem em91_9_k1 {N : Nat} {u1 u2 : Nat} (a0 : Int32) (a1 : Int32) (hu1 : u1 + 1 ≤ 1) (hu2 : u2 + 6 ≤ 6) (x : Hs) (r : (Unit ⊕ Nat) × Hs) (h : gm91_9 x = some r) : Ev 91 (u1, u2) (9, [some (.int a0), some (.int a1)], []) (hp N x) (cvXv N r) := by
  unfold gm91_9 at h
  cases h
  exact ev_thr rfl rfl rfl (by show _ ≤ 1; omega) (by show _ ≤ 6; omega) rfl
def gm91 (a0 : Int32) (a1 : Int32) (x : Hs) : Option ((Unit ⊕ Nat) × Hs) := if a0 < 0 then (gm91_9 x) else (if a0 < a1 then (some (.inl (), x)) else (gm91_9 x))
theorem em91 {N : Nat} {u1 u2 : Nat} (a0 : Int32) (a1 : Int32) (hu1 : u1 + 1 ≤ 1) (hu2 : u2 + 6 ≤ 6) (x : Hs) (r : (Unit ⊕ Nat) × Hs) (h : gm91 a0 a1 x = some r) : Ev 91 (u1, u2) (0, aPad [.int a0, .int a1] 2, []) (hp N x) (cvXv N r) := by
  show Ev 91 (u1, u2) (0, [some (.int a0), some (.int a1)], []) (hp N x) _
  unfold gm91 at h
  refine ev_run (n := 1) (u' := (u1, u2)) (f' := (1, [some (.int a0), some (.int a1)], [.int a0])) (h' := hp N x) rfl ?_
  rcases ite_or h with ⟨h2, h⟩ | ⟨h2, h⟩
  · refine ev_ift rfl (decide_eq_true h2) ?_
    exact em91_9 (by omega) (by omega) x _ h
  · refine ev_iff rfl (decide_eq_false h2) ?_
    refine ev_run (n := 2) (u' := (u1, u2)) (f' := (6, [some (.int a0), some (.int a1)], [.int a1, .int a0])) (h' := hp N x) rfl ?_
    rcases ite_or h with ⟨h1, h⟩ | ⟨h1, h⟩
    · refine ev_ict rfl (decide_eq_true h1) ?_
      cases h
      exact ev_vret rfl (end_u (by show _ ≤ 1; omega) (by show _ ≤ 6; omega)) rfl
    · refine ev_icf rfl (decide_eq_false h1) ?_
      exact em91_9_k1 a0 a1 (by omega) (by omega) x _ h
def gm94 (a1 : Int32) (x : Hs) : Option ((Unit ⊕ Nat) × Hs) := (gm91 a1 (x.1 2 0) x).bind fun w1 => match w1 with | (.inl _, x5) => (some (.inl (), x5)) | (.inr k4, x5) => (cond (Nat.blt k4 3) (some (.inr k4, x5)) none)
theorem em94 {N : Nat} {u1 u2 : Nat} (a1 : Int32) (hu1 : u1 + 1 ≤ 1) (hu2 : u2 + 6 ≤ 6) (x : Hs) (r : (Unit ⊕ Nat) × Hs) (h : gm94 a1 x = some r) : Ev 94 (u1, u2) (0, aPad [.ref 1, .int a1] 2, []) (hp N x) (cvXv N r) := by
  show Ev 94 (u1, u2) (0, [some (.ref 1), some (.int a1)], []) (hp N x) _
  unfold gm94 at h
  refine ev_run (n := 4) (u' := (u1, u2)) (f' := (8, [some (.ref 1), some (.int a1)], [.int (x.1 2 0), .int a1])) (h' := hp N x) rfl ?_
  obtain ⟨w1, h2, h⟩ := bind_ok h
  obtain ⟨w1, x5⟩ := w1
  cases w1 with
  | inl v3 =>
    refine ev_call (v := none) (h1 := hp N x5) rfl rfl rfl (ok_u rfl (by show u1 + 1 ≤ 1; omega) (by show u2 + 6 ≤ 6; omega)) (em91 a1 (x.1 2 0) (by decide) (by decide) x _ h2) ?_
    show Ev 94 (u1 + 1, u2 + 6) (11, [some (.ref 1), some (.int a1)], []) (hp N x5) _
    cases h
    exact ev_vret rfl (end_u (by show _ ≤ 1; omega) (by show _ ≤ 6; omega)) rfl
  | inr k4 =>
    obtain ⟨h6, h⟩ := cond_some h
    cases h
    exact ev_callX (h1 := hp N x5) rfl rfl rfl (ok_u rfl (by show u1 + 1 ≤ 1; omega) (by show u2 + 6 ≤ 6; omega)) h6 rfl (em91 a1 (x.1 2 0) (by decide) (by decide) x _ h2)
def gm92 (a0 : Int32) (x : Hs) : Option ((Unit ⊕ Nat) × Hs) := if a0 = 0 then (some (.inr 1, x)) else (some (.inl (), x))
theorem em92 {N : Nat} {u1 u2 : Nat} (a0 : Int32) (hu1 : u1 + 1 ≤ 1) (hu2 : u2 + 6 ≤ 6) (x : Hs) (r : (Unit ⊕ Nat) × Hs) (h : gm92 a0 x = some r) : Ev 92 (u1, u2) (0, aPad [.int a0] 1, []) (hp N x) (cvXv N r) := by
  show Ev 92 (u1, u2) (0, [some (.int a0)], []) (hp N x) _
  unfold gm92 at h
  refine ev_run (n := 1) (u' := (u1, u2)) (f' := (1, [some (.int a0)], [.int a0])) (h' := hp N x) rfl ?_
  rcases ite_or h with ⟨h1, h⟩ | ⟨h1, h⟩
  · refine ev_iff rfl (decide_eq_false (fun w => w h1)) ?_
    cases h
    exact ev_thr rfl rfl rfl (by show _ ≤ 1; omega) (by show _ ≤ 6; omega) rfl
  · refine ev_ift rfl (decide_eq_true h1) ?_
    cases h
    exact ev_vret rfl (end_u (by show _ ≤ 1; omega) (by show _ ≤ 6; omega)) rfl
def gm60_62 (a1 : Int32) (a2 : Int32) (s0 : Int32) (x : Hs) : Option ((Int32 ⊕ Nat) × Hs) := (gm93 s0 x).bind fun w29 => match w29 with | (.inl _, x33) => ((gm8 a1 a2 x33).bind fun w34 => (some (.inl w34.1, w34.2))) | (.inr k32, x33) => (cond (Nat.blt k32 3) (some (.inr k32, x33)) none)
theorem em60_62 {N : Nat} {u1 u2 : Nat} (a1 : Int32) (a2 : Int32) (s0 : Int32) (hu1 : u1 + 1 ≤ 4) (hu2 : u2 + 6 ≤ 24) (x : Hs) (r : (Int32 ⊕ Nat) × Hs) (h : gm60_62 a1 a2 s0 x = some r) : Ev 60 (u1, u2) (62, [some (.ref 1), some (.int a1), some (.int a2)], [.int s0]) (hp N x) (cvXi N r) := by
  unfold gm60_62 at h
  obtain ⟨w29, h30, h⟩ := bind_ok h
  obtain ⟨w29, x33⟩ := w29
  cases w29 with
  | inl v31 =>
    refine ev_call (v := none) (h1 := hp N x33) rfl rfl rfl (ok_u rfl (by show u1 + 1 ≤ 4; omega) (by show u2 + 6 ≤ 24; omega)) (em93 s0 (by decide) (by decide) x _ h30) ?_
    show Ev 60 (u1 + 1, u2 + 6) (65, [some (.ref 1), some (.int a1), some (.int a2)], []) (hp N x33) _
    refine ev_run (n := 4) (u' := (u1 + 1, u2 + 6)) (f' := (71, [some (.ref 1), some (.int a1), some (.int a2)], [.int a2, .int a1, .ref 2])) (h' := hp N x33) rfl ?_
    obtain ⟨w34, h35, h⟩ := bind_ok h
    refine ev_call (v := some (.int w34.1)) (h1 := hp N w34.2) rfl rfl rfl (ok_u rfl (by show u1 + 1 + 0 ≤ 4; omega) (by show u2 + 6 + 0 ≤ 24; omega)) (em8 a1 a2 x33 _ h35) ?_
    show Ev 60 (u1 + 1, u2 + 6) (74, [some (.ref 1), some (.int a1), some (.int a2)], [.int w34.1]) (hp N w34.2) _
    cases h
    exact ev_iret rfl (end_u (by show _ ≤ 4; omega) (by show _ ≤ 24; omega)) rfl (Or.inl rfl)
  | inr k32 =>
    obtain ⟨h36, h⟩ := cond_some h
    cases h
    exact ev_callX (h1 := hp N x33) rfl rfl rfl (ok_u rfl (by show u1 + 1 ≤ 4; omega) (by show u2 + 6 ≤ 24; omega)) h36 rfl (em93 s0 (by decide) (by decide) x _ h30)
def gm60_61 (a1 : Int32) (a2 : Int32) (x : Hs) : Option ((Int32 ⊕ Nat) × Hs) := gm60_62 a1 a2 0 x
theorem em60_61 {N : Nat} {u1 u2 : Nat} (a1 : Int32) (a2 : Int32) (hu1 : u1 + 1 ≤ 4) (hu2 : u2 + 6 ≤ 24) (x : Hs) (r : (Int32 ⊕ Nat) × Hs) (h : gm60_61 a1 a2 x = some r) : Ev 60 (u1, u2) (61, [some (.ref 1), some (.int a1), some (.int a2)], []) (hp N x) (cvXi N r) := by
  unfold gm60_61 at h
  refine ev_run (n := 1) (u' := (u1, u2)) (f' := (62, [some (.ref 1), some (.int a1), some (.int a2)], [.int 0])) (h' := hp N x) rfl ?_
  exact em60_62 a1 a2 0 (by omega) (by omega) x _ h
def gm60_20 (a1 : Int32) (a2 : Int32) (s0 : Int32) (x : Hs) : Option ((Int32 ⊕ Nat) × Hs) := (gm92 s0 x).bind fun w14 => match w14 with | (.inl _, x18) => ((gm7 a1 a2 x18).bind fun w19 => (if w19 = 0 then ((gm9 a1 x18).bind fun w21 => (if w21 = 0 then ((gm9 a2 x18).bind fun w23 => (if w23 = 0 then (gm60_62 a1 a2 1 x18) else (gm60_61 a1 a2 x18))) else (gm60_61 a1 a2 x18))) else (gm60_61 a1 a2 x18))) | (.inr k17, x18) => (cond (Nat.blt k17 3) (some (.inr k17, x18)) none)
theorem em60_20 {N : Nat} {u1 u2 : Nat} (a1 : Int32) (a2 : Int32) (s0 : Int32) (hu1 : u1 + 2 ≤ 4) (hu2 : u2 + 12 ≤ 24) (x : Hs) (r : (Int32 ⊕ Nat) × Hs) (h : gm60_20 a1 a2 s0 x = some r) : Ev 60 (u1, u2) (20, [some (.ref 1), some (.int a1), some (.int a2)], [.int s0]) (hp N x) (cvXi N r) := by
  unfold gm60_20 at h
  obtain ⟨w14, h15, h⟩ := bind_ok h
  obtain ⟨w14, x18⟩ := w14
  cases w14 with
  | inl v16 =>
    refine ev_call (v := none) (h1 := hp N x18) rfl rfl rfl (ok_u rfl (by show u1 + 1 ≤ 4; omega) (by show u2 + 6 ≤ 24; omega)) (em92 s0 (by decide) (by decide) x _ h15) ?_
    show Ev 60 (u1 + 1, u2 + 6) (23, [some (.ref 1), some (.int a1), some (.int a2)], []) (hp N x18) _
    refine ev_run (n := 4) (u' := (u1 + 1, u2 + 6)) (f' := (29, [some (.ref 1), some (.int a1), some (.int a2)], [.int a2, .int a1, .ref 2])) (h' := hp N x18) rfl ?_
    obtain ⟨w19, h20, h⟩ := bind_ok h
    refine ev_call (v := some (.int w19)) (h1 := hp N x18) rfl rfl rfl (ok_u rfl (by show u1 + 1 + 0 ≤ 4; omega) (by show u2 + 6 + 0 ≤ 24; omega)) (em7 a1 a2 x18 _ h20) ?_
    show Ev 60 (u1 + 1, u2 + 6) (32, [some (.ref 1), some (.int a1), some (.int a2)], [.int w19]) (hp N x18) _
    rcases ite_or h with ⟨h27, h⟩ | ⟨h27, h⟩
    · refine ev_iff rfl (decide_eq_false (fun w => w h27)) ?_
      refine ev_run (n := 3) (u' := (u1 + 1, u2 + 6)) (f' := (40, [some (.ref 1), some (.int a1), some (.int a2)], [.int a1, .ref 2])) (h' := hp N x18) rfl ?_
      obtain ⟨w21, h22, h⟩ := bind_ok h
      refine ev_call (v := some (.int w21)) (h1 := hp N x18) rfl rfl rfl (ok_u rfl (by show u1 + 1 + 0 ≤ 4; omega) (by show u2 + 6 + 0 ≤ 24; omega)) (em9 a1 x18 _ h22) ?_
      show Ev 60 (u1 + 1, u2 + 6) (43, [some (.ref 1), some (.int a1), some (.int a2)], [.int w21]) (hp N x18) _
      rcases ite_or h with ⟨h26, h⟩ | ⟨h26, h⟩
      · refine ev_iff rfl (decide_eq_false (fun w => w h26)) ?_
        refine ev_run (n := 3) (u' := (u1 + 1, u2 + 6)) (f' := (51, [some (.ref 1), some (.int a1), some (.int a2)], [.int a2, .ref 2])) (h' := hp N x18) rfl ?_
        obtain ⟨w23, h24, h⟩ := bind_ok h
        refine ev_call (v := some (.int w23)) (h1 := hp N x18) rfl rfl rfl (ok_u rfl (by show u1 + 1 + 0 ≤ 4; omega) (by show u2 + 6 + 0 ≤ 24; omega)) (em9 a2 x18 _ h24) ?_
        show Ev 60 (u1 + 1, u2 + 6) (54, [some (.ref 1), some (.int a1), some (.int a2)], [.int w23]) (hp N x18) _
        rcases ite_or h with ⟨h25, h⟩ | ⟨h25, h⟩
        · refine ev_iff rfl (decide_eq_false (fun w => w h25)) ?_
          refine ev_run (n := 2) (u' := (u1 + 1, u2 + 6)) (f' := (62, [some (.ref 1), some (.int a1), some (.int a2)], [.int 1])) (h' := hp N x18) rfl ?_
          exact em60_62 a1 a2 1 (by omega) (by omega) x18 _ h
        · refine ev_ift rfl (decide_eq_true h25) ?_
          exact em60_61 a1 a2 (by omega) (by omega) x18 _ h
      · refine ev_ift rfl (decide_eq_true h26) ?_
        exact em60_61 a1 a2 (by omega) (by omega) x18 _ h
    · refine ev_ift rfl (decide_eq_true h27) ?_
      exact em60_61 a1 a2 (by omega) (by omega) x18 _ h
  | inr k17 =>
    obtain ⟨h28, h⟩ := cond_some h
    cases h
    exact ev_callX (h1 := hp N x18) rfl rfl rfl (ok_u rfl (by show u1 + 1 ≤ 4; omega) (by show u2 + 6 ≤ 24; omega)) h28 rfl (em92 s0 (by decide) (by decide) x _ h15)
def gm60 (a1 : Int32) (a2 : Int32) (x : Hs) : Option ((Int32 ⊕ Nat) × Hs) := (gm94 a1 x).bind fun w1 => match w1 with | (.inl _, x5) => ((gm94 a2 x5).bind fun w6 => match w6 with | (.inl _, x10) => (if a1 = a2 then (gm60_20 a1 a2 0 x10) else (gm60_20 a1 a2 1 x10)) | (.inr k9, x10) => (cond (Nat.blt k9 3) (some (.inr k9, x10)) none)) | (.inr k4, x5) => (cond (Nat.blt k4 3) (some (.inr k4, x5)) none)
theorem em60 {N : Nat} {u1 u2 : Nat} (a1 : Int32) (a2 : Int32) (hu1 : u1 + 4 ≤ 4) (hu2 : u2 + 24 ≤ 24) (x : Hs) (r : (Int32 ⊕ Nat) × Hs) (h : gm60 a1 a2 x = some r) : Ev 60 (u1, u2) (0, aPad [.ref 1, .int a1, .int a2] 3, []) (hp N x) (cvXi N r) := by
  show Ev 60 (u1, u2) (0, [some (.ref 1), some (.int a1), some (.int a2)], []) (hp N x) _
  unfold gm60 at h
  refine ev_run (n := 2) (u' := (u1, u2)) (f' := (2, [some (.ref 1), some (.int a1), some (.int a2)], [.int a1, .ref 1])) (h' := hp N x) rfl ?_
  obtain ⟨w1, h2, h⟩ := bind_ok h
  obtain ⟨w1, x5⟩ := w1
  cases w1 with
  | inl v3 =>
    refine ev_call (v := none) (h1 := hp N x5) rfl rfl rfl (ok_u rfl (by show u1 + 1 ≤ 4; omega) (by show u2 + 6 ≤ 24; omega)) (em94 a1 (by decide) (by decide) x _ h2) ?_
    show Ev 60 (u1 + 1, u2 + 6) (5, [some (.ref 1), some (.int a1), some (.int a2)], []) (hp N x5) _
    refine ev_run (n := 2) (u' := (u1 + 1, u2 + 6)) (f' := (7, [some (.ref 1), some (.int a1), some (.int a2)], [.int a2, .ref 1])) (h' := hp N x5) rfl ?_
    obtain ⟨w6, h7, h⟩ := bind_ok h
    obtain ⟨w6, x10⟩ := w6
    cases w6 with
    | inl v8 =>
      refine ev_call (v := none) (h1 := hp N x10) rfl rfl rfl (ok_u rfl (by show u1 + 1 + 1 ≤ 4; omega) (by show u2 + 6 + 6 ≤ 24; omega)) (em94 a2 (by decide) (by decide) x5 _ h7) ?_
      show Ev 60 (u1 + 2, u2 + 12) (10, [some (.ref 1), some (.int a1), some (.int a2)], []) (hp N x10) _
      refine ev_run (n := 2) (u' := (u1 + 2, u2 + 12)) (f' := (12, [some (.ref 1), some (.int a1), some (.int a2)], [.int a2, .int a1])) (h' := hp N x10) rfl ?_
      rcases ite_or h with ⟨h11, h⟩ | ⟨h11, h⟩
      · refine ev_ict rfl (decide_eq_true h11) ?_
        refine ev_run (n := 1) (u' := (u1 + 2, u2 + 12)) (f' := (20, [some (.ref 1), some (.int a1), some (.int a2)], [.int 0])) (h' := hp N x10) rfl ?_
        exact em60_20 a1 a2 0 (by omega) (by omega) x10 _ h
      · refine ev_icf rfl (decide_eq_false h11) ?_
        refine ev_run (n := 2) (u' := (u1 + 2, u2 + 12)) (f' := (20, [some (.ref 1), some (.int a1), some (.int a2)], [.int 1])) (h' := hp N x10) rfl ?_
        exact em60_20 a1 a2 1 (by omega) (by omega) x10 _ h
    | inr k9 =>
      obtain ⟨h12, h⟩ := cond_some h
      cases h
      exact ev_callX (h1 := hp N x10) rfl rfl rfl (ok_u rfl (by show u1 + 1 + 1 ≤ 4; omega) (by show u2 + 6 + 6 ≤ 24; omega)) h12 rfl (em94 a2 (by decide) (by decide) x5 _ h7)
  | inr k4 =>
    obtain ⟨h13, h⟩ := cond_some h
    cases h
    exact ev_callX (h1 := hp N x5) rfl rfl rfl (ok_u rfl (by show u1 + 1 ≤ 4; omega) (by show u2 + 6 ≤ 24; omega)) h13 rfl (em94 a1 (by decide) (by decide) x _ h2)
def gm99 (a0 : Int32) (a1 : Int32) (a2 : Int32) (x : Hs) : Option (Int32) := if a0 < a1 then (some 0) else (if a0 > a2 then (some 0) else (some 1))
theorem em99 {N : Nat} (a0 : Int32) (a1 : Int32) (a2 : Int32) (x : Hs) (r : Int32) (h : gm99 a0 a1 a2 x = some r) : Ev 99 (0, 0) (0, aPad [.int a0, .int a1, .int a2] 3, []) (hp N x) (cvPi N x r) := by
  show Ev 99 (0, 0) (0, [some (.int a0), some (.int a1), some (.int a2)], []) (hp N x) _
  unfold gm99 at h
  refine ev_run (n := 2) (u' := (0, 0)) (f' := (2, [some (.int a0), some (.int a1), some (.int a2)], [.int a1, .int a0])) (h' := hp N x) rfl ?_
  rcases ite_or h with ⟨h2, h⟩ | ⟨h2, h⟩
  · refine ev_ict rfl (decide_eq_true h2) ?_
    refine ev_run (n := 1) (u' := (0, 0)) (f' := (15, [none, none, none], [.int 0])) (h' := hp N x) rfl ?_
    cases h
    exact ev_iret rfl rfl rfl (Or.inr ⟨rfl, rfl⟩)
  · refine ev_icf rfl (decide_eq_false h2) ?_
    refine ev_run (n := 2) (u' := (0, 0)) (f' := (7, [some (.int a0), some (.int a1), some (.int a2)], [.int a2, .int a0])) (h' := hp N x) rfl ?_
    rcases ite_or h with ⟨h1, h⟩ | ⟨h1, h⟩
    · refine ev_ict rfl (decide_eq_true h1) ?_
      refine ev_run (n := 1) (u' := (0, 0)) (f' := (15, [none, none, none], [.int 0])) (h' := hp N x) rfl ?_
      cases h
      exact ev_iret rfl rfl rfl (Or.inr ⟨rfl, rfl⟩)
    · refine ev_icf rfl (decide_eq_false h1) ?_
      refine ev_run (n := 2) (u' := (0, 0)) (f' := (15, [none, none, none], [.int 1])) (h' := hp N x) rfl ?_
      cases h
      exact ev_iret rfl rfl rfl (Or.inr ⟨rfl, rfl⟩)
def gm61_32 (a1 : Int32) (a2 : Int32) (s0 : Int32) (x : Hs) : Option ((Int32 ⊕ Nat) × Hs) := (gm93 s0 x).bind fun w16 => match w16 with | (.inl _, x20) => ((gm10 a1 a2 x20).bind fun w21 => (some (.inl w21.1, w21.2))) | (.inr k19, x20) => (cond (Nat.blt k19 3) (some (.inr k19, x20)) none)
theorem em61_32 {N : Nat} {u1 u2 : Nat} (a1 : Int32) (a2 : Int32) (s0 : Int32) (hu1 : u1 + 1 ≤ 3) (hu2 : u2 + 6 ≤ 18) (x : Hs) (r : (Int32 ⊕ Nat) × Hs) (h : gm61_32 a1 a2 s0 x = some r) : Ev 61 (u1, u2) (32, [some (.ref 1), some (.int a1), some (.int a2)], [.int s0]) (hp N x) (cvXi N r) := by
  unfold gm61_32 at h
  obtain ⟨w16, h17, h⟩ := bind_ok h
  obtain ⟨w16, x20⟩ := w16
  cases w16 with
  | inl v18 =>
    refine ev_call (v := none) (h1 := hp N x20) rfl rfl rfl (ok_u rfl (by show u1 + 1 ≤ 3; omega) (by show u2 + 6 ≤ 18; omega)) (em93 s0 (by decide) (by decide) x _ h17) ?_
    show Ev 61 (u1 + 1, u2 + 6) (35, [some (.ref 1), some (.int a1), some (.int a2)], []) (hp N x20) _
    refine ev_run (n := 4) (u' := (u1 + 1, u2 + 6)) (f' := (41, [some (.ref 1), some (.int a1), some (.int a2)], [.int a2, .int a1, .ref 2])) (h' := hp N x20) rfl ?_
    obtain ⟨w21, h22, h⟩ := bind_ok h
    refine ev_call (v := some (.int w21.1)) (h1 := hp N w21.2) rfl rfl rfl (ok_u rfl (by show u1 + 1 + 0 ≤ 3; omega) (by show u2 + 6 + 0 ≤ 18; omega)) (em10 a1 a2 x20 _ h22) ?_
    show Ev 61 (u1 + 1, u2 + 6) (44, [some (.ref 1), some (.int a1), some (.int a2)], [.int w21.1]) (hp N w21.2) _
    cases h
    exact ev_iret rfl (end_u (by show _ ≤ 3; omega) (by show _ ≤ 18; omega)) rfl (Or.inl rfl)
  | inr k19 =>
    obtain ⟨h23, h⟩ := cond_some h
    cases h
    exact ev_callX (h1 := hp N x20) rfl rfl rfl (ok_u rfl (by show u1 + 1 ≤ 3; omega) (by show u2 + 6 ≤ 18; omega)) h23 rfl (em93 s0 (by decide) (by decide) x _ h17)
def gm61 (a1 : Int32) (a2 : Int32) (x : Hs) : Option ((Int32 ⊕ Nat) × Hs) := (gm94 a1 x).bind fun w1 => match w1 with | (.inl _, x5) => ((gm99 a2 0 9 x5).bind fun w6 => ((gm92 w6 x5).bind fun w8 => match w8 with | (.inl _, x12) => (if x12.1 2 1 ≥ 24 then (gm61_32 a1 a2 0 x12) else (gm61_32 a1 a2 1 x12)) | (.inr k11, x12) => (cond (Nat.blt k11 3) (some (.inr k11, x12)) none))) | (.inr k4, x5) => (cond (Nat.blt k4 3) (some (.inr k4, x5)) none)
theorem em61 {N : Nat} {u1 u2 : Nat} (a1 : Int32) (a2 : Int32) (hu1 : u1 + 3 ≤ 3) (hu2 : u2 + 18 ≤ 18) (x : Hs) (r : (Int32 ⊕ Nat) × Hs) (h : gm61 a1 a2 x = some r) : Ev 61 (u1, u2) (0, aPad [.ref 1, .int a1, .int a2] 3, []) (hp N x) (cvXi N r) := by
  show Ev 61 (u1, u2) (0, [some (.ref 1), some (.int a1), some (.int a2)], []) (hp N x) _
  unfold gm61 at h
  refine ev_run (n := 2) (u' := (u1, u2)) (f' := (2, [some (.ref 1), some (.int a1), some (.int a2)], [.int a1, .ref 1])) (h' := hp N x) rfl ?_
  obtain ⟨w1, h2, h⟩ := bind_ok h
  obtain ⟨w1, x5⟩ := w1
  cases w1 with
  | inl v3 =>
    refine ev_call (v := none) (h1 := hp N x5) rfl rfl rfl (ok_u rfl (by show u1 + 1 ≤ 3; omega) (by show u2 + 6 ≤ 18; omega)) (em94 a1 (by decide) (by decide) x _ h2) ?_
    show Ev 61 (u1 + 1, u2 + 6) (5, [some (.ref 1), some (.int a1), some (.int a2)], []) (hp N x5) _
    refine ev_run (n := 3) (u' := (u1 + 1, u2 + 6)) (f' := (9, [some (.ref 1), some (.int a1), some (.int a2)], [.int 9, .int 0, .int a2])) (h' := hp N x5) rfl ?_
    obtain ⟨w6, h7, h⟩ := bind_ok h
    refine ev_call (v := some (.int w6)) (h1 := hp N x5) rfl rfl rfl (ok_u rfl (by show u1 + 1 + 0 ≤ 3; omega) (by show u2 + 6 + 0 ≤ 18; omega)) (em99 a2 0 9 x5 _ h7) ?_
    show Ev 61 (u1 + 1, u2 + 6) (12, [some (.ref 1), some (.int a1), some (.int a2)], [.int w6]) (hp N x5) _
    obtain ⟨w8, h9, h⟩ := bind_ok h
    obtain ⟨w8, x12⟩ := w8
    cases w8 with
    | inl v10 =>
      refine ev_call (v := none) (h1 := hp N x12) rfl rfl rfl (ok_u rfl (by show u1 + 1 + 1 ≤ 3; omega) (by show u2 + 6 + 6 ≤ 18; omega)) (em92 w6 (by decide) (by decide) x5 _ h9) ?_
      show Ev 61 (u1 + 2, u2 + 12) (15, [some (.ref 1), some (.int a1), some (.int a2)], []) (hp N x12) _
      refine ev_run (n := 4) (u' := (u1 + 2, u2 + 12)) (f' := (24, [some (.ref 1), some (.int a1), some (.int a2)], [.int 24, .int (x12.1 2 1)])) (h' := hp N x12) rfl ?_
      rcases ite_or h with ⟨h13, h⟩ | ⟨h13, h⟩
      · refine ev_ict rfl (decide_eq_true h13) ?_
        refine ev_run (n := 1) (u' := (u1 + 2, u2 + 12)) (f' := (32, [some (.ref 1), some (.int a1), some (.int a2)], [.int 0])) (h' := hp N x12) rfl ?_
        exact em61_32 a1 a2 0 (by omega) (by omega) x12 _ h
      · refine ev_icf rfl (decide_eq_false h13) ?_
        refine ev_run (n := 2) (u' := (u1 + 2, u2 + 12)) (f' := (32, [some (.ref 1), some (.int a1), some (.int a2)], [.int 1])) (h' := hp N x12) rfl ?_
        exact em61_32 a1 a2 1 (by omega) (by omega) x12 _ h
    | inr k11 =>
      obtain ⟨h14, h⟩ := cond_some h
      cases h
      exact ev_callX (h1 := hp N x12) rfl rfl rfl (ok_u rfl (by show u1 + 1 + 1 ≤ 3; omega) (by show u2 + 6 + 6 ≤ 18; omega)) h14 rfl (em92 w6 (by decide) (by decide) x5 _ h9)
  | inr k4 =>
    obtain ⟨h15, h⟩ := cond_some h
    cases h
    exact ev_callX (h1 := hp N x5) rfl rfl rfl (ok_u rfl (by show u1 + 1 ≤ 3; omega) (by show u2 + 6 ≤ 18; omega)) h15 rfl (em94 a1 (by decide) (by decide) x _ h2)
def gm95 (a1 : Int32) (x : Hs) : Option ((Unit ⊕ Nat) × Hs) := (gm91 a1 (x.1 2 1) x).bind fun w1 => match w1 with | (.inl _, x5) => (some (.inl (), x5)) | (.inr k4, x5) => (cond (Nat.blt k4 3) (some (.inr k4, x5)) none)
theorem em95 {N : Nat} {u1 u2 : Nat} (a1 : Int32) (hu1 : u1 + 1 ≤ 1) (hu2 : u2 + 6 ≤ 6) (x : Hs) (r : (Unit ⊕ Nat) × Hs) (h : gm95 a1 x = some r) : Ev 95 (u1, u2) (0, aPad [.ref 1, .int a1] 2, []) (hp N x) (cvXv N r) := by
  show Ev 95 (u1, u2) (0, [some (.ref 1), some (.int a1)], []) (hp N x) _
  unfold gm95 at h
  refine ev_run (n := 4) (u' := (u1, u2)) (f' := (8, [some (.ref 1), some (.int a1)], [.int (x.1 2 1), .int a1])) (h' := hp N x) rfl ?_
  obtain ⟨w1, h2, h⟩ := bind_ok h
  obtain ⟨w1, x5⟩ := w1
  cases w1 with
  | inl v3 =>
    refine ev_call (v := none) (h1 := hp N x5) rfl rfl rfl (ok_u rfl (by show u1 + 1 ≤ 1; omega) (by show u2 + 6 ≤ 6; omega)) (em91 a1 (x.1 2 1) (by decide) (by decide) x _ h2) ?_
    show Ev 95 (u1 + 1, u2 + 6) (11, [some (.ref 1), some (.int a1)], []) (hp N x5) _
    cases h
    exact ev_vret rfl (end_u (by show _ ≤ 1; omega) (by show _ ≤ 6; omega)) rfl
  | inr k4 =>
    obtain ⟨h6, h⟩ := cond_some h
    cases h
    exact ev_callX (h1 := hp N x5) rfl rfl rfl (ok_u rfl (by show u1 + 1 ≤ 1; omega) (by show u2 + 6 ≤ 6; omega)) h6 rfl (em91 a1 (x.1 2 1) (by decide) (by decide) x _ h2)
def gm102_12 : Nat → Int32 → Int32 → Int32 → Hs → Option (Int32)
  | 0, _, _, _, _ => none
  | n + 1, a1, a2, a3, x => if a3 ≥ 4 then (some 0) else (cond (aIn a3 4) (cond (aIn a2 5) (if x.1 ((60 + 8 * xi a3) + 1) (xi a2) = a1 then (some 1) else (gm102_12 n a1 a2 (a3 + 1) x)) none) none)
theorem em102_12 {N : Nat} : ∀ (n : Nat) (a1 : Int32) (a2 : Int32) (a3 : Int32) (x : Hs) (r : Int32), gm102_12 n a1 a2 a3 x = some r → Ev 102 (0, 0) (12, [some (.ref 1), some (.int a1), some (.int a2), some (.int a3)], []) (hp N x) (cvPi N x r)
  | 0, a1, a2, a3, x, r, h => by
    have e9 : (none : Option (Int32)) = some r := h
    cases e9
  | n + 1, a1, a2, a3, x, r, h => by
    have q12 := em102_12 (N := N) n
    rw [gm102_12] at h
    refine ev_run (n := 2) (u' := (0, 0)) (f' := (14, [some (.ref 1), some (.int a1), some (.int a2), some (.int a3)], [.int 4, .int a3])) (h' := hp N x) rfl ?_
    rcases ite_or h with ⟨h5, h⟩ | ⟨h5, h⟩
    · refine ev_ict rfl (decide_eq_true h5) ?_
      refine ev_run (n := 1) (u' := (0, 0)) (f' := (41, [none, none, none, none], [.int 0])) (h' := hp N x) rfl ?_
      cases h
      exact ev_iret rfl rfl rfl (Or.inr ⟨rfl, rfl⟩)
    · refine ev_icf rfl (decide_eq_false h5) ?_
      refine ev_run (n := 3) (u' := (0, 0)) (f' := (22, [some (.ref 1), some (.int a1), some (.int a2), some (.int a3)], [.int a3, .ref 59])) (h' := hp N x) rfl ?_
      obtain ⟨h2, h⟩ := cond_some h
      refine ev_aald rfl rfl h2 (rf_59 h2) ?_
      refine ev_gfr rfl rfl (RG_lt N _ (lt_of_aIn h2)).1 ((RG_lt N _ (lt_of_aIn h2)).fd (by decide) (by decide)) ?_
      refine ev_run (n := 1) (u' := (0, 0)) (f' := (27, [some (.ref 1), some (.int a1), some (.int a2), some (.int a3)], [.int a2, .ref ((60 + 8 * xi a3) + 1)])) (h' := hp N x) rfl ?_
      obtain ⟨h3, h⟩ := cond_some h
      refine ev_iald rfl ((RG_lt N _ (lt_of_aIn h2)).2.2.1).kd (((RG_lt N _ (lt_of_aIn h2)).2.2.1).ln h3) ?_
      refine ev_run (n := 1) (u' := (0, 0)) (f' := (29, [some (.ref 1), some (.int a1), some (.int a2), some (.int a3)], [.int a1, .int (x.1 ((60 + 8 * xi a3) + 1) (xi a2))])) (h' := hp N x) rfl ?_
      rcases ite_or h with ⟨h4, h⟩ | ⟨h4, h⟩
      · refine ev_icf rfl (decide_eq_false (fun w => w h4)) ?_
        refine ev_run (n := 1) (u' := (0, 0)) (f' := (33, [some (.ref 1), some (.int a1), some (.int a2), some (.int a3)], [.int 1])) (h' := hp N x) rfl ?_
        cases h
        exact ev_iret rfl rfl rfl (Or.inr ⟨rfl, rfl⟩)
      · refine ev_ict rfl (decide_eq_true h4) ?_
        refine ev_run (n := 2) (u' := (0, 0)) (f' := (12, [some (.ref 1), some (.int a1), some (.int a2), some (.int (a3 + 1))], [])) (h' := hp N x) rfl ?_
        exact q12 a1 a2 (a3 + 1) x _ h
def gm102 (a1 : Int32) (x : Hs) : Option (Int32) := cond (aIn a1 24) (gm102_12 FU a1 (x.1 4 (xi a1)) 0 x) none
theorem em102 {N : Nat} (a1 : Int32) (x : Hs) (r : Int32) (h : gm102 a1 x = some r) : Ev 102 (0, 0) (0, aPad [.ref 1, .int a1] 4, []) (hp N x) (cvPi N x r) := by
  show Ev 102 (0, 0) (0, [some (.ref 1), some (.int a1), none, none], []) (hp N x) _
  unfold gm102 at h
  refine ev_run (n := 4) (u' := (0, 0)) (f' := (8, [some (.ref 1), some (.int a1), none, none], [.int a1, .ref 4])) (h' := hp N x) rfl ?_
  obtain ⟨h1, h⟩ := cond_some h
  refine ev_iald rfl rfl h1 ?_
  refine ev_run (n := 3) (u' := (0, 0)) (f' := (12, [some (.ref 1), some (.int a1), some (.int (x.1 4 (xi a1))), some (.int 0)], [])) (h' := hp N x) rfl ?_
  exact em102_12 FU a1 (x.1 4 (xi a1)) 0 x _ h
def gm103_12 : Nat → Int32 → Int32 → Int32 → Hs → Option (Int32)
  | 0, _, _, _, _ => none
  | n + 1, a1, a2, a3, x => if a3 ≥ 4 then (some 0) else (cond (aIn a3 4) (cond (aIn a2 5) (if x.1 ((60 + 8 * xi a3) + 2) (xi a2) = a1 then (some 1) else (gm103_12 n a1 a2 (a3 + 1) x)) none) none)
theorem em103_12 {N : Nat} : ∀ (n : Nat) (a1 : Int32) (a2 : Int32) (a3 : Int32) (x : Hs) (r : Int32), gm103_12 n a1 a2 a3 x = some r → Ev 103 (0, 0) (12, [some (.ref 1), some (.int a1), some (.int a2), some (.int a3)], []) (hp N x) (cvPi N x r)
  | 0, a1, a2, a3, x, r, h => by
    have e9 : (none : Option (Int32)) = some r := h
    cases e9
  | n + 1, a1, a2, a3, x, r, h => by
    have q12 := em103_12 (N := N) n
    rw [gm103_12] at h
    refine ev_run (n := 2) (u' := (0, 0)) (f' := (14, [some (.ref 1), some (.int a1), some (.int a2), some (.int a3)], [.int 4, .int a3])) (h' := hp N x) rfl ?_
    rcases ite_or h with ⟨h5, h⟩ | ⟨h5, h⟩
    · refine ev_ict rfl (decide_eq_true h5) ?_
      refine ev_run (n := 1) (u' := (0, 0)) (f' := (41, [none, none, none, none], [.int 0])) (h' := hp N x) rfl ?_
      cases h
      exact ev_iret rfl rfl rfl (Or.inr ⟨rfl, rfl⟩)
    · refine ev_icf rfl (decide_eq_false h5) ?_
      refine ev_run (n := 3) (u' := (0, 0)) (f' := (22, [some (.ref 1), some (.int a1), some (.int a2), some (.int a3)], [.int a3, .ref 59])) (h' := hp N x) rfl ?_
      obtain ⟨h2, h⟩ := cond_some h
      refine ev_aald rfl rfl h2 (rf_59 h2) ?_
      refine ev_gfr rfl rfl (RG_lt N _ (lt_of_aIn h2)).1 ((RG_lt N _ (lt_of_aIn h2)).fd (by decide) (by decide)) ?_
      refine ev_run (n := 1) (u' := (0, 0)) (f' := (27, [some (.ref 1), some (.int a1), some (.int a2), some (.int a3)], [.int a2, .ref ((60 + 8 * xi a3) + 2)])) (h' := hp N x) rfl ?_
      obtain ⟨h3, h⟩ := cond_some h
      refine ev_iald rfl ((RG_lt N _ (lt_of_aIn h2)).2.2.2.1).kd (((RG_lt N _ (lt_of_aIn h2)).2.2.2.1).ln h3) ?_
      refine ev_run (n := 1) (u' := (0, 0)) (f' := (29, [some (.ref 1), some (.int a1), some (.int a2), some (.int a3)], [.int a1, .int (x.1 ((60 + 8 * xi a3) + 2) (xi a2))])) (h' := hp N x) rfl ?_
      rcases ite_or h with ⟨h4, h⟩ | ⟨h4, h⟩
      · refine ev_icf rfl (decide_eq_false (fun w => w h4)) ?_
        refine ev_run (n := 1) (u' := (0, 0)) (f' := (33, [some (.ref 1), some (.int a1), some (.int a2), some (.int a3)], [.int 1])) (h' := hp N x) rfl ?_
        cases h
        exact ev_iret rfl rfl rfl (Or.inr ⟨rfl, rfl⟩)
      · refine ev_ict rfl (decide_eq_true h4) ?_
        refine ev_run (n := 2) (u' := (0, 0)) (f' := (12, [some (.ref 1), some (.int a1), some (.int a2), some (.int (a3 + 1))], [])) (h' := hp N x) rfl ?_
        exact q12 a1 a2 (a3 + 1) x _ h
def gm103 (a1 : Int32) (x : Hs) : Option (Int32) := cond (aIn a1 24) (gm103_12 FU a1 (x.1 4 (xi a1)) 0 x) none
theorem em103 {N : Nat} (a1 : Int32) (x : Hs) (r : Int32) (h : gm103 a1 x = some r) : Ev 103 (0, 0) (0, aPad [.ref 1, .int a1] 4, []) (hp N x) (cvPi N x r) := by
  show Ev 103 (0, 0) (0, [some (.ref 1), some (.int a1), none, none], []) (hp N x) _
  unfold gm103 at h
  refine ev_run (n := 4) (u' := (0, 0)) (f' := (8, [some (.ref 1), some (.int a1), none, none], [.int a1, .ref 4])) (h' := hp N x) rfl ?_
  obtain ⟨h1, h⟩ := cond_some h
  refine ev_iald rfl rfl h1 ?_
  refine ev_run (n := 3) (u' := (0, 0)) (f' := (12, [some (.ref 1), some (.int a1), some (.int (x.1 4 (xi a1))), some (.int 0)], [])) (h' := hp N x) rfl ?_
  exact em103_12 FU a1 (x.1 4 (xi a1)) 0 x _ h
def gm104_16 (x : Hs) : Option (Int32) := some 1
theorem em104_16 {N : Nat} (x : Hs) (r : Int32) (h : gm104_16 x = some r) : Ev 104 (0, 0) (16, [none, none], []) (hp N x) (cvPi N x r) := by
  unfold gm104_16 at h
  refine ev_run (n := 2) (u' := (0, 0)) (f' := (21, [none, none], [.int 1])) (h' := hp N x) rfl ?_
  cases h
  exact ev_iret rfl rfl rfl (Or.inr ⟨rfl, rfl⟩)
theorem em104_16_k1 {N : Nat} (a1 : Int32) (x : Hs) (r : Int32) (h : gm104_16 x = some r) : Ev 104 (0, 0) (16, [some (.ref 1), some (.int a1)], []) (hp N x) (cvPi N x r) := by
  unfold gm104_16 at h
  refine ev_run (n := 2) (u' := (0, 0)) (f' := (21, [none, none], [.int 1])) (h' := hp N x) rfl ?_
  cases h
  exact ev_iret rfl rfl rfl (Or.inr ⟨rfl, rfl⟩)
def gm104 (a1 : Int32) (x : Hs) : Option (Int32) := (gm102 a1 x).bind fun w1 => (if w1 = 0 then ((gm103 a1 x).bind fun w3 => (if w3 = 0 then (some 0) else (gm104_16 x))) else (gm104_16 x))
theorem em104 {N : Nat} (a1 : Int32) (x : Hs) (r : Int32) (h : gm104 a1 x = some r) : Ev 104 (0, 0) (0, aPad [.ref 1, .int a1] 2, []) (hp N x) (cvPi N x r) := by
  show Ev 104 (0, 0) (0, [some (.ref 1), some (.int a1)], []) (hp N x) _
  unfold gm104 at h
  refine ev_run (n := 2) (u' := (0, 0)) (f' := (2, [some (.ref 1), some (.int a1)], [.int a1, .ref 1])) (h' := hp N x) rfl ?_
  obtain ⟨w1, h2, h⟩ := bind_ok h
  refine ev_call (v := some (.int w1)) (h1 := hp N x) rfl rfl rfl rfl (em102 a1 x _ h2) ?_
  show Ev 104 (0, 0) (5, [some (.ref 1), some (.int a1)], [.int w1]) (hp N x) _
  rcases ite_or h with ⟨h6, h⟩ | ⟨h6, h⟩
  · refine ev_iff rfl (decide_eq_false (fun w => w h6)) ?_
    refine ev_run (n := 2) (u' := (0, 0)) (f' := (10, [some (.ref 1), some (.int a1)], [.int a1, .ref 1])) (h' := hp N x) rfl ?_
    obtain ⟨w3, h4, h⟩ := bind_ok h
    refine ev_call (v := some (.int w3)) (h1 := hp N x) rfl rfl rfl rfl (em103 a1 x _ h4) ?_
    show Ev 104 (0, 0) (13, [some (.ref 1), some (.int a1)], [.int w3]) (hp N x) _
    rcases ite_or h with ⟨h5, h⟩ | ⟨h5, h⟩
    · refine ev_ift rfl (decide_eq_true h5) ?_
      refine ev_run (n := 1) (u' := (0, 0)) (f' := (21, [none, none], [.int 0])) (h' := hp N x) rfl ?_
      cases h
      exact ev_iret rfl rfl rfl (Or.inr ⟨rfl, rfl⟩)
    · refine ev_iff rfl (decide_eq_false h5) ?_
      exact em104_16_k1 a1 x _ h
  · refine ev_ift rfl (decide_eq_true h6) ?_
    exact em104_16 x _ h
def gm62_72 (a1 : Int32) (a2 : Int32) (a3 : Int32) (a4 : Int32) (s0 : Int32) (x : Hs) : Option ((Unit ⊕ Nat) × Hs) := (gm93 s0 x).bind fun w32 => match w32 with | (.inl _, x36) => (cond (aIn a1 24) (cond (aIn a2 5) (cond (aIn a1 24) (cond (aIn a2 5) (some (.inl (), (wI (wI x36 (7 + xi a1) (xi a2) a3) (32 + xi a1) (xi a2) a4))) none) none) none) none) | (.inr k35, x36) => (cond (Nat.blt k35 3) (some (.inr k35, x36)) none)
theorem em62_72 {N : Nat} {u1 u2 : Nat} (a1 : Int32) (a2 : Int32) (a3 : Int32) (a4 : Int32) (s0 : Int32) (hu1 : u1 + 1 ≤ 4) (hu2 : u2 + 6 ≤ 24) (x : Hs) (r : (Unit ⊕ Nat) × Hs) (h : gm62_72 a1 a2 a3 a4 s0 x = some r) : Ev 62 (u1, u2) (72, [some (.ref 1), some (.int a1), some (.int a2), some (.int a3), some (.int a4)], [.int s0]) (hp N x) (cvXv N r) := by
  unfold gm62_72 at h
  obtain ⟨w32, h33, h⟩ := bind_ok h
  obtain ⟨w32, x36⟩ := w32
  cases w32 with
  | inl v34 =>
    refine ev_call (v := none) (h1 := hp N x36) rfl rfl rfl (ok_u rfl (by show u1 + 1 ≤ 4; omega) (by show u2 + 6 ≤ 24; omega)) (em93 s0 (by decide) (by decide) x _ h33) ?_
    show Ev 62 (u1 + 1, u2 + 6) (75, [some (.ref 1), some (.int a1), some (.int a2), some (.int a3), some (.int a4)], []) (hp N x36) _
    refine ev_run (n := 4) (u' := (u1 + 1, u2 + 6)) (f' := (83, [some (.ref 1), some (.int a1), some (.int a2), some (.int a3), some (.int a4)], [.int a1, .ref 6])) (h' := hp N x36) rfl ?_
    obtain ⟨h37, h⟩ := cond_some h
    refine ev_aald rfl rfl h37 (rf_6 h37) ?_
    refine ev_run (n := 2) (u' := (u1 + 1, u2 + 6)) (f' := (86, [some (.ref 1), some (.int a1), some (.int a2), some (.int a3), some (.int a4)], [.int a3, .int a2, .ref (7 + xi a1)])) (h' := hp N x36) rfl ?_
    obtain ⟨h38, h⟩ := cond_some h
    refine ev_iast rfl (LW_lt N _ (lt_of_aIn h37)).1 ((LW_lt N _ (lt_of_aIn h37)).ln h38) ?_
    show Ev 62 (u1 + 1, u2 + 6) (87, [some (.ref 1), some (.int a1), some (.int a2), some (.int a3), some (.int a4)], []) (hp N (wI x36 (7 + xi a1) (xi a2) a3)) _
    refine ev_run (n := 4) (u' := (u1 + 1, u2 + 6)) (f' := (95, [some (.ref 1), some (.int a1), some (.int a2), some (.int a3), some (.int a4)], [.int a1, .ref 31])) (h' := hp N (wI x36 (7 + xi a1) (xi a2) a3)) rfl ?_
    obtain ⟨h39, h⟩ := cond_some h
    refine ev_aald rfl rfl h39 (rf_31 h39) ?_
    refine ev_run (n := 2) (u' := (u1 + 1, u2 + 6)) (f' := (99, [some (.ref 1), some (.int a1), some (.int a2), some (.int a3), some (.int a4)], [.int a4, .int a2, .ref (32 + xi a1)])) (h' := hp N (wI x36 (7 + xi a1) (xi a2) a3)) rfl ?_
    obtain ⟨h40, h⟩ := cond_some h
    refine ev_iast rfl (HI_lt N _ (lt_of_aIn h39)).1 ((HI_lt N _ (lt_of_aIn h39)).ln h40) ?_
    show Ev 62 (u1 + 1, u2 + 6) (100, [some (.ref 1), some (.int a1), some (.int a2), some (.int a3), some (.int a4)], []) (hp N (wI (wI x36 (7 + xi a1) (xi a2) a3) (32 + xi a1) (xi a2) a4)) _
    cases h
    exact ev_vret rfl (end_u (by show _ ≤ 4; omega) (by show _ ≤ 24; omega)) rfl
  | inr k35 =>
    obtain ⟨h41, h⟩ := cond_some h
    cases h
    exact ev_callX (h1 := hp N x36) rfl rfl rfl (ok_u rfl (by show u1 + 1 ≤ 4; omega) (by show u2 + 6 ≤ 24; omega)) h41 rfl (em93 s0 (by decide) (by decide) x _ h33)
