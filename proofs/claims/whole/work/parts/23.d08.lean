/-! The methods as functions; printed by dec.py -/
def gm141_254 (a5 : Int32) (s1 : Int32) (s2 : Int32) (x : Hs) : Option (Int32 × Hs) := cond (aIn s1 5) (some (a5, (wI x 155 (xi s1) s2))) none
theorem em141_254 {N : Nat} (a5 : Int32) (s1 : Int32) (s2 : Int32) (x : Hs) (r : Int32 × Hs) (h : gm141_254 a5 s1 s2 x = some r) : Ev 141 (0, 0) (254, [none, none, none, none, none, some (.int a5), none, none], [.int s2, .int s1, .ref 155]) (hp N x) (cvMi N r) := by
  unfold gm141_254 at h
  obtain ⟨h42, h⟩ := cond_some h
  refine ev_iast rfl rfl h42 ?_
  show Ev 141 (0, 0) (255, [none, none, none, none, none, some (.int a5), none, none], []) (hp N (wI x 155 (xi s1) s2)) _
  refine ev_run (n := 1) (u' := (0, 0)) (f' := (257, [none, none, none, none, none, some (.int a5), none, none], [.int a5])) (h' := hp N (wI x 155 (xi s1) s2)) rfl ?_
  cases h
  exact ev_iret rfl rfl rfl (Or.inl rfl)
def gm141_238 (a1 : Int32) (a3 : Int32) (a5 : Int32) (s1 : Int32) (s2 : Int32) (x : Hs) : Option (Int32 × Hs) := cond (aIn s1 5) (cond (aBit s2) (if a5 ≤ 0 then (gm141_254 a5 a1 (-1) (wI x 157 (xi s1) s2)) else (gm141_254 a5 a1 a3 (wI x 157 (xi s1) s2))) none) none
theorem em141_238 {N : Nat} (a1 : Int32) (a3 : Int32) (a5 : Int32) (s1 : Int32) (s2 : Int32) (x : Hs) (r : Int32 × Hs) (h : gm141_238 a1 a3 a5 s1 s2 x = some r) : Ev 141 (0, 0) (238, [some (.ref 138), some (.int a1), none, some (.int a3), none, some (.int a5), none, none], [.int s2, .int s1, .ref 157]) (hp N x) (cvMi N r) := by
  unfold gm141_238 at h
  obtain ⟨h36, h⟩ := cond_some h
  obtain ⟨h37, h⟩ := cond_some h
  refine ev_bast rfl rfl h36 h37 ?_
  show Ev 141 (0, 0) (239, [some (.ref 138), some (.int a1), none, some (.int a3), none, some (.int a5), none, none], []) (hp N (wI x 157 (xi s1) s2)) _
  refine ev_run (n := 4) (u' := (0, 0)) (f' := (246, [some (.ref 138), some (.int a1), none, some (.int a3), none, some (.int a5), none, none], [.int a5, .int a1, .ref 155])) (h' := hp N (wI x 157 (xi s1) s2)) rfl ?_
  rcases ite_or h with ⟨h38, h⟩ | ⟨h38, h⟩
  · refine ev_ift rfl (decide_eq_true h38) ?_
    refine ev_run (n := 1) (u' := (0, 0)) (f' := (254, [none, none, none, none, none, some (.int a5), none, none], [.int (-1), .int a1, .ref 155])) (h' := hp N (wI x 157 (xi s1) s2)) rfl ?_
    exact em141_254 a5 a1 (-1) (wI x 157 (xi s1) s2) _ h
  · refine ev_iff rfl (decide_eq_false h38) ?_
    refine ev_run (n := 2) (u' := (0, 0)) (f' := (254, [none, none, none, none, none, some (.int a5), none, none], [.int a3, .int a1, .ref 155])) (h' := hp N (wI x 157 (xi s1) s2)) rfl ?_
    exact em141_254 a5 a1 a3 (wI x 157 (xi s1) s2) _ h
def gm141_215 (a1 : Int32) (a3 : Int32) (a5 : Int32) (x : Hs) : Option (Int32 × Hs) := cond (aIn a1 5) (if a5 ≤ 0 then (gm141_238 a1 a3 a5 a1 0 (wI x 156 (xi a1) a5)) else (gm141_238 a1 a3 a5 a1 1 (wI x 156 (xi a1) a5))) none
theorem em141_215 {N : Nat} (a1 : Int32) (a3 : Int32) (a5 : Int32) (x : Hs) (r : Int32 × Hs) (h : gm141_215 a1 a3 a5 x = some r) : Ev 141 (0, 0) (215, [some (.ref 138), some (.int a1), none, some (.int a3), none, some (.int a5), none, none], []) (hp N x) (cvMi N r) := by
  unfold gm141_215 at h
  refine ev_run (n := 4) (u' := (0, 0)) (f' := (222, [some (.ref 138), some (.int a1), none, some (.int a3), none, some (.int a5), none, none], [.int a5, .int a1, .ref 156])) (h' := hp N x) rfl ?_
  obtain ⟨h26, h⟩ := cond_some h
  refine ev_iast rfl rfl h26 ?_
  show Ev 141 (0, 0) (223, [some (.ref 138), some (.int a1), none, some (.int a3), none, some (.int a5), none, none], []) (hp N (wI x 156 (xi a1) a5)) _
  refine ev_run (n := 4) (u' := (0, 0)) (f' := (230, [some (.ref 138), some (.int a1), none, some (.int a3), none, some (.int a5), none, none], [.int a5, .int a1, .ref 157])) (h' := hp N (wI x 156 (xi a1) a5)) rfl ?_
  rcases ite_or h with ⟨h27, h⟩ | ⟨h27, h⟩
  · refine ev_ift rfl (decide_eq_true h27) ?_
    refine ev_run (n := 1) (u' := (0, 0)) (f' := (238, [some (.ref 138), some (.int a1), none, some (.int a3), none, some (.int a5), none, none], [.int 0, .int a1, .ref 157])) (h' := hp N (wI x 156 (xi a1) a5)) rfl ?_
    exact em141_238 a1 a3 a5 a1 0 (wI x 156 (xi a1) a5) _ h
  · refine ev_iff rfl (decide_eq_false h27) ?_
    refine ev_run (n := 2) (u' := (0, 0)) (f' := (238, [some (.ref 138), some (.int a1), none, some (.int a3), none, some (.int a5), none, none], [.int 1, .int a1, .ref 157])) (h' := hp N (wI x 156 (xi a1) a5)) rfl ?_
    exact em141_238 a1 a3 a5 a1 1 (wI x 156 (xi a1) a5) _ h
def gm141_108 : Nat → Int32 → Int32 → Int32 → Int32 → Hs → Option (Int32 × Hs)
  | 0, _, _, _, _, _ => none
  | n + 1, a1, a3, a4, a5, x => if a5 ≤ 0 then (gm141_215 a1 a3 a5 x) else (if a4 = 0 then (gm141_215 a1 a3 a5 x) else (cond (aIn ((5 * (a5 - 1)) + a1) 20) (if x.1 149 (xi ((5 * (a5 - 1)) + a1)) = (-1) then (gm141_162 (gm141_108 n) a1 a3 a5 ((5 * (a5 - 1)) + a1) (x.1 149 (xi ((5 * (a5 - 1)) + a1))) x) else (cond (aIn (x.1 149 (xi ((5 * (a5 - 1)) + a1))) 24) (if x.1 145 (xi (x.1 149 (xi ((5 * (a5 - 1)) + a1)))) = 0 then ((gm130 (x.1 149 (xi ((5 * (a5 - 1)) + a1))) x).bind fun w19 => (if w19 = 0 then (gm141_184 (gm141_108 n) a1 a3 a5 ((5 * (a5 - 1)) + a1) (x.1 149 (xi ((5 * (a5 - 1)) + a1))) x) else (gm141_162 (gm141_108 n) a1 a3 a5 ((5 * (a5 - 1)) + a1) (x.1 149 (xi ((5 * (a5 - 1)) + a1))) x))) else (gm141_184 (gm141_108 n) a1 a3 a5 ((5 * (a5 - 1)) + a1) (x.1 149 (xi ((5 * (a5 - 1)) + a1))) x)) none)) none))
theorem em141_108 {N : Nat} : ∀ (n : Nat) (a1 : Int32) (a3 : Int32) (a4 : Int32) (a5 : Int32) (x : Hs) (r : Int32 × Hs), gm141_108 n a1 a3 a4 a5 x = some r → Ev 141 (0, 0) (108, [some (.ref 138), some (.int a1), none, some (.int a3), some (.int a4), some (.int a5), none, none], []) (hp N x) (cvMi N r)
  | 0, a1, a3, a4, a5, x, r, h => by
    have e9 : (none : Option (Int32 × Hs)) = some r := h
    cases e9
  | n + 1, a1, a3, a4, a5, x, r, h => by
    have q108 := em141_108 (N := N) n
    rw [gm141_108] at h
    refine ev_run (n := 1) (u' := (0, 0)) (f' := (110, [some (.ref 138), some (.int a1), none, some (.int a3), some (.int a4), some (.int a5), none, none], [.int a5])) (h' := hp N x) rfl ?_
    rcases ite_or h with ⟨h25, h⟩ | ⟨h25, h⟩
    · refine ev_ift rfl (decide_eq_true h25) ?_
      exact em141_215 a1 a3 a5 x _ h
    · refine ev_iff rfl (decide_eq_false h25) ?_
      refine ev_run (n := 1) (u' := (0, 0)) (f' := (115, [some (.ref 138), some (.int a1), none, some (.int a3), some (.int a4), some (.int a5), none, none], [.int a4])) (h' := hp N x) rfl ?_
      rcases ite_or h with ⟨h24, h⟩ | ⟨h24, h⟩
      · refine ev_ift rfl (decide_eq_true h24) ?_
        exact em141_215 a1 a3 a5 x _ h
      · refine ev_iff rfl (decide_eq_false h24) ?_
        refine ev_run (n := 11) (u' := (0, 0)) (f' := (134, [some (.ref 138), some (.int a1), none, some (.int a3), some (.int a4), some (.int a5), some (.int ((5 * (a5 - 1)) + a1)), none], [.int ((5 * (a5 - 1)) + a1), .ref 149])) (h' := hp N x) rfl ?_
        obtain ⟨h17, h⟩ := cond_some h
        refine ev_iald rfl rfl h17 ?_
        refine ev_run (n := 3) (u' := (0, 0)) (f' := (140, [some (.ref 138), some (.int a1), none, some (.int a3), some (.int a4), some (.int a5), some (.int ((5 * (a5 - 1)) + a1)), some (.int (x.1 149 (xi ((5 * (a5 - 1)) + a1))))], [.int (-1), .int (x.1 149 (xi ((5 * (a5 - 1)) + a1)))])) (h' := hp N x) rfl ?_
        rcases ite_or h with ⟨h23, h⟩ | ⟨h23, h⟩
        · refine ev_ict rfl (decide_eq_true h23) ?_
          exact em141_162 (gm141_108 n) q108 a1 a3 a5 ((5 * (a5 - 1)) + a1) (x.1 149 (xi ((5 * (a5 - 1)) + a1))) x _ h
        · refine ev_icf rfl (decide_eq_false h23) ?_
          refine ev_run (n := 3) (u' := (0, 0)) (f' := (149, [some (.ref 138), some (.int a1), none, some (.int a3), some (.int a4), some (.int a5), some (.int ((5 * (a5 - 1)) + a1)), some (.int (x.1 149 (xi ((5 * (a5 - 1)) + a1))))], [.int (x.1 149 (xi ((5 * (a5 - 1)) + a1))), .ref 145])) (h' := hp N x) rfl ?_
          obtain ⟨h18, h⟩ := cond_some h
          refine ev_bald rfl rfl h18 ?_
          rcases ite_or h with ⟨h22, h⟩ | ⟨h22, h⟩
          · refine ev_iff rfl (decide_eq_false (fun w => w h22)) ?_
            refine ev_run (n := 2) (u' := (0, 0)) (f' := (156, [some (.ref 138), some (.int a1), none, some (.int a3), some (.int a4), some (.int a5), some (.int ((5 * (a5 - 1)) + a1)), some (.int (x.1 149 (xi ((5 * (a5 - 1)) + a1))))], [.int (x.1 149 (xi ((5 * (a5 - 1)) + a1))), .ref 138])) (h' := hp N x) rfl ?_
            obtain ⟨w19, h20, h⟩ := bind_ok h
            refine ev_call (v := some (.int w19)) (h1 := hp N x) rfl rfl rfl rfl (em130 (x.1 149 (xi ((5 * (a5 - 1)) + a1))) x _ h20) ?_
            show Ev 141 (0, 0) (159, [some (.ref 138), some (.int a1), none, some (.int a3), some (.int a4), some (.int a5), some (.int ((5 * (a5 - 1)) + a1)), some (.int (x.1 149 (xi ((5 * (a5 - 1)) + a1))))], [.int w19]) (hp N x) _
            rcases ite_or h with ⟨h21, h⟩ | ⟨h21, h⟩
            · refine ev_ift rfl (decide_eq_true h21) ?_
              exact em141_184 (gm141_108 n) q108 a1 a3 a5 ((5 * (a5 - 1)) + a1) (x.1 149 (xi ((5 * (a5 - 1)) + a1))) x _ h
            · refine ev_iff rfl (decide_eq_false h21) ?_
              exact em141_162_k1 (gm141_108 n) q108 a1 a3 a4 a5 ((5 * (a5 - 1)) + a1) (x.1 149 (xi ((5 * (a5 - 1)) + a1))) x _ h
          · refine ev_ift rfl (decide_eq_true h22) ?_
            exact em141_184 (gm141_108 n) q108 a1 a3 a5 ((5 * (a5 - 1)) + a1) (x.1 149 (xi ((5 * (a5 - 1)) + a1))) x _ h
def gm141_97 (a1 : Int32) (a3 : Int32) (x : Hs) : Option (Int32 × Hs) := cond (aIn a1 5) (gm141_108 FU a1 a3 1 (x.1 156 (xi a1)) x) none
theorem em141_97 {N : Nat} (a1 : Int32) (a3 : Int32) (x : Hs) (r : Int32 × Hs) (h : gm141_97 a1 a3 x = some r) : Ev 141 (0, 0) (97, [some (.ref 138), some (.int a1), none, some (.int a3), none, none, none, none], []) (hp N x) (cvMi N r) := by
  unfold gm141_97 at h
  refine ev_run (n := 5) (u' := (0, 0)) (f' := (105, [some (.ref 138), some (.int a1), none, some (.int a3), some (.int 1), none, none, none], [.int a1, .ref 156])) (h' := hp N x) rfl ?_
  obtain ⟨h14, h⟩ := cond_some h
  refine ev_iald rfl rfl h14 ?_
  refine ev_run (n := 1) (u' := (0, 0)) (f' := (108, [some (.ref 138), some (.int a1), none, some (.int a3), some (.int 1), some (.int (x.1 156 (xi a1))), none, none], [])) (h' := hp N x) rfl ?_
  exact em141_108 FU a1 a3 1 (x.1 156 (xi a1)) x _ h
def gm141_48 : Nat → Int32 → Int32 → Int32 → Hs → Option (Int32 × Hs)
  | 0, _, _, _, _ => none
  | n + 1, a1, a3, a4, x => if a4 ≥ 4 then (gm141_97 a1 a3 x) else (cond (aIn ((5 * a4) + a1) 20) (if x.1 148 (xi ((5 * a4) + a1)) = a3 then (gm141_90 (gm141_48 n) a1 a3 a4 ((5 * a4) + a1) (-1) x) else (cond (aIn ((5 * a4) + a1) 20) (gm141_90 (gm141_48 n) a1 a3 a4 ((5 * a4) + a1) (x.1 148 (xi ((5 * a4) + a1))) x) none)) none)
theorem em141_48 {N : Nat} : ∀ (n : Nat) (a1 : Int32) (a3 : Int32) (a4 : Int32) (x : Hs) (r : Int32 × Hs), gm141_48 n a1 a3 a4 x = some r → Ev 141 (0, 0) (48, [some (.ref 138), some (.int a1), none, some (.int a3), some (.int a4), none, none, none], []) (hp N x) (cvMi N r)
  | 0, a1, a3, a4, x, r, h => by
    have e9 : (none : Option (Int32 × Hs)) = some r := h
    cases e9
  | n + 1, a1, a3, a4, x, r, h => by
    have q48 := em141_48 (N := N) n
    rw [gm141_48] at h
    refine ev_run (n := 2) (u' := (0, 0)) (f' := (51, [some (.ref 138), some (.int a1), none, some (.int a3), some (.int a4), none, none, none], [.int 4, .int a4])) (h' := hp N x) rfl ?_
    rcases ite_or h with ⟨h13, h⟩ | ⟨h13, h⟩
    · refine ev_ict rfl (decide_eq_true h13) ?_
      exact em141_97 a1 a3 x _ h
    · refine ev_icf rfl (decide_eq_false h13) ?_
      refine ev_run (n := 12) (u' := (0, 0)) (f' := (74, [some (.ref 138), some (.int a1), none, some (.int a3), some (.int a4), some (.int ((5 * a4) + a1)), none, none], [.int ((5 * a4) + a1), .ref 148, .int ((5 * a4) + a1), .ref 148])) (h' := hp N x) rfl ?_
      obtain ⟨h10, h⟩ := cond_some h
      refine ev_iald rfl rfl h10 ?_
      refine ev_run (n := 1) (u' := (0, 0)) (f' := (76, [some (.ref 138), some (.int a1), none, some (.int a3), some (.int a4), some (.int ((5 * a4) + a1)), none, none], [.int a3, .int (x.1 148 (xi ((5 * a4) + a1))), .int ((5 * a4) + a1), .ref 148])) (h' := hp N x) rfl ?_
      rcases ite_or h with ⟨h12, h⟩ | ⟨h12, h⟩
      · refine ev_icf rfl (decide_eq_false (fun w => w h12)) ?_
        refine ev_run (n := 2) (u' := (0, 0)) (f' := (90, [some (.ref 138), some (.int a1), none, some (.int a3), some (.int a4), none, none, none], [.int (-1), .int ((5 * a4) + a1), .ref 148])) (h' := hp N x) rfl ?_
        exact em141_90_k1 (gm141_48 n) q48 a1 a3 a4 ((5 * a4) + a1) (-1) x _ h
      · refine ev_ict rfl (decide_eq_true h12) ?_
        refine ev_run (n := 3) (u' := (0, 0)) (f' := (89, [some (.ref 138), some (.int a1), none, some (.int a3), some (.int a4), some (.int ((5 * a4) + a1)), none, none], [.int ((5 * a4) + a1), .ref 148, .int ((5 * a4) + a1), .ref 148])) (h' := hp N x) rfl ?_
        obtain ⟨h11, h⟩ := cond_some h
        refine ev_iald rfl rfl h11 ?_
        exact em141_90 (gm141_48 n) q48 a1 a3 a4 ((5 * a4) + a1) ((5 * a4) + a1) (x.1 148 (xi ((5 * a4) + a1))) x _ h
def gm141_30 (a1 : Int32) (s1 : Int32) (x : Hs) : Option (Int32 × Hs) := (gm113 s1 x).bind fun w6 => (if w6.1 = 0 then (cond (aIn a1 5) (gm141_48 FU a1 (w6.2.1 155 (xi a1)) 0 w6.2) none) else (some (0, w6.2)))
theorem em141_30 {N : Nat} (a1 : Int32) (s1 : Int32) (x : Hs) (r : Int32 × Hs) (h : gm141_30 a1 s1 x = some r) : Ev 141 (0, 0) (30, [some (.ref 138), some (.int a1), none, none, none, none, none, none], [.int s1, .ref 138]) (hp N x) (cvMi N r) := by
  unfold gm141_30 at h
  obtain ⟨w6, h7, h⟩ := bind_ok h
  refine ev_call (v := some (.int w6.1)) (h1 := hp N w6.2) rfl rfl rfl rfl (em113 s1 x _ h7) ?_
  show Ev 141 (0, 0) (33, [some (.ref 138), some (.int a1), none, none, none, none, none, none], [.int w6.1]) (hp N w6.2) _
  rcases ite_or h with ⟨h9, h⟩ | ⟨h9, h⟩
  · refine ev_ift rfl (decide_eq_true h9) ?_
    refine ev_run (n := 3) (u' := (0, 0)) (f' := (43, [some (.ref 138), some (.int a1), none, none, none, none, none, none], [.int a1, .ref 155])) (h' := hp N w6.2) rfl ?_
    obtain ⟨h8, h⟩ := cond_some h
    refine ev_iald rfl rfl h8 ?_
    refine ev_run (n := 3) (u' := (0, 0)) (f' := (48, [some (.ref 138), some (.int a1), none, some (.int (w6.2.1 155 (xi a1))), some (.int 0), none, none, none], [])) (h' := hp N w6.2) rfl ?_
    exact em141_48 FU a1 (w6.2.1 155 (xi a1)) 0 w6.2 _ h
  · refine ev_iff rfl (decide_eq_false h9) ?_
    refine ev_run (n := 1) (u' := (0, 0)) (f' := (37, [some (.ref 138), some (.int a1), none, none, none, none, none, none], [.int 0])) (h' := hp N w6.2) rfl ?_
    cases h
    exact ev_iret rfl rfl rfl (Or.inl rfl)
def gm141 (a1 : Int32) (x : Hs) : Option (Int32 × Hs) := (gm117 a1 x).bind fun w1 => (if w1 = 0 then (gm141_30 a1 1 x) else (cond (aIn a1 5) (if x.1 155 (xi a1) = (-1) then (gm141_30 a1 2 x) else (gm141_30 a1 0 x)) none))
theorem em141 {N : Nat} (a1 : Int32) (x : Hs) (r : Int32 × Hs) (h : gm141 a1 x = some r) : Ev 141 (0, 0) (0, aPad [.ref 138, .int a1] 8, []) (hp N x) (cvMi N r) := by
  show Ev 141 (0, 0) (0, [some (.ref 138), some (.int a1), none, none, none, none, none, none], []) (hp N x) _
  unfold gm141 at h
  refine ev_run (n := 2) (u' := (0, 0)) (f' := (2, [some (.ref 138), some (.int a1), none, none, none, none, none, none], [.int a1, .ref 138])) (h' := hp N x) rfl ?_
  obtain ⟨w1, h2, h⟩ := bind_ok h
  refine ev_call (v := some (.int w1)) (h1 := hp N x) rfl rfl rfl rfl (em117 a1 x _ h2) ?_
  show Ev 141 (0, 0) (5, [some (.ref 138), some (.int a1), none, none, none, none, none, none], [.int w1]) (hp N x) _
  refine ev_run (n := 3) (u' := (0, 0)) (f' := (8, [some (.ref 138), some (.int a1), some (.int w1), none, none, none, none, none], [.int w1, .ref 138])) (h' := hp N x) rfl ?_
  rcases ite_or h with ⟨h5, h⟩ | ⟨h5, h⟩
  · refine ev_iff rfl (decide_eq_false (fun w => w h5)) ?_
    refine ev_run (n := 2) (u' := (0, 0)) (f' := (30, [some (.ref 138), some (.int a1), none, none, none, none, none, none], [.int 1, .ref 138])) (h' := hp N x) rfl ?_
    exact em141_30 a1 1 x _ h
  · refine ev_ift rfl (decide_eq_true h5) ?_
    refine ev_run (n := 3) (u' := (0, 0)) (f' := (20, [some (.ref 138), some (.int a1), none, none, none, none, none, none], [.int a1, .ref 155, .ref 138])) (h' := hp N x) rfl ?_
    obtain ⟨h3, h⟩ := cond_some h
    refine ev_iald rfl rfl h3 ?_
    refine ev_run (n := 1) (u' := (0, 0)) (f' := (22, [some (.ref 138), some (.int a1), none, none, none, none, none, none], [.int (-1), .int (x.1 155 (xi a1)), .ref 138])) (h' := hp N x) rfl ?_
    rcases ite_or h with ⟨h4, h⟩ | ⟨h4, h⟩
    · refine ev_icf rfl (decide_eq_false (fun w => w h4)) ?_
      refine ev_run (n := 2) (u' := (0, 0)) (f' := (30, [some (.ref 138), some (.int a1), none, none, none, none, none, none], [.int 2, .ref 138])) (h' := hp N x) rfl ?_
      exact em141_30 a1 2 x _ h
    · refine ev_ict rfl (decide_eq_true h4) ?_
      refine ev_run (n := 1) (u' := (0, 0)) (f' := (30, [some (.ref 138), some (.int a1), none, none, none, none, none, none], [.int 0, .ref 138])) (h' := hp N x) rfl ?_
      exact em141_30 a1 0 x _ h
def gm142_161 (a1 : Int32) (a3 : Int32) (a4 : Int32) (a5 : Int32) (a8 : Int32) (x : Hs) : Option (Int32 × Hs) := cond (aIn a1 5) (cond (aIn a1 5) (cond (aIn a1 5) (cond (aIn a1 5) (if a3 = 0 then (cond (aIn a8 20) (cond (aIn a8 20) (cond (aIn a8 20) (cond (aIn a8 20) (cond (aIn a8 20) (some ((wI (wI (wI (wI x 161 (xi a1) (x.1 161 (xi a1) + (a4 + a5))) 162 (xi a1) ((wI x 161 (xi a1) (x.1 161 (xi a1) + (a4 + a5))).1 162 (xi a1) + a5)) 153 (xi a8) ((wI (wI x 161 (xi a1) (x.1 161 (xi a1) + (a4 + a5))) 162 (xi a1) ((wI x 161 (xi a1) (x.1 161 (xi a1) + (a4 + a5))).1 162 (xi a1) + a5)).1 153 (xi a8) + (a4 + a5))) 154 (xi a8) ((wI (wI (wI x 161 (xi a1) (x.1 161 (xi a1) + (a4 + a5))) 162 (xi a1) ((wI x 161 (xi a1) (x.1 161 (xi a1) + (a4 + a5))).1 162 (xi a1) + a5)) 153 (xi a8) ((wI (wI x 161 (xi a1) (x.1 161 (xi a1) + (a4 + a5))) 162 (xi a1) ((wI x 161 (xi a1) (x.1 161 (xi a1) + (a4 + a5))).1 162 (xi a1) + a5)).1 153 (xi a8) + (a4 + a5))).1 154 (xi a8) + a5)).1 153 (xi a8), (wI (wI (wI (wI x 161 (xi a1) (x.1 161 (xi a1) + (a4 + a5))) 162 (xi a1) ((wI x 161 (xi a1) (x.1 161 (xi a1) + (a4 + a5))).1 162 (xi a1) + a5)) 153 (xi a8) ((wI (wI x 161 (xi a1) (x.1 161 (xi a1) + (a4 + a5))) 162 (xi a1) ((wI x 161 (xi a1) (x.1 161 (xi a1) + (a4 + a5))).1 162 (xi a1) + a5)).1 153 (xi a8) + (a4 + a5))) 154 (xi a8) ((wI (wI (wI x 161 (xi a1) (x.1 161 (xi a1) + (a4 + a5))) 162 (xi a1) ((wI x 161 (xi a1) (x.1 161 (xi a1) + (a4 + a5))).1 162 (xi a1) + a5)) 153 (xi a8) ((wI (wI x 161 (xi a1) (x.1 161 (xi a1) + (a4 + a5))) 162 (xi a1) ((wI x 161 (xi a1) (x.1 161 (xi a1) + (a4 + a5))).1 162 (xi a1) + a5)).1 153 (xi a8) + (a4 + a5))).1 154 (xi a8) + a5)))) none) none) none) none) none) else (cond (aIn a8 20) (cond (aIn a8 20) (cond (aIn a8 20) (cond (aIn a8 20) (cond (aIn a8 20) (some ((wI (wI (wI (wI x 161 (xi a1) (x.1 161 (xi a1) + (a4 + a5))) 162 (xi a1) ((wI x 161 (xi a1) (x.1 161 (xi a1) + (a4 + a5))).1 162 (xi a1) + a5)) 151 (xi a8) ((wI (wI x 161 (xi a1) (x.1 161 (xi a1) + (a4 + a5))) 162 (xi a1) ((wI x 161 (xi a1) (x.1 161 (xi a1) + (a4 + a5))).1 162 (xi a1) + a5)).1 151 (xi a8) + (a4 + a5))) 152 (xi a8) ((wI (wI (wI x 161 (xi a1) (x.1 161 (xi a1) + (a4 + a5))) 162 (xi a1) ((wI x 161 (xi a1) (x.1 161 (xi a1) + (a4 + a5))).1 162 (xi a1) + a5)) 151 (xi a8) ((wI (wI x 161 (xi a1) (x.1 161 (xi a1) + (a4 + a5))) 162 (xi a1) ((wI x 161 (xi a1) (x.1 161 (xi a1) + (a4 + a5))).1 162 (xi a1) + a5)).1 151 (xi a8) + (a4 + a5))).1 152 (xi a8) + a5)).1 151 (xi a8), (wI (wI (wI (wI x 161 (xi a1) (x.1 161 (xi a1) + (a4 + a5))) 162 (xi a1) ((wI x 161 (xi a1) (x.1 161 (xi a1) + (a4 + a5))).1 162 (xi a1) + a5)) 151 (xi a8) ((wI (wI x 161 (xi a1) (x.1 161 (xi a1) + (a4 + a5))) 162 (xi a1) ((wI x 161 (xi a1) (x.1 161 (xi a1) + (a4 + a5))).1 162 (xi a1) + a5)).1 151 (xi a8) + (a4 + a5))) 152 (xi a8) ((wI (wI (wI x 161 (xi a1) (x.1 161 (xi a1) + (a4 + a5))) 162 (xi a1) ((wI x 161 (xi a1) (x.1 161 (xi a1) + (a4 + a5))).1 162 (xi a1) + a5)) 151 (xi a8) ((wI (wI x 161 (xi a1) (x.1 161 (xi a1) + (a4 + a5))) 162 (xi a1) ((wI x 161 (xi a1) (x.1 161 (xi a1) + (a4 + a5))).1 162 (xi a1) + a5)).1 151 (xi a8) + (a4 + a5))).1 152 (xi a8) + a5)))) none) none) none) none) none)) none) none) none) none
theorem em142_161 {N : Nat} (a1 : Int32) (a3 : Int32) (a4 : Int32) (a5 : Int32) (a8 : Int32) (x : Hs) (r : Int32 × Hs) (h : gm142_161 a1 a3 a4 a5 a8 x = some r) : Ev 142 (0, 0) (161, [some (.ref 138), some (.int a1), none, some (.int a3), some (.int a4), some (.int a5), none, none, some (.int a8)], []) (hp N x) (cvMi N r) := by
  unfold gm142_161 at h
  refine ev_run (n := 4) (u' := (0, 0)) (f' := (167, [some (.ref 138), some (.int a1), none, some (.int a3), some (.int a4), some (.int a5), none, none, some (.int a8)], [.int a1, .ref 161, .int a1, .ref 161])) (h' := hp N x) rfl ?_
  obtain ⟨h29, h⟩ := cond_some h
  refine ev_iald rfl rfl h29 ?_
  refine ev_run (n := 4) (u' := (0, 0)) (f' := (174, [some (.ref 138), some (.int a1), none, some (.int a3), some (.int a4), some (.int a5), none, none, some (.int a8)], [.int (x.1 161 (xi a1) + (a4 + a5)), .int a1, .ref 161])) (h' := hp N x) rfl ?_
  obtain ⟨h30, h⟩ := cond_some h
  refine ev_iast rfl rfl h30 ?_
  show Ev 142 (0, 0) (175, [some (.ref 138), some (.int a1), none, some (.int a3), some (.int a4), some (.int a5), none, none, some (.int a8)], []) (hp N (wI x 161 (xi a1) (x.1 161 (xi a1) + (a4 + a5)))) _
  refine ev_run (n := 4) (u' := (0, 0)) (f' := (181, [some (.ref 138), some (.int a1), none, some (.int a3), some (.int a4), some (.int a5), none, none, some (.int a8)], [.int a1, .ref 162, .int a1, .ref 162])) (h' := hp N (wI x 161 (xi a1) (x.1 161 (xi a1) + (a4 + a5)))) rfl ?_
  obtain ⟨h31, h⟩ := cond_some h
  refine ev_iald rfl rfl h31 ?_
  refine ev_run (n := 2) (u' := (0, 0)) (f' := (185, [some (.ref 138), some (.int a1), none, some (.int a3), some (.int a4), some (.int a5), none, none, some (.int a8)], [.int ((wI x 161 (xi a1) (x.1 161 (xi a1) + (a4 + a5))).1 162 (xi a1) + a5), .int a1, .ref 162])) (h' := hp N (wI x 161 (xi a1) (x.1 161 (xi a1) + (a4 + a5)))) rfl ?_
  obtain ⟨h32, h⟩ := cond_some h
  refine ev_iast rfl rfl h32 ?_
  show Ev 142 (0, 0) (186, [some (.ref 138), some (.int a1), none, some (.int a3), some (.int a4), some (.int a5), none, none, some (.int a8)], []) (hp N (wI (wI x 161 (xi a1) (x.1 161 (xi a1) + (a4 + a5))) 162 (xi a1) ((wI x 161 (xi a1) (x.1 161 (xi a1) + (a4 + a5))).1 162 (xi a1) + a5))) _
  refine ev_run (n := 1) (u' := (0, 0)) (f' := (187, [some (.ref 138), some (.int a1), none, some (.int a3), some (.int a4), some (.int a5), none, none, some (.int a8)], [.int a3])) (h' := hp N (wI (wI x 161 (xi a1) (x.1 161 (xi a1) + (a4 + a5))) 162 (xi a1) ((wI x 161 (xi a1) (x.1 161 (xi a1) + (a4 + a5))).1 162 (xi a1) + a5))) rfl ?_
  rcases ite_or h with ⟨h43, h⟩ | ⟨h43, h⟩
  · refine ev_ift rfl (decide_eq_true h43) ?_
    refine ev_run (n := 4) (u' := (0, 0)) (f' := (232, [some (.ref 138), none, none, none, some (.int a4), some (.int a5), none, none, some (.int a8)], [.int a8, .ref 153, .int a8, .ref 153])) (h' := hp N (wI (wI x 161 (xi a1) (x.1 161 (xi a1) + (a4 + a5))) 162 (xi a1) ((wI x 161 (xi a1) (x.1 161 (xi a1) + (a4 + a5))).1 162 (xi a1) + a5))) rfl ?_
    obtain ⟨h33, h⟩ := cond_some h
    refine ev_iald rfl rfl h33 ?_
    refine ev_run (n := 4) (u' := (0, 0)) (f' := (239, [some (.ref 138), none, none, none, some (.int a4), some (.int a5), none, none, some (.int a8)], [.int ((wI (wI x 161 (xi a1) (x.1 161 (xi a1) + (a4 + a5))) 162 (xi a1) ((wI x 161 (xi a1) (x.1 161 (xi a1) + (a4 + a5))).1 162 (xi a1) + a5)).1 153 (xi a8) + (a4 + a5)), .int a8, .ref 153])) (h' := hp N (wI (wI x 161 (xi a1) (x.1 161 (xi a1) + (a4 + a5))) 162 (xi a1) ((wI x 161 (xi a1) (x.1 161 (xi a1) + (a4 + a5))).1 162 (xi a1) + a5))) rfl ?_
    obtain ⟨h34, h⟩ := cond_some h
    refine ev_iast rfl rfl h34 ?_
    show Ev 142 (0, 0) (240, [some (.ref 138), none, none, none, some (.int a4), some (.int a5), none, none, some (.int a8)], []) (hp N (wI (wI (wI x 161 (xi a1) (x.1 161 (xi a1) + (a4 + a5))) 162 (xi a1) ((wI x 161 (xi a1) (x.1 161 (xi a1) + (a4 + a5))).1 162 (xi a1) + a5)) 153 (xi a8) ((wI (wI x 161 (xi a1) (x.1 161 (xi a1) + (a4 + a5))) 162 (xi a1) ((wI x 161 (xi a1) (x.1 161 (xi a1) + (a4 + a5))).1 162 (xi a1) + a5)).1 153 (xi a8) + (a4 + a5)))) _
    refine ev_run (n := 4) (u' := (0, 0)) (f' := (247, [some (.ref 138), none, none, none, some (.int a4), some (.int a5), none, none, some (.int a8)], [.int a8, .ref 154, .int a8, .ref 154])) (h' := hp N (wI (wI (wI x 161 (xi a1) (x.1 161 (xi a1) + (a4 + a5))) 162 (xi a1) ((wI x 161 (xi a1) (x.1 161 (xi a1) + (a4 + a5))).1 162 (xi a1) + a5)) 153 (xi a8) ((wI (wI x 161 (xi a1) (x.1 161 (xi a1) + (a4 + a5))) 162 (xi a1) ((wI x 161 (xi a1) (x.1 161 (xi a1) + (a4 + a5))).1 162 (xi a1) + a5)).1 153 (xi a8) + (a4 + a5)))) rfl ?_
    obtain ⟨h35, h⟩ := cond_some h
    refine ev_iald rfl rfl h35 ?_
    refine ev_run (n := 2) (u' := (0, 0)) (f' := (251, [some (.ref 138), none, none, none, some (.int a4), some (.int a5), none, none, some (.int a8)], [.int ((wI (wI (wI x 161 (xi a1) (x.1 161 (xi a1) + (a4 + a5))) 162 (xi a1) ((wI x 161 (xi a1) (x.1 161 (xi a1) + (a4 + a5))).1 162 (xi a1) + a5)) 153 (xi a8) ((wI (wI x 161 (xi a1) (x.1 161 (xi a1) + (a4 + a5))) 162 (xi a1) ((wI x 161 (xi a1) (x.1 161 (xi a1) + (a4 + a5))).1 162 (xi a1) + a5)).1 153 (xi a8) + (a4 + a5))).1 154 (xi a8) + a5), .int a8, .ref 154])) (h' := hp N (wI (wI (wI x 161 (xi a1) (x.1 161 (xi a1) + (a4 + a5))) 162 (xi a1) ((wI x 161 (xi a1) (x.1 161 (xi a1) + (a4 + a5))).1 162 (xi a1) + a5)) 153 (xi a8) ((wI (wI x 161 (xi a1) (x.1 161 (xi a1) + (a4 + a5))) 162 (xi a1) ((wI x 161 (xi a1) (x.1 161 (xi a1) + (a4 + a5))).1 162 (xi a1) + a5)).1 153 (xi a8) + (a4 + a5)))) rfl ?_
    obtain ⟨h36, h⟩ := cond_some h
    refine ev_iast rfl rfl h36 ?_
    show Ev 142 (0, 0) (252, [some (.ref 138), none, none, none, some (.int a4), some (.int a5), none, none, some (.int a8)], []) (hp N (wI (wI (wI (wI x 161 (xi a1) (x.1 161 (xi a1) + (a4 + a5))) 162 (xi a1) ((wI x 161 (xi a1) (x.1 161 (xi a1) + (a4 + a5))).1 162 (xi a1) + a5)) 153 (xi a8) ((wI (wI x 161 (xi a1) (x.1 161 (xi a1) + (a4 + a5))) 162 (xi a1) ((wI x 161 (xi a1) (x.1 161 (xi a1) + (a4 + a5))).1 162 (xi a1) + a5)).1 153 (xi a8) + (a4 + a5))) 154 (xi a8) ((wI (wI (wI x 161 (xi a1) (x.1 161 (xi a1) + (a4 + a5))) 162 (xi a1) ((wI x 161 (xi a1) (x.1 161 (xi a1) + (a4 + a5))).1 162 (xi a1) + a5)) 153 (xi a8) ((wI (wI x 161 (xi a1) (x.1 161 (xi a1) + (a4 + a5))) 162 (xi a1) ((wI x 161 (xi a1) (x.1 161 (xi a1) + (a4 + a5))).1 162 (xi a1) + a5)).1 153 (xi a8) + (a4 + a5))).1 154 (xi a8) + a5))) _
    refine ev_run (n := 3) (u' := (0, 0)) (f' := (258, [some (.ref 138), none, none, none, some (.int a4), some (.int a5), none, none, some (.int a8)], [.int a8, .ref 153])) (h' := hp N (wI (wI (wI (wI x 161 (xi a1) (x.1 161 (xi a1) + (a4 + a5))) 162 (xi a1) ((wI x 161 (xi a1) (x.1 161 (xi a1) + (a4 + a5))).1 162 (xi a1) + a5)) 153 (xi a8) ((wI (wI x 161 (xi a1) (x.1 161 (xi a1) + (a4 + a5))) 162 (xi a1) ((wI x 161 (xi a1) (x.1 161 (xi a1) + (a4 + a5))).1 162 (xi a1) + a5)).1 153 (xi a8) + (a4 + a5))) 154 (xi a8) ((wI (wI (wI x 161 (xi a1) (x.1 161 (xi a1) + (a4 + a5))) 162 (xi a1) ((wI x 161 (xi a1) (x.1 161 (xi a1) + (a4 + a5))).1 162 (xi a1) + a5)) 153 (xi a8) ((wI (wI x 161 (xi a1) (x.1 161 (xi a1) + (a4 + a5))) 162 (xi a1) ((wI x 161 (xi a1) (x.1 161 (xi a1) + (a4 + a5))).1 162 (xi a1) + a5)).1 153 (xi a8) + (a4 + a5))).1 154 (xi a8) + a5))) rfl ?_
    obtain ⟨h37, h⟩ := cond_some h
    refine ev_iald rfl rfl h37 ?_
    cases h
    exact ev_iret rfl rfl rfl (Or.inl rfl)
  · refine ev_iff rfl (decide_eq_false h43) ?_
    refine ev_run (n := 4) (u' := (0, 0)) (f' := (197, [some (.ref 138), some (.int a1), none, some (.int a3), some (.int a4), some (.int a5), none, none, some (.int a8)], [.int a8, .ref 151, .int a8, .ref 151])) (h' := hp N (wI (wI x 161 (xi a1) (x.1 161 (xi a1) + (a4 + a5))) 162 (xi a1) ((wI x 161 (xi a1) (x.1 161 (xi a1) + (a4 + a5))).1 162 (xi a1) + a5))) rfl ?_
    obtain ⟨h38, h⟩ := cond_some h
    refine ev_iald rfl rfl h38 ?_
    refine ev_run (n := 4) (u' := (0, 0)) (f' := (204, [some (.ref 138), some (.int a1), none, some (.int a3), some (.int a4), some (.int a5), none, none, some (.int a8)], [.int ((wI (wI x 161 (xi a1) (x.1 161 (xi a1) + (a4 + a5))) 162 (xi a1) ((wI x 161 (xi a1) (x.1 161 (xi a1) + (a4 + a5))).1 162 (xi a1) + a5)).1 151 (xi a8) + (a4 + a5)), .int a8, .ref 151])) (h' := hp N (wI (wI x 161 (xi a1) (x.1 161 (xi a1) + (a4 + a5))) 162 (xi a1) ((wI x 161 (xi a1) (x.1 161 (xi a1) + (a4 + a5))).1 162 (xi a1) + a5))) rfl ?_
    obtain ⟨h39, h⟩ := cond_some h
    refine ev_iast rfl rfl h39 ?_
    show Ev 142 (0, 0) (205, [some (.ref 138), some (.int a1), none, some (.int a3), some (.int a4), some (.int a5), none, none, some (.int a8)], []) (hp N (wI (wI (wI x 161 (xi a1) (x.1 161 (xi a1) + (a4 + a5))) 162 (xi a1) ((wI x 161 (xi a1) (x.1 161 (xi a1) + (a4 + a5))).1 162 (xi a1) + a5)) 151 (xi a8) ((wI (wI x 161 (xi a1) (x.1 161 (xi a1) + (a4 + a5))) 162 (xi a1) ((wI x 161 (xi a1) (x.1 161 (xi a1) + (a4 + a5))).1 162 (xi a1) + a5)).1 151 (xi a8) + (a4 + a5)))) _
    refine ev_run (n := 4) (u' := (0, 0)) (f' := (212, [some (.ref 138), some (.int a1), none, some (.int a3), some (.int a4), some (.int a5), none, none, some (.int a8)], [.int a8, .ref 152, .int a8, .ref 152])) (h' := hp N (wI (wI (wI x 161 (xi a1) (x.1 161 (xi a1) + (a4 + a5))) 162 (xi a1) ((wI x 161 (xi a1) (x.1 161 (xi a1) + (a4 + a5))).1 162 (xi a1) + a5)) 151 (xi a8) ((wI (wI x 161 (xi a1) (x.1 161 (xi a1) + (a4 + a5))) 162 (xi a1) ((wI x 161 (xi a1) (x.1 161 (xi a1) + (a4 + a5))).1 162 (xi a1) + a5)).1 151 (xi a8) + (a4 + a5)))) rfl ?_
    obtain ⟨h40, h⟩ := cond_some h
    refine ev_iald rfl rfl h40 ?_
    refine ev_run (n := 2) (u' := (0, 0)) (f' := (216, [some (.ref 138), some (.int a1), none, some (.int a3), some (.int a4), some (.int a5), none, none, some (.int a8)], [.int ((wI (wI (wI x 161 (xi a1) (x.1 161 (xi a1) + (a4 + a5))) 162 (xi a1) ((wI x 161 (xi a1) (x.1 161 (xi a1) + (a4 + a5))).1 162 (xi a1) + a5)) 151 (xi a8) ((wI (wI x 161 (xi a1) (x.1 161 (xi a1) + (a4 + a5))) 162 (xi a1) ((wI x 161 (xi a1) (x.1 161 (xi a1) + (a4 + a5))).1 162 (xi a1) + a5)).1 151 (xi a8) + (a4 + a5))).1 152 (xi a8) + a5), .int a8, .ref 152])) (h' := hp N (wI (wI (wI x 161 (xi a1) (x.1 161 (xi a1) + (a4 + a5))) 162 (xi a1) ((wI x 161 (xi a1) (x.1 161 (xi a1) + (a4 + a5))).1 162 (xi a1) + a5)) 151 (xi a8) ((wI (wI x 161 (xi a1) (x.1 161 (xi a1) + (a4 + a5))) 162 (xi a1) ((wI x 161 (xi a1) (x.1 161 (xi a1) + (a4 + a5))).1 162 (xi a1) + a5)).1 151 (xi a8) + (a4 + a5)))) rfl ?_
    obtain ⟨h41, h⟩ := cond_some h
    refine ev_iast rfl rfl h41 ?_
    show Ev 142 (0, 0) (217, [some (.ref 138), some (.int a1), none, some (.int a3), some (.int a4), some (.int a5), none, none, some (.int a8)], []) (hp N (wI (wI (wI (wI x 161 (xi a1) (x.1 161 (xi a1) + (a4 + a5))) 162 (xi a1) ((wI x 161 (xi a1) (x.1 161 (xi a1) + (a4 + a5))).1 162 (xi a1) + a5)) 151 (xi a8) ((wI (wI x 161 (xi a1) (x.1 161 (xi a1) + (a4 + a5))) 162 (xi a1) ((wI x 161 (xi a1) (x.1 161 (xi a1) + (a4 + a5))).1 162 (xi a1) + a5)).1 151 (xi a8) + (a4 + a5))) 152 (xi a8) ((wI (wI (wI x 161 (xi a1) (x.1 161 (xi a1) + (a4 + a5))) 162 (xi a1) ((wI x 161 (xi a1) (x.1 161 (xi a1) + (a4 + a5))).1 162 (xi a1) + a5)) 151 (xi a8) ((wI (wI x 161 (xi a1) (x.1 161 (xi a1) + (a4 + a5))) 162 (xi a1) ((wI x 161 (xi a1) (x.1 161 (xi a1) + (a4 + a5))).1 162 (xi a1) + a5)).1 151 (xi a8) + (a4 + a5))).1 152 (xi a8) + a5))) _
    refine ev_run (n := 3) (u' := (0, 0)) (f' := (223, [some (.ref 138), some (.int a1), none, some (.int a3), some (.int a4), some (.int a5), none, none, some (.int a8)], [.int a8, .ref 151])) (h' := hp N (wI (wI (wI (wI x 161 (xi a1) (x.1 161 (xi a1) + (a4 + a5))) 162 (xi a1) ((wI x 161 (xi a1) (x.1 161 (xi a1) + (a4 + a5))).1 162 (xi a1) + a5)) 151 (xi a8) ((wI (wI x 161 (xi a1) (x.1 161 (xi a1) + (a4 + a5))) 162 (xi a1) ((wI x 161 (xi a1) (x.1 161 (xi a1) + (a4 + a5))).1 162 (xi a1) + a5)).1 151 (xi a8) + (a4 + a5))) 152 (xi a8) ((wI (wI (wI x 161 (xi a1) (x.1 161 (xi a1) + (a4 + a5))) 162 (xi a1) ((wI x 161 (xi a1) (x.1 161 (xi a1) + (a4 + a5))).1 162 (xi a1) + a5)) 151 (xi a8) ((wI (wI x 161 (xi a1) (x.1 161 (xi a1) + (a4 + a5))) 162 (xi a1) ((wI x 161 (xi a1) (x.1 161 (xi a1) + (a4 + a5))).1 162 (xi a1) + a5)).1 151 (xi a8) + (a4 + a5))).1 152 (xi a8) + a5))) rfl ?_
    obtain ⟨h42, h⟩ := cond_some h
    refine ev_iald rfl rfl h42 ?_
    cases h
    exact ev_iret rfl rfl rfl (Or.inl rfl)
def gm142_118 (a1 : Int32) (a3 : Int32) (a4 : Int32) (a5 : Int32) (a8 : Int32) (s1 : Int32) (x : Hs) : Option (Int32 × Hs) := (gm113 s1 x).bind fun w20 => (if w20.1 = 0 then ((gm137 a1 w20.2).bind fun w22 => (if w22 = 0 then (cond (aIn a1 5) (cond (aIn a1 5) (cond (aIn a1 5) (gm142_161 a1 a3 a4 a5 a8 (wI (wI (wI w20.2 160 (xi a1) (w20.2.1 138 0 / 60)) 161 (xi a1) 0) 162 (xi a1) 0)) none) none) none) else (gm142_161 a1 a3 a4 a5 a8 w20.2))) else (some (0, w20.2)))
theorem em142_118 {N : Nat} (a1 : Int32) (a3 : Int32) (a4 : Int32) (a5 : Int32) (a8 : Int32) (s1 : Int32) (x : Hs) (r : Int32 × Hs) (h : gm142_118 a1 a3 a4 a5 a8 s1 x = some r) : Ev 142 (0, 0) (118, [some (.ref 138), some (.int a1), none, some (.int a3), some (.int a4), some (.int a5), none, none, some (.int a8)], [.int s1, .ref 138]) (hp N x) (cvMi N r) := by
  unfold gm142_118 at h
  obtain ⟨w20, h21, h⟩ := bind_ok h
  refine ev_call (v := some (.int w20.1)) (h1 := hp N w20.2) rfl rfl rfl rfl (em113 s1 x _ h21) ?_
  show Ev 142 (0, 0) (121, [some (.ref 138), some (.int a1), none, some (.int a3), some (.int a4), some (.int a5), none, none, some (.int a8)], [.int w20.1]) (hp N w20.2) _
  rcases ite_or h with ⟨h28, h⟩ | ⟨h28, h⟩
  · refine ev_ift rfl (decide_eq_true h28) ?_
    refine ev_run (n := 2) (u' := (0, 0)) (f' := (128, [some (.ref 138), some (.int a1), none, some (.int a3), some (.int a4), some (.int a5), none, none, some (.int a8)], [.int a1, .ref 138])) (h' := hp N w20.2) rfl ?_
    obtain ⟨w22, h23, h⟩ := bind_ok h
    refine ev_call (v := some (.int w22)) (h1 := hp N w20.2) rfl rfl rfl rfl (em137 a1 w20.2 _ h23) ?_
    show Ev 142 (0, 0) (131, [some (.ref 138), some (.int a1), none, some (.int a3), some (.int a4), some (.int a5), none, none, some (.int a8)], [.int w22]) (hp N w20.2) _
    rcases ite_or h with ⟨h27, h⟩ | ⟨h27, h⟩
    · refine ev_iff rfl (decide_eq_false (fun w => w h27)) ?_
      refine ev_run (n := 6) (u' := (0, 0)) (f' := (145, [some (.ref 138), some (.int a1), none, some (.int a3), some (.int a4), some (.int a5), none, none, some (.int a8)], [.int 60, .int (w20.2.1 138 0), .int a1, .ref 160])) (h' := hp N w20.2) rfl ?_
      refine ev_idiv rfl (by decide) ?_
      obtain ⟨h24, h⟩ := cond_some h
      refine ev_iast rfl rfl h24 ?_
      show Ev 142 (0, 0) (147, [some (.ref 138), some (.int a1), none, some (.int a3), some (.int a4), some (.int a5), none, none, some (.int a8)], []) (hp N (wI w20.2 160 (xi a1) (w20.2.1 138 0 / 60))) _
      refine ev_run (n := 4) (u' := (0, 0)) (f' := (153, [some (.ref 138), some (.int a1), none, some (.int a3), some (.int a4), some (.int a5), none, none, some (.int a8)], [.int 0, .int a1, .ref 161])) (h' := hp N (wI w20.2 160 (xi a1) (w20.2.1 138 0 / 60))) rfl ?_
      obtain ⟨h25, h⟩ := cond_some h
      refine ev_iast rfl rfl h25 ?_
      show Ev 142 (0, 0) (154, [some (.ref 138), some (.int a1), none, some (.int a3), some (.int a4), some (.int a5), none, none, some (.int a8)], []) (hp N (wI (wI w20.2 160 (xi a1) (w20.2.1 138 0 / 60)) 161 (xi a1) 0)) _
      refine ev_run (n := 4) (u' := (0, 0)) (f' := (160, [some (.ref 138), some (.int a1), none, some (.int a3), some (.int a4), some (.int a5), none, none, some (.int a8)], [.int 0, .int a1, .ref 162])) (h' := hp N (wI (wI w20.2 160 (xi a1) (w20.2.1 138 0 / 60)) 161 (xi a1) 0)) rfl ?_
      obtain ⟨h26, h⟩ := cond_some h
      refine ev_iast rfl rfl h26 ?_
      show Ev 142 (0, 0) (161, [some (.ref 138), some (.int a1), none, some (.int a3), some (.int a4), some (.int a5), none, none, some (.int a8)], []) (hp N (wI (wI (wI w20.2 160 (xi a1) (w20.2.1 138 0 / 60)) 161 (xi a1) 0) 162 (xi a1) 0)) _
      exact em142_161 a1 a3 a4 a5 a8 (wI (wI (wI w20.2 160 (xi a1) (w20.2.1 138 0 / 60)) 161 (xi a1) 0) 162 (xi a1) 0) _ h
    · refine ev_ift rfl (decide_eq_true h27) ?_
      exact em142_161 a1 a3 a4 a5 a8 w20.2 _ h
  · refine ev_iff rfl (decide_eq_false h28) ?_
    refine ev_run (n := 1) (u' := (0, 0)) (f' := (125, [some (.ref 138), some (.int a1), none, some (.int a3), some (.int a4), some (.int a5), none, none, some (.int a8)], [.int 0])) (h' := hp N w20.2) rfl ?_
    cases h
    exact ev_iret rfl rfl rfl (Or.inl rfl)
def gm142_109 (a1 : Int32) (a3 : Int32) (a4 : Int32) (a5 : Int32) (a8 : Int32) (s1 : Int32) (x : Hs) : Option (Int32 × Hs) := if s1 = (-1) then (gm142_118 a1 a3 a4 a5 a8 3 x) else (gm142_118 a1 a3 a4 a5 a8 0 x)
theorem em142_109 {N : Nat} (a1 : Int32) (a3 : Int32) (a4 : Int32) (a5 : Int32) (a8 : Int32) (s1 : Int32) (x : Hs) (r : Int32 × Hs) (h : gm142_109 a1 a3 a4 a5 a8 s1 x = some r) : Ev 142 (0, 0) (109, [some (.ref 138), some (.int a1), none, some (.int a3), some (.int a4), some (.int a5), none, none, some (.int a8)], [.int s1, .ref 138]) (hp N x) (cvMi N r) := by
  unfold gm142_109 at h
  refine ev_run (n := 1) (u' := (0, 0)) (f' := (110, [some (.ref 138), some (.int a1), none, some (.int a3), some (.int a4), some (.int a5), none, none, some (.int a8)], [.int (-1), .int s1, .ref 138])) (h' := hp N x) rfl ?_
  rcases ite_or h with ⟨h19, h⟩ | ⟨h19, h⟩
  · refine ev_icf rfl (decide_eq_false (fun w => w h19)) ?_
    refine ev_run (n := 2) (u' := (0, 0)) (f' := (118, [some (.ref 138), some (.int a1), none, some (.int a3), some (.int a4), some (.int a5), none, none, some (.int a8)], [.int 3, .ref 138])) (h' := hp N x) rfl ?_
    exact em142_118 a1 a3 a4 a5 a8 3 x _ h
  · refine ev_ict rfl (decide_eq_true h19) ?_
    refine ev_run (n := 1) (u' := (0, 0)) (f' := (118, [some (.ref 138), some (.int a1), none, some (.int a3), some (.int a4), some (.int a5), none, none, some (.int a8)], [.int 0, .ref 138])) (h' := hp N x) rfl ?_
    exact em142_118 a1 a3 a4 a5 a8 0 x _ h
def gm142_67 (a1 : Int32) (a3 : Int32) (a4 : Int32) (a5 : Int32) (a6 : Int32) (a7 : Int32) (s0 : Int32) (x : Hs) : Option (Int32 × Hs) := if a6 = 0 then (gm142_118 a1 a3 a4 a5 s0 1 x) else (if a7 = 0 then (gm142_118 a1 a3 a4 a5 s0 2 x) else (if a3 = 0 then (cond (aIn s0 20) (gm142_109 a1 a3 a4 a5 s0 (x.1 147 (xi s0)) x) none) else (cond (aIn s0 20) (gm142_109 a1 a3 a4 a5 s0 (x.1 148 (xi s0)) x) none)))
theorem em142_67 {N : Nat} (a1 : Int32) (a3 : Int32) (a4 : Int32) (a5 : Int32) (a6 : Int32) (a7 : Int32) (s0 : Int32) (x : Hs) (r : Int32 × Hs) (h : gm142_67 a1 a3 a4 a5 a6 a7 s0 x = some r) : Ev 142 (0, 0) (67, [some (.ref 138), some (.int a1), none, some (.int a3), some (.int a4), some (.int a5), some (.int a6), some (.int a7), none], [.int s0]) (hp N x) (cvMi N r) := by
  unfold gm142_67 at h
  refine ev_run (n := 3) (u' := (0, 0)) (f' := (72, [some (.ref 138), some (.int a1), none, some (.int a3), some (.int a4), some (.int a5), some (.int a6), some (.int a7), some (.int s0)], [.int a6, .ref 138])) (h' := hp N x) rfl ?_
  rcases ite_or h with ⟨h18, h⟩ | ⟨h18, h⟩
  · refine ev_iff rfl (decide_eq_false (fun w => w h18)) ?_
    refine ev_run (n := 2) (u' := (0, 0)) (f' := (118, [some (.ref 138), some (.int a1), none, some (.int a3), some (.int a4), some (.int a5), none, none, some (.int s0)], [.int 1, .ref 138])) (h' := hp N x) rfl ?_
    exact em142_118 a1 a3 a4 a5 s0 1 x _ h
  · refine ev_ift rfl (decide_eq_true h18) ?_
    refine ev_run (n := 1) (u' := (0, 0)) (f' := (81, [some (.ref 138), some (.int a1), none, some (.int a3), some (.int a4), some (.int a5), none, some (.int a7), some (.int s0)], [.int a7, .ref 138])) (h' := hp N x) rfl ?_
    rcases ite_or h with ⟨h17, h⟩ | ⟨h17, h⟩
    · refine ev_iff rfl (decide_eq_false (fun w => w h17)) ?_
      refine ev_run (n := 2) (u' := (0, 0)) (f' := (118, [some (.ref 138), some (.int a1), none, some (.int a3), some (.int a4), some (.int a5), none, none, some (.int s0)], [.int 2, .ref 138])) (h' := hp N x) rfl ?_
      exact em142_118 a1 a3 a4 a5 s0 2 x _ h
    · refine ev_ift rfl (decide_eq_true h17) ?_
      refine ev_run (n := 1) (u' := (0, 0)) (f' := (89, [some (.ref 138), some (.int a1), none, some (.int a3), some (.int a4), some (.int a5), none, none, some (.int s0)], [.int a3, .ref 138])) (h' := hp N x) rfl ?_
      rcases ite_or h with ⟨h16, h⟩ | ⟨h16, h⟩
      · refine ev_ift rfl (decide_eq_true h16) ?_
        refine ev_run (n := 3) (u' := (0, 0)) (f' := (108, [some (.ref 138), some (.int a1), none, some (.int a3), some (.int a4), some (.int a5), none, none, some (.int s0)], [.int s0, .ref 147, .ref 138])) (h' := hp N x) rfl ?_
        obtain ⟨h14, h⟩ := cond_some h
        refine ev_iald rfl rfl h14 ?_
        exact em142_109 a1 a3 a4 a5 s0 (x.1 147 (xi s0)) x _ h
      · refine ev_iff rfl (decide_eq_false h16) ?_
        refine ev_run (n := 3) (u' := (0, 0)) (f' := (98, [some (.ref 138), some (.int a1), none, some (.int a3), some (.int a4), some (.int a5), none, none, some (.int s0)], [.int s0, .ref 148, .ref 138])) (h' := hp N x) rfl ?_
        obtain ⟨h15, h⟩ := cond_some h
        refine ev_iald rfl rfl h15 ?_
        refine ev_run (n := 1) (u' := (0, 0)) (f' := (109, [some (.ref 138), some (.int a1), none, some (.int a3), some (.int a4), some (.int a5), none, none, some (.int s0)], [.int (x.1 148 (xi s0)), .ref 138])) (h' := hp N x) rfl ?_
        exact em142_109 a1 a3 a4 a5 s0 (x.1 148 (xi s0)) x _ h
def gm142_51 (a1 : Int32) (a2 : Int32) (a3 : Int32) (a4 : Int32) (a5 : Int32) (a6 : Int32) (s0 : Int32) (x : Hs) : Option (Int32 × Hs) := if a6 = 0 then (gm142_67 a1 a3 a4 a5 a6 s0 0 x) else (gm142_67 a1 a3 a4 a5 a6 s0 ((5 * a2) + a1) x)
theorem em142_51 {N : Nat} (a1 : Int32) (a2 : Int32) (a3 : Int32) (a4 : Int32) (a5 : Int32) (a6 : Int32) (s0 : Int32) (x : Hs) (r : Int32 × Hs) (h : gm142_51 a1 a2 a3 a4 a5 a6 s0 x = some r) : Ev 142 (0, 0) (51, [some (.ref 138), some (.int a1), some (.int a2), some (.int a3), some (.int a4), some (.int a5), some (.int a6), none, none], [.int s0]) (hp N x) (cvMi N r) := by
  unfold gm142_51 at h
  refine ev_run (n := 2) (u' := (0, 0)) (f' := (55, [some (.ref 138), some (.int a1), some (.int a2), some (.int a3), some (.int a4), some (.int a5), some (.int a6), some (.int s0), none], [.int a6])) (h' := hp N x) rfl ?_
  rcases ite_or h with ⟨h13, h⟩ | ⟨h13, h⟩
  · refine ev_ift rfl (decide_eq_true h13) ?_
    refine ev_run (n := 1) (u' := (0, 0)) (f' := (67, [some (.ref 138), some (.int a1), none, some (.int a3), some (.int a4), some (.int a5), some (.int a6), some (.int s0), none], [.int 0])) (h' := hp N x) rfl ?_
    exact em142_67 a1 a3 a4 a5 a6 s0 0 x _ h
  · refine ev_iff rfl (decide_eq_false h13) ?_
    refine ev_run (n := 6) (u' := (0, 0)) (f' := (67, [some (.ref 138), some (.int a1), none, some (.int a3), some (.int a4), some (.int a5), some (.int a6), some (.int s0), none], [.int ((5 * a2) + a1)])) (h' := hp N x) rfl ?_
    exact em142_67 a1 a3 a4 a5 a6 s0 ((5 * a2) + a1) x _ h
def gm142_50 (a1 : Int32) (a2 : Int32) (a3 : Int32) (a4 : Int32) (a5 : Int32) (a6 : Int32) (x : Hs) : Option (Int32 × Hs) := gm142_51 a1 a2 a3 a4 a5 a6 0 x
theorem em142_50 {N : Nat} (a1 : Int32) (a2 : Int32) (a3 : Int32) (a4 : Int32) (a5 : Int32) (a6 : Int32) (x : Hs) (r : Int32 × Hs) (h : gm142_50 a1 a2 a3 a4 a5 a6 x = some r) : Ev 142 (0, 0) (50, [some (.ref 138), some (.int a1), some (.int a2), some (.int a3), some (.int a4), some (.int a5), some (.int a6), none, none], []) (hp N x) (cvMi N r) := by
  unfold gm142_50 at h
  refine ev_run (n := 1) (u' := (0, 0)) (f' := (51, [some (.ref 138), some (.int a1), some (.int a2), some (.int a3), some (.int a4), some (.int a5), some (.int a6), none, none], [.int 0])) (h' := hp N x) rfl ?_
  exact em142_51 a1 a2 a3 a4 a5 a6 0 x _ h
def gm142_20 (a1 : Int32) (a2 : Int32) (a3 : Int32) (a4 : Int32) (a5 : Int32) (s0 : Int32) (x : Hs) : Option (Int32 × Hs) := (gm114 a4 0 1000 x).bind fun w7 => (if w7 = 0 then (gm142_50 a1 a2 a3 a4 a5 s0 x) else ((gm114 a5 0 1000 x).bind fun w9 => (if w9 = 0 then (gm142_50 a1 a2 a3 a4 a5 s0 x) else (gm142_51 a1 a2 a3 a4 a5 s0 1 x))))
theorem em142_20 {N : Nat} (a1 : Int32) (a2 : Int32) (a3 : Int32) (a4 : Int32) (a5 : Int32) (s0 : Int32) (x : Hs) (r : Int32 × Hs) (h : gm142_20 a1 a2 a3 a4 a5 s0 x = some r) : Ev 142 (0, 0) (20, [some (.ref 138), some (.int a1), some (.int a2), some (.int a3), some (.int a4), some (.int a5), none, none, none], [.int s0]) (hp N x) (cvMi N r) := by
  unfold gm142_20 at h
  refine ev_run (n := 4) (u' := (0, 0)) (f' := (28, [some (.ref 138), some (.int a1), some (.int a2), some (.int a3), some (.int a4), some (.int a5), some (.int s0), none, none], [.int 1000, .int 0, .int a4])) (h' := hp N x) rfl ?_
  obtain ⟨w7, h8, h⟩ := bind_ok h
  refine ev_call (v := some (.int w7)) (h1 := hp N x) rfl rfl rfl rfl (em114 a4 0 1000 x _ h8) ?_
  show Ev 142 (0, 0) (31, [some (.ref 138), some (.int a1), some (.int a2), some (.int a3), some (.int a4), some (.int a5), some (.int s0), none, none], [.int w7]) (hp N x) _
  rcases ite_or h with ⟨h12, h⟩ | ⟨h12, h⟩
  · refine ev_ift rfl (decide_eq_true h12) ?_
    exact em142_50 a1 a2 a3 a4 a5 s0 x _ h
  · refine ev_iff rfl (decide_eq_false h12) ?_
    refine ev_run (n := 3) (u' := (0, 0)) (f' := (40, [some (.ref 138), some (.int a1), some (.int a2), some (.int a3), some (.int a4), some (.int a5), some (.int s0), none, none], [.int 1000, .int 0, .int a5])) (h' := hp N x) rfl ?_
    obtain ⟨w9, h10, h⟩ := bind_ok h
    refine ev_call (v := some (.int w9)) (h1 := hp N x) rfl rfl rfl rfl (em114 a5 0 1000 x _ h10) ?_
    show Ev 142 (0, 0) (43, [some (.ref 138), some (.int a1), some (.int a2), some (.int a3), some (.int a4), some (.int a5), some (.int s0), none, none], [.int w9]) (hp N x) _
    rcases ite_or h with ⟨h11, h⟩ | ⟨h11, h⟩
    · refine ev_ift rfl (decide_eq_true h11) ?_
      exact em142_50 a1 a2 a3 a4 a5 s0 x _ h
    · refine ev_iff rfl (decide_eq_false h11) ?_
      refine ev_run (n := 2) (u' := (0, 0)) (f' := (51, [some (.ref 138), some (.int a1), some (.int a2), some (.int a3), some (.int a4), some (.int a5), some (.int s0), none, none], [.int 1])) (h' := hp N x) rfl ?_
      exact em142_51 a1 a2 a3 a4 a5 s0 1 x _ h
def gm142_19 (a1 : Int32) (a2 : Int32) (a3 : Int32) (a4 : Int32) (a5 : Int32) (x : Hs) : Option (Int32 × Hs) := gm142_20 a1 a2 a3 a4 a5 0 x
theorem em142_19 {N : Nat} (a1 : Int32) (a2 : Int32) (a3 : Int32) (a4 : Int32) (a5 : Int32) (x : Hs) (r : Int32 × Hs) (h : gm142_19 a1 a2 a3 a4 a5 x = some r) : Ev 142 (0, 0) (19, [some (.ref 138), some (.int a1), some (.int a2), some (.int a3), some (.int a4), some (.int a5), none, none, none], []) (hp N x) (cvMi N r) := by
  unfold gm142_19 at h
  refine ev_run (n := 1) (u' := (0, 0)) (f' := (20, [some (.ref 138), some (.int a1), some (.int a2), some (.int a3), some (.int a4), some (.int a5), none, none, none], [.int 0])) (h' := hp N x) rfl ?_
  exact em142_20 a1 a2 a3 a4 a5 0 x _ h
def gm142 (a1 : Int32) (a2 : Int32) (a3 : Int32) (a4 : Int32) (a5 : Int32) (x : Hs) : Option (Int32 × Hs) := (gm117 a1 x).bind fun w1 => (if w1 = 0 then (gm142_19 a1 a2 a3 a4 a5 x) else ((gm119 a2 x).bind fun w3 => (if w3 = 0 then (gm142_19 a1 a2 a3 a4 a5 x) else (gm142_20 a1 a2 a3 a4 a5 1 x))))
theorem em142 {N : Nat} (a1 : Int32) (a2 : Int32) (a3 : Int32) (a4 : Int32) (a5 : Int32) (x : Hs) (r : Int32 × Hs) (h : gm142 a1 a2 a3 a4 a5 x = some r) : Ev 142 (0, 0) (0, aPad [.ref 138, .int a1, .int a2, .int a3, .int a4, .int a5] 9, []) (hp N x) (cvMi N r) := by
  show Ev 142 (0, 0) (0, [some (.ref 138), some (.int a1), some (.int a2), some (.int a3), some (.int a4), some (.int a5), none, none, none], []) (hp N x) _
  unfold gm142 at h
  refine ev_run (n := 2) (u' := (0, 0)) (f' := (2, [some (.ref 138), some (.int a1), some (.int a2), some (.int a3), some (.int a4), some (.int a5), none, none, none], [.int a1, .ref 138])) (h' := hp N x) rfl ?_
  obtain ⟨w1, h2, h⟩ := bind_ok h
  refine ev_call (v := some (.int w1)) (h1 := hp N x) rfl rfl rfl rfl (em117 a1 x _ h2) ?_
  show Ev 142 (0, 0) (5, [some (.ref 138), some (.int a1), some (.int a2), some (.int a3), some (.int a4), some (.int a5), none, none, none], [.int w1]) (hp N x) _
  rcases ite_or h with ⟨h6, h⟩ | ⟨h6, h⟩
  · refine ev_ift rfl (decide_eq_true h6) ?_
    exact em142_19 a1 a2 a3 a4 a5 x _ h
  · refine ev_iff rfl (decide_eq_false h6) ?_
    refine ev_run (n := 1) (u' := (0, 0)) (f' := (9, [some (.ref 138), some (.int a1), some (.int a2), some (.int a3), some (.int a4), some (.int a5), none, none, none], [.int a2])) (h' := hp N x) rfl ?_
    obtain ⟨w3, h4, h⟩ := bind_ok h
    refine ev_call (v := some (.int w3)) (h1 := hp N x) rfl rfl rfl rfl (em119 a2 x _ h4) ?_
    show Ev 142 (0, 0) (12, [some (.ref 138), some (.int a1), some (.int a2), some (.int a3), some (.int a4), some (.int a5), none, none, none], [.int w3]) (hp N x) _
    rcases ite_or h with ⟨h5, h⟩ | ⟨h5, h⟩
    · refine ev_ift rfl (decide_eq_true h5) ?_
      exact em142_19 a1 a2 a3 a4 a5 x _ h
    · refine ev_iff rfl (decide_eq_false h5) ?_
      refine ev_run (n := 2) (u' := (0, 0)) (f' := (20, [some (.ref 138), some (.int a1), some (.int a2), some (.int a3), some (.int a4), some (.int a5), none, none, none], [.int 1])) (h' := hp N x) rfl ?_
      exact em142_20 a1 a2 a3 a4 a5 1 x _ h
def gm143_83 (a1 : Int32) (a2 : Int32) (a3 : Int32) (s1 : Int32) (x : Hs) : Option (Int32 × Hs) := (gm113 s1 x).bind fun w13 => (if w13.1 = 0 then (cond (aIn (w13.2.1 138 27) 8) (cond (aIn ((wI w13.2 163 (xi (w13.2.1 138 27)) a1).1 138 27) 8) (cond (aIn ((wI (wI w13.2 163 (xi (w13.2.1 138 27)) a1) 164 (xi ((wI w13.2 163 (xi (w13.2.1 138 27)) a1).1 138 27)) a2).1 138 27) 8) (some ((wI (wI (wI (wI w13.2 163 (xi (w13.2.1 138 27)) a1) 164 (xi ((wI w13.2 163 (xi (w13.2.1 138 27)) a1).1 138 27)) a2) 165 (xi ((wI (wI w13.2 163 (xi (w13.2.1 138 27)) a1) 164 (xi ((wI w13.2 163 (xi (w13.2.1 138 27)) a1).1 138 27)) a2).1 138 27)) a3) 138 27 ((wI (wI (wI w13.2 163 (xi (w13.2.1 138 27)) a1) 164 (xi ((wI w13.2 163 (xi (w13.2.1 138 27)) a1).1 138 27)) a2) 165 (xi ((wI (wI w13.2 163 (xi (w13.2.1 138 27)) a1) 164 (xi ((wI w13.2 163 (xi (w13.2.1 138 27)) a1).1 138 27)) a2).1 138 27)) a3).1 138 27 + 1)).1 138 27, (wI (wI (wI (wI w13.2 163 (xi (w13.2.1 138 27)) a1) 164 (xi ((wI w13.2 163 (xi (w13.2.1 138 27)) a1).1 138 27)) a2) 165 (xi ((wI (wI w13.2 163 (xi (w13.2.1 138 27)) a1) 164 (xi ((wI w13.2 163 (xi (w13.2.1 138 27)) a1).1 138 27)) a2).1 138 27)) a3) 138 27 ((wI (wI (wI w13.2 163 (xi (w13.2.1 138 27)) a1) 164 (xi ((wI w13.2 163 (xi (w13.2.1 138 27)) a1).1 138 27)) a2) 165 (xi ((wI (wI w13.2 163 (xi (w13.2.1 138 27)) a1) 164 (xi ((wI w13.2 163 (xi (w13.2.1 138 27)) a1).1 138 27)) a2).1 138 27)) a3).1 138 27 + 1)))) none) none) none) else (some (0, w13.2)))
theorem em143_83 {N : Nat} (a1 : Int32) (a2 : Int32) (a3 : Int32) (s1 : Int32) (x : Hs) (r : Int32 × Hs) (h : gm143_83 a1 a2 a3 s1 x = some r) : Ev 143 (0, 0) (83, [some (.ref 138), some (.int a1), some (.int a2), some (.int a3), none, none], [.int s1, .ref 138]) (hp N x) (cvMi N r) := by
  unfold gm143_83 at h
  obtain ⟨w13, h14, h⟩ := bind_ok h
  refine ev_call (v := some (.int w13.1)) (h1 := hp N w13.2) rfl rfl rfl rfl (em113 s1 x _ h14) ?_
  show Ev 143 (0, 0) (86, [some (.ref 138), some (.int a1), some (.int a2), some (.int a3), none, none], [.int w13.1]) (hp N w13.2) _
  rcases ite_or h with ⟨h18, h⟩ | ⟨h18, h⟩
  · refine ev_ift rfl (decide_eq_true h18) ?_
    refine ev_run (n := 5) (u' := (0, 0)) (f' := (100, [some (.ref 138), some (.int a1), some (.int a2), some (.int a3), none, none], [.int a1, .int (w13.2.1 138 27), .ref 163])) (h' := hp N w13.2) rfl ?_
    obtain ⟨h15, h⟩ := cond_some h
    refine ev_iast rfl rfl h15 ?_
    show Ev 143 (0, 0) (101, [some (.ref 138), some (.int a1), some (.int a2), some (.int a3), none, none], []) (hp N (wI w13.2 163 (xi (w13.2.1 138 27)) a1)) _
    refine ev_run (n := 5) (u' := (0, 0)) (f' := (110, [some (.ref 138), some (.int a1), some (.int a2), some (.int a3), none, none], [.int a2, .int ((wI w13.2 163 (xi (w13.2.1 138 27)) a1).1 138 27), .ref 164])) (h' := hp N (wI w13.2 163 (xi (w13.2.1 138 27)) a1)) rfl ?_
    obtain ⟨h16, h⟩ := cond_some h
    refine ev_iast rfl rfl h16 ?_
    show Ev 143 (0, 0) (111, [some (.ref 138), some (.int a1), some (.int a2), some (.int a3), none, none], []) (hp N (wI (wI w13.2 163 (xi (w13.2.1 138 27)) a1) 164 (xi ((wI w13.2 163 (xi (w13.2.1 138 27)) a1).1 138 27)) a2)) _
    refine ev_run (n := 5) (u' := (0, 0)) (f' := (120, [some (.ref 138), some (.int a1), some (.int a2), some (.int a3), none, none], [.int a3, .int ((wI (wI w13.2 163 (xi (w13.2.1 138 27)) a1) 164 (xi ((wI w13.2 163 (xi (w13.2.1 138 27)) a1).1 138 27)) a2).1 138 27), .ref 165])) (h' := hp N (wI (wI w13.2 163 (xi (w13.2.1 138 27)) a1) 164 (xi ((wI w13.2 163 (xi (w13.2.1 138 27)) a1).1 138 27)) a2)) rfl ?_
    obtain ⟨h17, h⟩ := cond_some h
    refine ev_iast rfl rfl h17 ?_
    show Ev 143 (0, 0) (121, [some (.ref 138), some (.int a1), some (.int a2), some (.int a3), none, none], []) (hp N (wI (wI (wI w13.2 163 (xi (w13.2.1 138 27)) a1) 164 (xi ((wI w13.2 163 (xi (w13.2.1 138 27)) a1).1 138 27)) a2) 165 (xi ((wI (wI w13.2 163 (xi (w13.2.1 138 27)) a1) 164 (xi ((wI w13.2 163 (xi (w13.2.1 138 27)) a1).1 138 27)) a2).1 138 27)) a3)) _
    refine ev_run (n := 8) (u' := (0, 0)) (f' := (135, [some (.ref 138), some (.int a1), some (.int a2), some (.int a3), none, none], [.int ((wI (wI (wI (wI w13.2 163 (xi (w13.2.1 138 27)) a1) 164 (xi ((wI w13.2 163 (xi (w13.2.1 138 27)) a1).1 138 27)) a2) 165 (xi ((wI (wI w13.2 163 (xi (w13.2.1 138 27)) a1) 164 (xi ((wI w13.2 163 (xi (w13.2.1 138 27)) a1).1 138 27)) a2).1 138 27)) a3) 138 27 ((wI (wI (wI w13.2 163 (xi (w13.2.1 138 27)) a1) 164 (xi ((wI w13.2 163 (xi (w13.2.1 138 27)) a1).1 138 27)) a2) 165 (xi ((wI (wI w13.2 163 (xi (w13.2.1 138 27)) a1) 164 (xi ((wI w13.2 163 (xi (w13.2.1 138 27)) a1).1 138 27)) a2).1 138 27)) a3).1 138 27 + 1)).1 138 27)])) (h' := hp N (wI (wI (wI (wI w13.2 163 (xi (w13.2.1 138 27)) a1) 164 (xi ((wI w13.2 163 (xi (w13.2.1 138 27)) a1).1 138 27)) a2) 165 (xi ((wI (wI w13.2 163 (xi (w13.2.1 138 27)) a1) 164 (xi ((wI w13.2 163 (xi (w13.2.1 138 27)) a1).1 138 27)) a2).1 138 27)) a3) 138 27 ((wI (wI (wI w13.2 163 (xi (w13.2.1 138 27)) a1) 164 (xi ((wI w13.2 163 (xi (w13.2.1 138 27)) a1).1 138 27)) a2) 165 (xi ((wI (wI w13.2 163 (xi (w13.2.1 138 27)) a1) 164 (xi ((wI w13.2 163 (xi (w13.2.1 138 27)) a1).1 138 27)) a2).1 138 27)) a3).1 138 27 + 1))) rfl ?_
    cases h
    exact ev_iret rfl rfl rfl (Or.inl rfl)
  · refine ev_iff rfl (decide_eq_false h18) ?_
    refine ev_run (n := 1) (u' := (0, 0)) (f' := (90, [some (.ref 138), some (.int a1), some (.int a2), some (.int a3), none, none], [.int 0])) (h' := hp N w13.2) rfl ?_
    cases h
    exact ev_iret rfl rfl rfl (Or.inl rfl)
def gm143_48 (a1 : Int32) (a2 : Int32) (a3 : Int32) (a4 : Int32) (s0 : Int32) (x : Hs) : Option (Int32 × Hs) := if a4 = 0 then (gm143_83 a1 a2 a3 1 x) else (if s0 = 0 then (gm143_83 a1 a2 a3 2 x) else (if x.1 138 27 = 8 then (gm143_83 a1 a2 a3 3 x) else (gm143_83 a1 a2 a3 0 x)))
theorem em143_48 {N : Nat} (a1 : Int32) (a2 : Int32) (a3 : Int32) (a4 : Int32) (s0 : Int32) (x : Hs) (r : Int32 × Hs) (h : gm143_48 a1 a2 a3 a4 s0 x = some r) : Ev 143 (0, 0) (48, [some (.ref 138), some (.int a1), some (.int a2), some (.int a3), some (.int a4), none], [.int s0]) (hp N x) (cvMi N r) := by
  unfold gm143_48 at h
  refine ev_run (n := 3) (u' := (0, 0)) (f' := (53, [some (.ref 138), some (.int a1), some (.int a2), some (.int a3), some (.int a4), some (.int s0)], [.int a4, .ref 138])) (h' := hp N x) rfl ?_
  rcases ite_or h with ⟨h12, h⟩ | ⟨h12, h⟩
  · refine ev_iff rfl (decide_eq_false (fun w => w h12)) ?_
    refine ev_run (n := 2) (u' := (0, 0)) (f' := (83, [some (.ref 138), some (.int a1), some (.int a2), some (.int a3), none, none], [.int 1, .ref 138])) (h' := hp N x) rfl ?_
    exact em143_83 a1 a2 a3 1 x _ h
  · refine ev_ift rfl (decide_eq_true h12) ?_
    refine ev_run (n := 1) (u' := (0, 0)) (f' := (62, [some (.ref 138), some (.int a1), some (.int a2), some (.int a3), none, some (.int s0)], [.int s0, .ref 138])) (h' := hp N x) rfl ?_
    rcases ite_or h with ⟨h11, h⟩ | ⟨h11, h⟩
    · refine ev_iff rfl (decide_eq_false (fun w => w h11)) ?_
      refine ev_run (n := 2) (u' := (0, 0)) (f' := (83, [some (.ref 138), some (.int a1), some (.int a2), some (.int a3), none, none], [.int 2, .ref 138])) (h' := hp N x) rfl ?_
      exact em143_83 a1 a2 a3 2 x _ h
    · refine ev_ift rfl (decide_eq_true h11) ?_
      refine ev_run (n := 3) (u' := (0, 0)) (f' := (75, [some (.ref 138), some (.int a1), some (.int a2), some (.int a3), none, none], [.int 8, .int (x.1 138 27), .ref 138])) (h' := hp N x) rfl ?_
      rcases ite_or h with ⟨h10, h⟩ | ⟨h10, h⟩
      · refine ev_icf rfl (decide_eq_false (fun w => w h10)) ?_
        refine ev_run (n := 2) (u' := (0, 0)) (f' := (83, [some (.ref 138), some (.int a1), some (.int a2), some (.int a3), none, none], [.int 3, .ref 138])) (h' := hp N x) rfl ?_
        exact em143_83 a1 a2 a3 3 x _ h
      · refine ev_ict rfl (decide_eq_true h10) ?_
        refine ev_run (n := 1) (u' := (0, 0)) (f' := (83, [some (.ref 138), some (.int a1), some (.int a2), some (.int a3), none, none], [.int 0, .ref 138])) (h' := hp N x) rfl ?_
        exact em143_83 a1 a2 a3 0 x _ h
def gm143_47 (a1 : Int32) (a2 : Int32) (a3 : Int32) (a4 : Int32) (x : Hs) : Option (Int32 × Hs) := gm143_48 a1 a2 a3 a4 0 x
theorem em143_47 {N : Nat} (a1 : Int32) (a2 : Int32) (a3 : Int32) (a4 : Int32) (x : Hs) (r : Int32 × Hs) (h : gm143_47 a1 a2 a3 a4 x = some r) : Ev 143 (0, 0) (47, [some (.ref 138), some (.int a1), some (.int a2), some (.int a3), some (.int a4), none], []) (hp N x) (cvMi N r) := by
  unfold gm143_47 at h
  refine ev_run (n := 1) (u' := (0, 0)) (f' := (48, [some (.ref 138), some (.int a1), some (.int a2), some (.int a3), some (.int a4), none], [.int 0])) (h' := hp N x) rfl ?_
  exact em143_48 a1 a2 a3 a4 0 x _ h
def gm143_18 (a1 : Int32) (a2 : Int32) (a3 : Int32) (s0 : Int32) (x : Hs) : Option (Int32 × Hs) := (gm114 a2 0 9999 x).bind fun w5 => (if w5 = 0 then (gm143_47 a1 a2 a3 s0 x) else (if a3 ≤ a2 then (gm143_47 a1 a2 a3 s0 x) else (if a3 > 9999 then (gm143_47 a1 a2 a3 s0 x) else (gm143_48 a1 a2 a3 s0 1 x))))
theorem em143_18 {N : Nat} (a1 : Int32) (a2 : Int32) (a3 : Int32) (s0 : Int32) (x : Hs) (r : Int32 × Hs) (h : gm143_18 a1 a2 a3 s0 x = some r) : Ev 143 (0, 0) (18, [some (.ref 138), some (.int a1), some (.int a2), some (.int a3), none, none], [.int s0]) (hp N x) (cvMi N r) := by
  unfold gm143_18 at h
  refine ev_run (n := 4) (u' := (0, 0)) (f' := (25, [some (.ref 138), some (.int a1), some (.int a2), some (.int a3), some (.int s0), none], [.int 9999, .int 0, .int a2])) (h' := hp N x) rfl ?_
  obtain ⟨w5, h6, h⟩ := bind_ok h
  refine ev_call (v := some (.int w5)) (h1 := hp N x) rfl rfl rfl rfl (em114 a2 0 9999 x _ h6) ?_
  show Ev 143 (0, 0) (28, [some (.ref 138), some (.int a1), some (.int a2), some (.int a3), some (.int s0), none], [.int w5]) (hp N x) _
  rcases ite_or h with ⟨h9, h⟩ | ⟨h9, h⟩
  · refine ev_ift rfl (decide_eq_true h9) ?_
    exact em143_47 a1 a2 a3 s0 x _ h
  · refine ev_iff rfl (decide_eq_false h9) ?_
    refine ev_run (n := 2) (u' := (0, 0)) (f' := (33, [some (.ref 138), some (.int a1), some (.int a2), some (.int a3), some (.int s0), none], [.int a2, .int a3])) (h' := hp N x) rfl ?_
    rcases ite_or h with ⟨h8, h⟩ | ⟨h8, h⟩
    · refine ev_ict rfl (decide_eq_true h8) ?_
      exact em143_47 a1 a2 a3 s0 x _ h
    · refine ev_icf rfl (decide_eq_false h8) ?_
      refine ev_run (n := 2) (u' := (0, 0)) (f' := (40, [some (.ref 138), some (.int a1), some (.int a2), some (.int a3), some (.int s0), none], [.int 9999, .int a3])) (h' := hp N x) rfl ?_
      rcases ite_or h with ⟨h7, h⟩ | ⟨h7, h⟩
      · refine ev_ict rfl (decide_eq_true h7) ?_
        exact em143_47 a1 a2 a3 s0 x _ h
      · refine ev_icf rfl (decide_eq_false h7) ?_
        refine ev_run (n := 2) (u' := (0, 0)) (f' := (48, [some (.ref 138), some (.int a1), some (.int a2), some (.int a3), some (.int s0), none], [.int 1])) (h' := hp N x) rfl ?_
        exact em143_48 a1 a2 a3 s0 1 x _ h
def gm143_13 (a1 : Int32) (a2 : Int32) (a3 : Int32) (x : Hs) : Option (Int32 × Hs) := gm143_18 a1 a2 a3 1 x
theorem em143_13 {N : Nat} (a1 : Int32) (a2 : Int32) (a3 : Int32) (x : Hs) (r : Int32 × Hs) (h : gm143_13 a1 a2 a3 x = some r) : Ev 143 (0, 0) (13, [some (.ref 138), some (.int a1), some (.int a2), some (.int a3), none, none], []) (hp N x) (cvMi N r) := by
  unfold gm143_13 at h
  refine ev_run (n := 2) (u' := (0, 0)) (f' := (18, [some (.ref 138), some (.int a1), some (.int a2), some (.int a3), none, none], [.int 1])) (h' := hp N x) rfl ?_
  exact em143_18 a1 a2 a3 1 x _ h
def gm143 (a1 : Int32) (a2 : Int32) (a3 : Int32) (x : Hs) : Option (Int32 × Hs) := if a1 = (-1) then (gm143_13 a1 a2 a3 x) else ((gm117 a1 x).bind fun w1 => (if w1 = 0 then (gm143_18 a1 a2 a3 0 x) else (gm143_13 a1 a2 a3 x)))
theorem em143 {N : Nat} (a1 : Int32) (a2 : Int32) (a3 : Int32) (x : Hs) (r : Int32 × Hs) (h : gm143 a1 a2 a3 x = some r) : Ev 143 (0, 0) (0, aPad [.ref 138, .int a1, .int a2, .int a3] 6, []) (hp N x) (cvMi N r) := by
  show Ev 143 (0, 0) (0, [some (.ref 138), some (.int a1), some (.int a2), some (.int a3), none, none], []) (hp N x) _
  unfold gm143 at h
  refine ev_run (n := 2) (u' := (0, 0)) (f' := (2, [some (.ref 138), some (.int a1), some (.int a2), some (.int a3), none, none], [.int (-1), .int a1])) (h' := hp N x) rfl ?_
  rcases ite_or h with ⟨h4, h⟩ | ⟨h4, h⟩
  · refine ev_ict rfl (decide_eq_true h4) ?_
    exact em143_13 a1 a2 a3 x _ h
  · refine ev_icf rfl (decide_eq_false h4) ?_
    refine ev_run (n := 2) (u' := (0, 0)) (f' := (7, [some (.ref 138), some (.int a1), some (.int a2), some (.int a3), none, none], [.int a1, .ref 138])) (h' := hp N x) rfl ?_
    obtain ⟨w1, h2, h⟩ := bind_ok h
    refine ev_call (v := some (.int w1)) (h1 := hp N x) rfl rfl rfl rfl (em117 a1 x _ h2) ?_
    show Ev 143 (0, 0) (10, [some (.ref 138), some (.int a1), some (.int a2), some (.int a3), none, none], [.int w1]) (hp N x) _
    rcases ite_or h with ⟨h3, h⟩ | ⟨h3, h⟩
    · refine ev_ift rfl (decide_eq_true h3) ?_
      refine ev_run (n := 1) (u' := (0, 0)) (f' := (18, [some (.ref 138), some (.int a1), some (.int a2), some (.int a3), none, none], [.int 0])) (h' := hp N x) rfl ?_
      exact em143_18 a1 a2 a3 0 x _ h
    · refine ev_iff rfl (decide_eq_false h3) ?_
      exact em143_13 a1 a2 a3 x _ h
def gm144_31 (a1 : Int32) (s1 : Int32) (x : Hs) : Option (Int32 × Hs) := (gm113 s1 x).bind fun w6 => (if w6.1 = 0 then (cond (aIn a1 5) (cond (aIn a1 5) (cond (aIn a1 5) (some ((wI w6.2 158 (xi a1) (w6.2.1 158 (xi a1) + 1)).1 158 (xi a1), (wI w6.2 158 (xi a1) (w6.2.1 158 (xi a1) + 1)))) none) none) none) else (some (0, w6.2)))
theorem em144_31 {N : Nat} (a1 : Int32) (s1 : Int32) (x : Hs) (r : Int32 × Hs) (h : gm144_31 a1 s1 x = some r) : Ev 144 (0, 0) (31, [some (.ref 138), some (.int a1), none], [.int s1, .ref 138]) (hp N x) (cvMi N r) := by
  unfold gm144_31 at h
  obtain ⟨w6, h7, h⟩ := bind_ok h
  refine ev_call (v := some (.int w6.1)) (h1 := hp N w6.2) rfl rfl rfl rfl (em113 s1 x _ h7) ?_
  show Ev 144 (0, 0) (34, [some (.ref 138), some (.int a1), none], [.int w6.1]) (hp N w6.2) _
  rcases ite_or h with ⟨h11, h⟩ | ⟨h11, h⟩
  · refine ev_ift rfl (decide_eq_true h11) ?_
    refine ev_run (n := 4) (u' := (0, 0)) (f' := (45, [some (.ref 138), some (.int a1), none], [.int a1, .ref 158, .int a1, .ref 158])) (h' := hp N w6.2) rfl ?_
    obtain ⟨h8, h⟩ := cond_some h
    refine ev_iald rfl rfl h8 ?_
    refine ev_run (n := 2) (u' := (0, 0)) (f' := (48, [some (.ref 138), some (.int a1), none], [.int (w6.2.1 158 (xi a1) + 1), .int a1, .ref 158])) (h' := hp N w6.2) rfl ?_
    obtain ⟨h9, h⟩ := cond_some h
    refine ev_iast rfl rfl h9 ?_
    show Ev 144 (0, 0) (49, [some (.ref 138), some (.int a1), none], []) (hp N (wI w6.2 158 (xi a1) (w6.2.1 158 (xi a1) + 1))) _
    refine ev_run (n := 3) (u' := (0, 0)) (f' := (54, [some (.ref 138), some (.int a1), none], [.int a1, .ref 158])) (h' := hp N (wI w6.2 158 (xi a1) (w6.2.1 158 (xi a1) + 1))) rfl ?_
    obtain ⟨h10, h⟩ := cond_some h
    refine ev_iald rfl rfl h10 ?_
    cases h
    exact ev_iret rfl rfl rfl (Or.inl rfl)
  · refine ev_iff rfl (decide_eq_false h11) ?_
    refine ev_run (n := 1) (u' := (0, 0)) (f' := (38, [some (.ref 138), some (.int a1), none], [.int 0])) (h' := hp N w6.2) rfl ?_
    cases h
    exact ev_iret rfl rfl rfl (Or.inl rfl)
def gm144 (a1 : Int32) (x : Hs) : Option (Int32 × Hs) := (gm117 a1 x).bind fun w1 => (if w1 = 0 then (gm144_31 a1 1 x) else (cond (aIn a1 5) (if x.1 158 (xi a1) = 9 then (gm144_31 a1 2 x) else (gm144_31 a1 0 x)) none))
theorem em144 {N : Nat} (a1 : Int32) (x : Hs) (r : Int32 × Hs) (h : gm144 a1 x = some r) : Ev 144 (0, 0) (0, aPad [.ref 138, .int a1] 3, []) (hp N x) (cvMi N r) := by
  show Ev 144 (0, 0) (0, [some (.ref 138), some (.int a1), none], []) (hp N x) _
  unfold gm144 at h
  refine ev_run (n := 2) (u' := (0, 0)) (f' := (2, [some (.ref 138), some (.int a1), none], [.int a1, .ref 138])) (h' := hp N x) rfl ?_
  obtain ⟨w1, h2, h⟩ := bind_ok h
  refine ev_call (v := some (.int w1)) (h1 := hp N x) rfl rfl rfl rfl (em117 a1 x _ h2) ?_
  show Ev 144 (0, 0) (5, [some (.ref 138), some (.int a1), none], [.int w1]) (hp N x) _
  refine ev_run (n := 3) (u' := (0, 0)) (f' := (8, [some (.ref 138), some (.int a1), some (.int w1)], [.int w1, .ref 138])) (h' := hp N x) rfl ?_
  rcases ite_or h with ⟨h5, h⟩ | ⟨h5, h⟩
  · refine ev_iff rfl (decide_eq_false (fun w => w h5)) ?_
    refine ev_run (n := 2) (u' := (0, 0)) (f' := (31, [some (.ref 138), some (.int a1), none], [.int 1, .ref 138])) (h' := hp N x) rfl ?_
    exact em144_31 a1 1 x _ h
  · refine ev_ift rfl (decide_eq_true h5) ?_
    refine ev_run (n := 3) (u' := (0, 0)) (f' := (20, [some (.ref 138), some (.int a1), none], [.int a1, .ref 158, .ref 138])) (h' := hp N x) rfl ?_
    obtain ⟨h3, h⟩ := cond_some h
    refine ev_iald rfl rfl h3 ?_
    refine ev_run (n := 1) (u' := (0, 0)) (f' := (23, [some (.ref 138), some (.int a1), none], [.int 9, .int (x.1 158 (xi a1)), .ref 138])) (h' := hp N x) rfl ?_
    rcases ite_or h with ⟨h4, h⟩ | ⟨h4, h⟩
    · refine ev_icf rfl (decide_eq_false (fun w => w h4)) ?_
      refine ev_run (n := 2) (u' := (0, 0)) (f' := (31, [some (.ref 138), some (.int a1), none], [.int 2, .ref 138])) (h' := hp N x) rfl ?_
      exact em144_31 a1 2 x _ h
    · refine ev_ict rfl (decide_eq_true h4) ?_
      refine ev_run (n := 1) (u' := (0, 0)) (f' := (31, [some (.ref 138), some (.int a1), none], [.int 0, .ref 138])) (h' := hp N x) rfl ?_
      exact em144_31 a1 0 x _ h
def gm145_29 (a1 : Int32) (a2 : Int32) (s1 : Int32) (x : Hs) : Option (Int32 × Hs) := (gm113 s1 x).bind fun w7 => (if w7.1 = 0 then (cond (aIn a1 5) (cond (aIn a1 5) (some (w7.2.1 159 (xi a1), (wI w7.2 159 (xi a1) a2))) none) none) else (some (0, w7.2)))
theorem em145_29 {N : Nat} (a1 : Int32) (a2 : Int32) (s1 : Int32) (x : Hs) (r : Int32 × Hs) (h : gm145_29 a1 a2 s1 x = some r) : Ev 145 (0, 0) (29, [some (.ref 138), some (.int a1), some (.int a2), none], [.int s1, .ref 138]) (hp N x) (cvMi N r) := by
  unfold gm145_29 at h
  obtain ⟨w7, h8, h⟩ := bind_ok h
  refine ev_call (v := some (.int w7.1)) (h1 := hp N w7.2) rfl rfl rfl rfl (em113 s1 x _ h8) ?_
  show Ev 145 (0, 0) (32, [some (.ref 138), some (.int a1), some (.int a2), none], [.int w7.1]) (hp N w7.2) _
  rcases ite_or h with ⟨h11, h⟩ | ⟨h11, h⟩
  · refine ev_ift rfl (decide_eq_true h11) ?_
    refine ev_run (n := 3) (u' := (0, 0)) (f' := (42, [some (.ref 138), some (.int a1), some (.int a2), none], [.int a1, .ref 159])) (h' := hp N w7.2) rfl ?_
    obtain ⟨h9, h⟩ := cond_some h
    refine ev_iald rfl rfl h9 ?_
    refine ev_run (n := 5) (u' := (0, 0)) (f' := (50, [some (.ref 138), some (.int a1), some (.int a2), some (.int (w7.2.1 159 (xi a1)))], [.int a2, .int a1, .ref 159])) (h' := hp N w7.2) rfl ?_
    obtain ⟨h10, h⟩ := cond_some h
    refine ev_iast rfl rfl h10 ?_
    show Ev 145 (0, 0) (51, [some (.ref 138), some (.int a1), some (.int a2), some (.int (w7.2.1 159 (xi a1)))], []) (hp N (wI w7.2 159 (xi a1) a2)) _
    refine ev_run (n := 1) (u' := (0, 0)) (f' := (52, [some (.ref 138), some (.int a1), some (.int a2), some (.int (w7.2.1 159 (xi a1)))], [.int (w7.2.1 159 (xi a1))])) (h' := hp N (wI w7.2 159 (xi a1) a2)) rfl ?_
    cases h
    exact ev_iret rfl rfl rfl (Or.inl rfl)
  · refine ev_iff rfl (decide_eq_false h11) ?_
    refine ev_run (n := 1) (u' := (0, 0)) (f' := (36, [some (.ref 138), some (.int a1), some (.int a2), none], [.int 0])) (h' := hp N w7.2) rfl ?_
    cases h
    exact ev_iret rfl rfl rfl (Or.inl rfl)
def gm145 (a1 : Int32) (a2 : Int32) (x : Hs) : Option (Int32 × Hs) := (gm117 a1 x).bind fun w1 => (if w1 = 0 then (gm145_29 a1 a2 1 x) else ((gm114 a2 1 1000 x).bind fun w3 => (if w3 = 0 then (gm145_29 a1 a2 2 x) else (gm145_29 a1 a2 0 x))))
theorem em145 {N : Nat} (a1 : Int32) (a2 : Int32) (x : Hs) (r : Int32 × Hs) (h : gm145 a1 a2 x = some r) : Ev 145 (0, 0) (0, aPad [.ref 138, .int a1, .int a2] 4, []) (hp N x) (cvMi N r) := by
  show Ev 145 (0, 0) (0, [some (.ref 138), some (.int a1), some (.int a2), none], []) (hp N x) _
  unfold gm145 at h
  refine ev_run (n := 3) (u' := (0, 0)) (f' := (3, [some (.ref 138), some (.int a1), some (.int a2), none], [.int a1, .ref 138, .ref 138])) (h' := hp N x) rfl ?_
  obtain ⟨w1, h2, h⟩ := bind_ok h
  refine ev_call (v := some (.int w1)) (h1 := hp N x) rfl rfl rfl rfl (em117 a1 x _ h2) ?_
  show Ev 145 (0, 0) (6, [some (.ref 138), some (.int a1), some (.int a2), none], [.int w1, .ref 138]) (hp N x) _
  rcases ite_or h with ⟨h6, h⟩ | ⟨h6, h⟩
  · refine ev_iff rfl (decide_eq_false (fun w => w h6)) ?_
    refine ev_run (n := 2) (u' := (0, 0)) (f' := (29, [some (.ref 138), some (.int a1), some (.int a2), none], [.int 1, .ref 138])) (h' := hp N x) rfl ?_
    exact em145_29 a1 a2 1 x _ h
  · refine ev_ift rfl (decide_eq_true h6) ?_
    refine ev_run (n := 3) (u' := (0, 0)) (f' := (18, [some (.ref 138), some (.int a1), some (.int a2), none], [.int 1000, .int 1, .int a2, .ref 138])) (h' := hp N x) rfl ?_
    obtain ⟨w3, h4, h⟩ := bind_ok h
    refine ev_call (v := some (.int w3)) (h1 := hp N x) rfl rfl rfl rfl (em114 a2 1 1000 x _ h4) ?_
    show Ev 145 (0, 0) (21, [some (.ref 138), some (.int a1), some (.int a2), none], [.int w3, .ref 138]) (hp N x) _
    rcases ite_or h with ⟨h5, h⟩ | ⟨h5, h⟩
    · refine ev_ift rfl (decide_eq_true h5) ?_
      refine ev_run (n := 1) (u' := (0, 0)) (f' := (29, [some (.ref 138), some (.int a1), some (.int a2), none], [.int 2, .ref 138])) (h' := hp N x) rfl ?_
      exact em145_29 a1 a2 2 x _ h
    · refine ev_iff rfl (decide_eq_false h5) ?_
      refine ev_run (n := 2) (u' := (0, 0)) (f' := (29, [some (.ref 138), some (.int a1), some (.int a2), none], [.int 0, .ref 138])) (h' := hp N x) rfl ?_
      exact em145_29 a1 a2 0 x _ h
def gm146_14 (a1 : Int32) (s1 : Int32) (x : Hs) : Option (UInt32 × Hs) := (gm113 s1 x).bind fun w4 => (if w4.1 = 0 then ((gm137 a1 w4.2).bind fun w6 => (if w6 = 0 then (some (FP.fconst0, w4.2)) else (cond (aIn a1 5) (if w4.2.1 161 (xi a1) = 0 then (some (FP.fconst0, w4.2)) else (cond (aIn a1 5) (cond (aIn a1 5) (cond (aIn a1 5) (cond (aN32 (FP.fdiv (FP.i2f (1000 * w4.2.1 162 (xi a1))) (FP.i2f (w4.2.1 159 (xi a1) * w4.2.1 161 (xi a1))))) (some ((FP.fdiv (FP.i2f (1000 * w4.2.1 162 (xi a1))) (FP.i2f (w4.2.1 159 (xi a1) * w4.2.1 161 (xi a1)))), w4.2)) none) none) none) none)) none))) else (some (FP.fconst0, w4.2)))
theorem em146_14 {N : Nat} (a1 : Int32) (s1 : Int32) (x : Hs) (r : UInt32 × Hs) (h : gm146_14 a1 s1 x = some r) : Ev 146 (0, 0) (14, [some (.ref 138), some (.int a1)], [.int s1, .ref 138]) (hp N x) (cvMf N r) := by
  unfold gm146_14 at h
  obtain ⟨w4, h5, h⟩ := bind_ok h
  refine ev_call (v := some (.int w4.1)) (h1 := hp N w4.2) rfl rfl rfl rfl (em113 s1 x _ h5) ?_
  show Ev 146 (0, 0) (17, [some (.ref 138), some (.int a1)], [.int w4.1]) (hp N w4.2) _
  rcases ite_or h with ⟨h15, h⟩ | ⟨h15, h⟩
  · refine ev_iff rfl (decide_eq_false (fun w => w h15)) ?_
    refine ev_run (n := 2) (u' := (0, 0)) (f' := (22, [some (.ref 138), some (.int a1)], [.int a1, .ref 138])) (h' := hp N w4.2) rfl ?_
    obtain ⟨w6, h7, h⟩ := bind_ok h
    refine ev_call (v := some (.int w6)) (h1 := hp N w4.2) rfl rfl rfl rfl (em137 a1 w4.2 _ h7) ?_
    show Ev 146 (0, 0) (25, [some (.ref 138), some (.int a1)], [.int w6]) (hp N w4.2) _
    rcases ite_or h with ⟨h14, h⟩ | ⟨h14, h⟩
    · refine ev_ift rfl (decide_eq_true h14) ?_
      refine ev_run (n := 1) (u' := (0, 0)) (f' := (38, [none, none], [.float FP.fconst0])) (h' := hp N w4.2) rfl ?_
      cases h
      exact ev_fret rfl rfl rfl
    · refine ev_iff rfl (decide_eq_false h14) ?_
      refine ev_run (n := 3) (u' := (0, 0)) (f' := (33, [some (.ref 138), some (.int a1)], [.int a1, .ref 161])) (h' := hp N w4.2) rfl ?_
      obtain ⟨h8, h⟩ := cond_some h
      refine ev_iald rfl rfl h8 ?_
      rcases ite_or h with ⟨h13, h⟩ | ⟨h13, h⟩
      · refine ev_iff rfl (decide_eq_false (fun w => w h13)) ?_
        refine ev_run (n := 1) (u' := (0, 0)) (f' := (38, [some (.ref 138), some (.int a1)], [.float FP.fconst0])) (h' := hp N w4.2) rfl ?_
        cases h
        exact ev_fret rfl rfl rfl
      · refine ev_ift rfl (decide_eq_true h13) ?_
        refine ev_run (n := 4) (u' := (0, 0)) (f' := (47, [some (.ref 138), some (.int a1)], [.int a1, .ref 162, .int 1000])) (h' := hp N w4.2) rfl ?_
        obtain ⟨h9, h⟩ := cond_some h
        refine ev_iald rfl rfl h9 ?_
        refine ev_run (n := 5) (u' := (0, 0)) (f' := (55, [some (.ref 138), some (.int a1)], [.int a1, .ref 159, .float (FP.i2f (1000 * w4.2.1 162 (xi a1)))])) (h' := hp N w4.2) rfl ?_
        obtain ⟨h10, h⟩ := cond_some h
        refine ev_iald rfl rfl h10 ?_
        refine ev_run (n := 3) (u' := (0, 0)) (f' := (61, [some (.ref 138), some (.int a1)], [.int a1, .ref 161, .int (w4.2.1 159 (xi a1)), .float (FP.i2f (1000 * w4.2.1 162 (xi a1)))])) (h' := hp N w4.2) rfl ?_
        obtain ⟨h11, h⟩ := cond_some h
        refine ev_iald rfl rfl h11 ?_
        refine ev_run (n := 2) (u' := (0, 0)) (f' := (64, [some (.ref 138), some (.int a1)], [.float (FP.i2f (w4.2.1 159 (xi a1) * w4.2.1 161 (xi a1))), .float (FP.i2f (1000 * w4.2.1 162 (xi a1)))])) (h' := hp N w4.2) rfl ?_
        obtain ⟨h12, h⟩ := cond_some h
        refine ev_fdiv rfl h12 ?_
        cases h
        exact ev_fret rfl rfl rfl
  · refine ev_ift rfl (decide_eq_true h15) ?_
    refine ev_run (n := 1) (u' := (0, 0)) (f' := (38, [none, none], [.float FP.fconst0])) (h' := hp N w4.2) rfl ?_
    cases h
    exact ev_fret rfl rfl rfl
def gm146 (a1 : Int32) (x : Hs) : Option (UInt32 × Hs) := (gm117 a1 x).bind fun w1 => (if w1 = 0 then (gm146_14 a1 1 x) else (gm146_14 a1 0 x))
theorem em146 {N : Nat} (a1 : Int32) (x : Hs) (r : UInt32 × Hs) (h : gm146 a1 x = some r) : Ev 146 (0, 0) (0, aPad [.ref 138, .int a1] 2, []) (hp N x) (cvMf N r) := by
  show Ev 146 (0, 0) (0, [some (.ref 138), some (.int a1)], []) (hp N x) _
  unfold gm146 at h
  refine ev_run (n := 3) (u' := (0, 0)) (f' := (3, [some (.ref 138), some (.int a1)], [.int a1, .ref 138, .ref 138])) (h' := hp N x) rfl ?_
  obtain ⟨w1, h2, h⟩ := bind_ok h
  refine ev_call (v := some (.int w1)) (h1 := hp N x) rfl rfl rfl rfl (em117 a1 x _ h2) ?_
  show Ev 146 (0, 0) (6, [some (.ref 138), some (.int a1)], [.int w1, .ref 138]) (hp N x) _
  rcases ite_or h with ⟨h3, h⟩ | ⟨h3, h⟩
  · refine ev_ift rfl (decide_eq_true h3) ?_
    refine ev_run (n := 1) (u' := (0, 0)) (f' := (14, [some (.ref 138), some (.int a1)], [.int 1, .ref 138])) (h' := hp N x) rfl ?_
    exact em146_14 a1 1 x _ h
  · refine ev_iff rfl (decide_eq_false h3) ?_
    refine ev_run (n := 2) (u' := (0, 0)) (f' := (14, [some (.ref 138), some (.int a1)], [.int 0, .ref 138])) (h' := hp N x) rfl ?_
    exact em146_14 a1 0 x _ h
def gm147_87 (k6 : Int32 → Int32 → Int32 → Int32 → Int32 → Int32 → Hs → Option (Int32)) (a1 : Int32) (a2 : Int32) (a3 : Int32) (a4 : Int32) (a6 : Int32) (s0 : Int32) (x : Hs) : Option (Int32) := k6 a1 a2 a3 a4 s0 (a6 + 1) x
theorem em147_87 {N : Nat} (k6 : Int32 → Int32 → Int32 → Int32 → Int32 → Int32 → Hs → Option (Int32)) (q6 : ∀ (a1 : Int32) (a2 : Int32) (a3 : Int32) (a4 : Int32) (a5 : Int32) (a6 : Int32) (x : Hs) (r : Int32), k6 a1 a2 a3 a4 a5 a6 x = some r → Ev 147 (0, 0) (6, [some (.ref 138), some (.int a1), some (.int a2), some (.int a3), some (.int a4), some (.int a5), some (.int a6)], []) (hp N x) (cvPi N x r)) (a1 : Int32) (a2 : Int32) (a3 : Int32) (a4 : Int32) (a6 : Int32) (s0 : Int32) (x : Hs) (r : Int32) (h : gm147_87 k6 a1 a2 a3 a4 a6 s0 x = some r) : Ev 147 (0, 0) (87, [some (.ref 138), some (.int a1), some (.int a2), some (.int a3), some (.int a4), none, some (.int a6)], [.int s0]) (hp N x) (cvPi N x r) := by
  unfold gm147_87 at h
  refine ev_run (n := 3) (u' := (0, 0)) (f' := (6, [some (.ref 138), some (.int a1), some (.int a2), some (.int a3), some (.int a4), some (.int s0), some (.int (a6 + 1))], [])) (h' := hp N x) rfl ?_
  exact q6 a1 a2 a3 a4 s0 (a6 + 1) x _ h
def gm147_82 (k6 : Int32 → Int32 → Int32 → Int32 → Int32 → Int32 → Hs → Option (Int32)) (a1 : Int32) (a2 : Int32) (a3 : Int32) (a4 : Int32) (a6 : Int32) (x : Hs) : Option (Int32) := gm147_87 k6 a1 a2 a3 a4 a6 1 x
theorem em147_82 {N : Nat} (k6 : Int32 → Int32 → Int32 → Int32 → Int32 → Int32 → Hs → Option (Int32)) (q6 : ∀ (a1 : Int32) (a2 : Int32) (a3 : Int32) (a4 : Int32) (a5 : Int32) (a6 : Int32) (x : Hs) (r : Int32), k6 a1 a2 a3 a4 a5 a6 x = some r → Ev 147 (0, 0) (6, [some (.ref 138), some (.int a1), some (.int a2), some (.int a3), some (.int a4), some (.int a5), some (.int a6)], []) (hp N x) (cvPi N x r)) (a1 : Int32) (a2 : Int32) (a3 : Int32) (a4 : Int32) (a6 : Int32) (x : Hs) (r : Int32) (h : gm147_82 k6 a1 a2 a3 a4 a6 x = some r) : Ev 147 (0, 0) (82, [some (.ref 138), some (.int a1), some (.int a2), some (.int a3), some (.int a4), none, some (.int a6)], []) (hp N x) (cvPi N x r) := by
  unfold gm147_82 at h
  refine ev_run (n := 2) (u' := (0, 0)) (f' := (87, [some (.ref 138), some (.int a1), some (.int a2), some (.int a3), some (.int a4), none, some (.int a6)], [.int 1])) (h' := hp N x) rfl ?_
  exact em147_87 k6 q6 a1 a2 a3 a4 a6 1 x _ h
theorem em147_82_k1 {N : Nat} (k6 : Int32 → Int32 → Int32 → Int32 → Int32 → Int32 → Hs → Option (Int32)) (q6 : ∀ (a1 : Int32) (a2 : Int32) (a3 : Int32) (a4 : Int32) (a5 : Int32) (a6 : Int32) (x : Hs) (r : Int32), k6 a1 a2 a3 a4 a5 a6 x = some r → Ev 147 (0, 0) (6, [some (.ref 138), some (.int a1), some (.int a2), some (.int a3), some (.int a4), some (.int a5), some (.int a6)], []) (hp N x) (cvPi N x r)) (a1 : Int32) (a2 : Int32) (a3 : Int32) (a4 : Int32) (a5 : Int32) (a6 : Int32) (x : Hs) (r : Int32) (h : gm147_82 k6 a1 a2 a3 a4 a6 x = some r) : Ev 147 (0, 0) (82, [some (.ref 138), some (.int a1), some (.int a2), some (.int a3), some (.int a4), some (.int a5), some (.int a6)], []) (hp N x) (cvPi N x r) := by
  unfold gm147_82 at h
  refine ev_run (n := 2) (u' := (0, 0)) (f' := (87, [some (.ref 138), some (.int a1), some (.int a2), some (.int a3), some (.int a4), none, some (.int a6)], [.int 1])) (h' := hp N x) rfl ?_
  exact em147_87 k6 q6 a1 a2 a3 a4 a6 1 x _ h
def gm147_86 (k6 : Int32 → Int32 → Int32 → Int32 → Int32 → Int32 → Hs → Option (Int32)) (a1 : Int32) (a2 : Int32) (a3 : Int32) (a4 : Int32) (a6 : Int32) (x : Hs) : Option (Int32) := gm147_87 k6 a1 a2 a3 a4 a6 0 x
theorem em147_86 {N : Nat} (k6 : Int32 → Int32 → Int32 → Int32 → Int32 → Int32 → Hs → Option (Int32)) (q6 : ∀ (a1 : Int32) (a2 : Int32) (a3 : Int32) (a4 : Int32) (a5 : Int32) (a6 : Int32) (x : Hs) (r : Int32), k6 a1 a2 a3 a4 a5 a6 x = some r → Ev 147 (0, 0) (6, [some (.ref 138), some (.int a1), some (.int a2), some (.int a3), some (.int a4), some (.int a5), some (.int a6)], []) (hp N x) (cvPi N x r)) (a1 : Int32) (a2 : Int32) (a3 : Int32) (a4 : Int32) (a6 : Int32) (x : Hs) (r : Int32) (h : gm147_86 k6 a1 a2 a3 a4 a6 x = some r) : Ev 147 (0, 0) (86, [some (.ref 138), some (.int a1), some (.int a2), some (.int a3), some (.int a4), none, some (.int a6)], []) (hp N x) (cvPi N x r) := by
  unfold gm147_86 at h
  refine ev_run (n := 1) (u' := (0, 0)) (f' := (87, [some (.ref 138), some (.int a1), some (.int a2), some (.int a3), some (.int a4), none, some (.int a6)], [.int 0])) (h' := hp N x) rfl ?_
  exact em147_87 k6 q6 a1 a2 a3 a4 a6 0 x _ h
def gm147_6 : Nat → Int32 → Int32 → Int32 → Int32 → Int32 → Int32 → Hs → Option (Int32)
  | 0, _, _, _, _, _, _, _ => none
  | n + 1, a1, a2, a3, a4, a5, a6, x => if a6 ≥ x.1 138 31 then (cond (aBit a5) (some a5) none) else (if a5 = 0 then (if a6 = a4 then (gm147_86 (gm147_6 n) a1 a2 a3 a4 a6 x) else (cond (aIn a6 12) (if x.1 166 (xi a6) = a1 then (cond (aIn a6 12) (if x.1 167 (xi a6) ≥ a3 then (gm147_86 (gm147_6 n) a1 a2 a3 a4 a6 x) else (cond (aIn a6 12) (if a2 ≥ x.1 168 (xi a6) then (gm147_86 (gm147_6 n) a1 a2 a3 a4 a6 x) else (cond (aIn a6 12) (cond (aIn a6 12) (if x.1 167 (xi a6) ≥ x.1 168 (xi a6) then (gm147_86 (gm147_6 n) a1 a2 a3 a4 a6 x) else (if a2 ≥ a3 then (gm147_86 (gm147_6 n) a1 a2 a3 a4 a6 x) else (gm147_82 (gm147_6 n) a1 a2 a3 a4 a6 x))) none) none)) none)) none) else (gm147_86 (gm147_6 n) a1 a2 a3 a4 a6 x)) none)) else (gm147_82 (gm147_6 n) a1 a2 a3 a4 a6 x))
theorem em147_6 {N : Nat} : ∀ (n : Nat) (a1 : Int32) (a2 : Int32) (a3 : Int32) (a4 : Int32) (a5 : Int32) (a6 : Int32) (x : Hs) (r : Int32), gm147_6 n a1 a2 a3 a4 a5 a6 x = some r → Ev 147 (0, 0) (6, [some (.ref 138), some (.int a1), some (.int a2), some (.int a3), some (.int a4), some (.int a5), some (.int a6)], []) (hp N x) (cvPi N x r)
  | 0, a1, a2, a3, a4, a5, a6, x, r, h => by
    have e9 : (none : Option (Int32)) = some r := h
    cases e9
  | n + 1, a1, a2, a3, a4, a5, a6, x, r, h => by
    have q6 := em147_6 (N := N) n
    rw [gm147_6] at h
    refine ev_run (n := 3) (u' := (0, 0)) (f' := (12, [some (.ref 138), some (.int a1), some (.int a2), some (.int a3), some (.int a4), some (.int a5), some (.int a6)], [.int (x.1 138 31), .int a6])) (h' := hp N x) rfl ?_
    rcases ite_or h with ⟨h14, h⟩ | ⟨h14, h⟩
    · refine ev_ict rfl (decide_eq_true h14) ?_
      refine ev_run (n := 1) (u' := (0, 0)) (f' := (97, [none, none, none, none, none, some (.int a5), none], [.int a5])) (h' := hp N x) rfl ?_
      obtain ⟨h1, h⟩ := cond_some h
      cases h
      exact ev_iret rfl rfl rfl (Or.inr ⟨rfl, h1⟩)
    · refine ev_icf rfl (decide_eq_false h14) ?_
      refine ev_run (n := 1) (u' := (0, 0)) (f' := (17, [some (.ref 138), some (.int a1), some (.int a2), some (.int a3), some (.int a4), some (.int a5), some (.int a6)], [.int a5])) (h' := hp N x) rfl ?_
      rcases ite_or h with ⟨h13, h⟩ | ⟨h13, h⟩
      · refine ev_iff rfl (decide_eq_false (fun w => w h13)) ?_
        refine ev_run (n := 2) (u' := (0, 0)) (f' := (24, [some (.ref 138), some (.int a1), some (.int a2), some (.int a3), some (.int a4), some (.int a5), some (.int a6)], [.int a4, .int a6])) (h' := hp N x) rfl ?_
        rcases ite_or h with ⟨h12, h⟩ | ⟨h12, h⟩
        · refine ev_ict rfl (decide_eq_true h12) ?_
          exact em147_86 (gm147_6 n) q6 a1 a2 a3 a4 a6 x _ h
        · refine ev_icf rfl (decide_eq_false h12) ?_
          refine ev_run (n := 3) (u' := (0, 0)) (f' := (33, [some (.ref 138), some (.int a1), some (.int a2), some (.int a3), some (.int a4), some (.int a5), some (.int a6)], [.int a6, .ref 166])) (h' := hp N x) rfl ?_
          obtain ⟨h2, h⟩ := cond_some h
          refine ev_iald rfl rfl h2 ?_
          refine ev_run (n := 1) (u' := (0, 0)) (f' := (35, [some (.ref 138), some (.int a1), some (.int a2), some (.int a3), some (.int a4), some (.int a5), some (.int a6)], [.int a1, .int (x.1 166 (xi a6))])) (h' := hp N x) rfl ?_
          rcases ite_or h with ⟨h11, h⟩ | ⟨h11, h⟩
          · refine ev_icf rfl (decide_eq_false (fun w => w h11)) ?_
            refine ev_run (n := 3) (u' := (0, 0)) (f' := (44, [some (.ref 138), some (.int a1), some (.int a2), some (.int a3), some (.int a4), some (.int a5), some (.int a6)], [.int a6, .ref 167])) (h' := hp N x) rfl ?_
            obtain ⟨h3, h⟩ := cond_some h
            refine ev_iald rfl rfl h3 ?_
            refine ev_run (n := 1) (u' := (0, 0)) (f' := (46, [some (.ref 138), some (.int a1), some (.int a2), some (.int a3), some (.int a4), some (.int a5), some (.int a6)], [.int a3, .int (x.1 167 (xi a6))])) (h' := hp N x) rfl ?_
            rcases ite_or h with ⟨h10, h⟩ | ⟨h10, h⟩
            · refine ev_ict rfl (decide_eq_true h10) ?_
              exact em147_86 (gm147_6 n) q6 a1 a2 a3 a4 a6 x _ h
            · refine ev_icf rfl (decide_eq_false h10) ?_
              refine ev_run (n := 4) (u' := (0, 0)) (f' := (56, [some (.ref 138), some (.int a1), some (.int a2), some (.int a3), some (.int a4), some (.int a5), some (.int a6)], [.int a6, .ref 168, .int a2])) (h' := hp N x) rfl ?_
              obtain ⟨h4, h⟩ := cond_some h
              refine ev_iald rfl rfl h4 ?_
              rcases ite_or h with ⟨h9, h⟩ | ⟨h9, h⟩
              · refine ev_ict rfl (decide_eq_true h9) ?_
                exact em147_86 (gm147_6 n) q6 a1 a2 a3 a4 a6 x _ h
              · refine ev_icf rfl (decide_eq_false h9) ?_
                refine ev_run (n := 3) (u' := (0, 0)) (f' := (66, [some (.ref 138), some (.int a1), some (.int a2), some (.int a3), some (.int a4), some (.int a5), some (.int a6)], [.int a6, .ref 167])) (h' := hp N x) rfl ?_
                obtain ⟨h5, h⟩ := cond_some h
                refine ev_iald rfl rfl h5 ?_
                refine ev_run (n := 3) (u' := (0, 0)) (f' := (73, [some (.ref 138), some (.int a1), some (.int a2), some (.int a3), some (.int a4), some (.int a5), some (.int a6)], [.int a6, .ref 168, .int (x.1 167 (xi a6))])) (h' := hp N x) rfl ?_
                obtain ⟨h6, h⟩ := cond_some h
                refine ev_iald rfl rfl h6 ?_
                rcases ite_or h with ⟨h8, h⟩ | ⟨h8, h⟩
                · refine ev_ict rfl (decide_eq_true h8) ?_
                  exact em147_86 (gm147_6 n) q6 a1 a2 a3 a4 a6 x _ h
                · refine ev_icf rfl (decide_eq_false h8) ?_
                  refine ev_run (n := 2) (u' := (0, 0)) (f' := (79, [some (.ref 138), some (.int a1), some (.int a2), some (.int a3), some (.int a4), some (.int a5), some (.int a6)], [.int a3, .int a2])) (h' := hp N x) rfl ?_
                  rcases ite_or h with ⟨h7, h⟩ | ⟨h7, h⟩
                  · refine ev_ict rfl (decide_eq_true h7) ?_
                    exact em147_86 (gm147_6 n) q6 a1 a2 a3 a4 a6 x _ h
                  · refine ev_icf rfl (decide_eq_false h7) ?_
                    exact em147_82_k1 (gm147_6 n) q6 a1 a2 a3 a4 a5 a6 x _ h
          · refine ev_ict rfl (decide_eq_true h11) ?_
            exact em147_86 (gm147_6 n) q6 a1 a2 a3 a4 a6 x _ h
      · refine ev_ift rfl (decide_eq_true h13) ?_
        exact em147_82 (gm147_6 n) q6 a1 a2 a3 a4 a6 x _ h
def gm147 (a1 : Int32) (a2 : Int32) (a3 : Int32) (a4 : Int32) (x : Hs) : Option (Int32) := gm147_6 FU a1 a2 a3 a4 0 0 x
theorem em147 {N : Nat} (a1 : Int32) (a2 : Int32) (a3 : Int32) (a4 : Int32) (x : Hs) (r : Int32) (h : gm147 a1 a2 a3 a4 x = some r) : Ev 147 (0, 0) (0, aPad [.ref 138, .int a1, .int a2, .int a3, .int a4] 7, []) (hp N x) (cvPi N x r) := by
  show Ev 147 (0, 0) (0, [some (.ref 138), some (.int a1), some (.int a2), some (.int a3), some (.int a4), none, none], []) (hp N x) _
  unfold gm147 at h
  refine ev_run (n := 4) (u' := (0, 0)) (f' := (6, [some (.ref 138), some (.int a1), some (.int a2), some (.int a3), some (.int a4), some (.int 0), some (.int 0)], [])) (h' := hp N x) rfl ?_
  exact em147_6 FU a1 a2 a3 a4 0 0 x _ h
def gm148_94 (a1 : Int32) (a2 : Int32) (a3 : Int32) (a4 : Int32) (s1 : Int32) (x : Hs) : Option (Int32 × Hs) := (gm113 s1 x).bind fun w18 => (if w18.1 = 0 then (cond (aIn (w18.2.1 138 31) 12) (cond (aIn ((wI w18.2 166 (xi (w18.2.1 138 31)) a1).1 138 31) 12) (cond (aIn ((wI (wI w18.2 166 (xi (w18.2.1 138 31)) a1) 167 (xi ((wI w18.2 166 (xi (w18.2.1 138 31)) a1).1 138 31)) a2).1 138 31) 12) (cond (aIn ((wI (wI (wI w18.2 166 (xi (w18.2.1 138 31)) a1) 167 (xi ((wI w18.2 166 (xi (w18.2.1 138 31)) a1).1 138 31)) a2) 168 (xi ((wI (wI w18.2 166 (xi (w18.2.1 138 31)) a1) 167 (xi ((wI w18.2 166 (xi (w18.2.1 138 31)) a1).1 138 31)) a2).1 138 31)) a3).1 138 31) 12) (some (((wI (wI (wI (wI (wI w18.2 166 (xi (w18.2.1 138 31)) a1) 167 (xi ((wI w18.2 166 (xi (w18.2.1 138 31)) a1).1 138 31)) a2) 168 (xi ((wI (wI w18.2 166 (xi (w18.2.1 138 31)) a1) 167 (xi ((wI w18.2 166 (xi (w18.2.1 138 31)) a1).1 138 31)) a2).1 138 31)) a3) 169 (xi ((wI (wI (wI w18.2 166 (xi (w18.2.1 138 31)) a1) 167 (xi ((wI w18.2 166 (xi (w18.2.1 138 31)) a1).1 138 31)) a2) 168 (xi ((wI (wI w18.2 166 (xi (w18.2.1 138 31)) a1) 167 (xi ((wI w18.2 166 (xi (w18.2.1 138 31)) a1).1 138 31)) a2).1 138 31)) a3).1 138 31)) a4) 138 31 ((wI (wI (wI (wI w18.2 166 (xi (w18.2.1 138 31)) a1) 167 (xi ((wI w18.2 166 (xi (w18.2.1 138 31)) a1).1 138 31)) a2) 168 (xi ((wI (wI w18.2 166 (xi (w18.2.1 138 31)) a1) 167 (xi ((wI w18.2 166 (xi (w18.2.1 138 31)) a1).1 138 31)) a2).1 138 31)) a3) 169 (xi ((wI (wI (wI w18.2 166 (xi (w18.2.1 138 31)) a1) 167 (xi ((wI w18.2 166 (xi (w18.2.1 138 31)) a1).1 138 31)) a2) 168 (xi ((wI (wI w18.2 166 (xi (w18.2.1 138 31)) a1) 167 (xi ((wI w18.2 166 (xi (w18.2.1 138 31)) a1).1 138 31)) a2).1 138 31)) a3).1 138 31)) a4).1 138 31 + 1)).1 138 31 - 1), (wI (wI (wI (wI (wI w18.2 166 (xi (w18.2.1 138 31)) a1) 167 (xi ((wI w18.2 166 (xi (w18.2.1 138 31)) a1).1 138 31)) a2) 168 (xi ((wI (wI w18.2 166 (xi (w18.2.1 138 31)) a1) 167 (xi ((wI w18.2 166 (xi (w18.2.1 138 31)) a1).1 138 31)) a2).1 138 31)) a3) 169 (xi ((wI (wI (wI w18.2 166 (xi (w18.2.1 138 31)) a1) 167 (xi ((wI w18.2 166 (xi (w18.2.1 138 31)) a1).1 138 31)) a2) 168 (xi ((wI (wI w18.2 166 (xi (w18.2.1 138 31)) a1) 167 (xi ((wI w18.2 166 (xi (w18.2.1 138 31)) a1).1 138 31)) a2).1 138 31)) a3).1 138 31)) a4) 138 31 ((wI (wI (wI (wI w18.2 166 (xi (w18.2.1 138 31)) a1) 167 (xi ((wI w18.2 166 (xi (w18.2.1 138 31)) a1).1 138 31)) a2) 168 (xi ((wI (wI w18.2 166 (xi (w18.2.1 138 31)) a1) 167 (xi ((wI w18.2 166 (xi (w18.2.1 138 31)) a1).1 138 31)) a2).1 138 31)) a3) 169 (xi ((wI (wI (wI w18.2 166 (xi (w18.2.1 138 31)) a1) 167 (xi ((wI w18.2 166 (xi (w18.2.1 138 31)) a1).1 138 31)) a2) 168 (xi ((wI (wI w18.2 166 (xi (w18.2.1 138 31)) a1) 167 (xi ((wI w18.2 166 (xi (w18.2.1 138 31)) a1).1 138 31)) a2).1 138 31)) a3).1 138 31)) a4).1 138 31 + 1)))) none) none) none) none) else (some (0, w18.2)))
theorem em148_94 {N : Nat} (a1 : Int32) (a2 : Int32) (a3 : Int32) (a4 : Int32) (s1 : Int32) (x : Hs) (r : Int32 × Hs) (h : gm148_94 a1 a2 a3 a4 s1 x = some r) : Ev 148 (0, 0) (94, [some (.ref 138), some (.int a1), some (.int a2), some (.int a3), some (.int a4), none, none], [.int s1, .ref 138]) (hp N x) (cvMi N r) := by
  unfold gm148_94 at h
  obtain ⟨w18, h19, h⟩ := bind_ok h
  refine ev_call (v := some (.int w18.1)) (h1 := hp N w18.2) rfl rfl rfl rfl (em113 s1 x _ h19) ?_
  show Ev 148 (0, 0) (97, [some (.ref 138), some (.int a1), some (.int a2), some (.int a3), some (.int a4), none, none], [.int w18.1]) (hp N w18.2) _
  rcases ite_or h with ⟨h24, h⟩ | ⟨h24, h⟩
  · refine ev_ift rfl (decide_eq_true h24) ?_
    refine ev_run (n := 5) (u' := (0, 0)) (f' := (111, [some (.ref 138), some (.int a1), some (.int a2), some (.int a3), some (.int a4), none, none], [.int a1, .int (w18.2.1 138 31), .ref 166])) (h' := hp N w18.2) rfl ?_
    obtain ⟨h20, h⟩ := cond_some h
    refine ev_iast rfl rfl h20 ?_
    show Ev 148 (0, 0) (112, [some (.ref 138), some (.int a1), some (.int a2), some (.int a3), some (.int a4), none, none], []) (hp N (wI w18.2 166 (xi (w18.2.1 138 31)) a1)) _
    refine ev_run (n := 5) (u' := (0, 0)) (f' := (121, [some (.ref 138), some (.int a1), some (.int a2), some (.int a3), some (.int a4), none, none], [.int a2, .int ((wI w18.2 166 (xi (w18.2.1 138 31)) a1).1 138 31), .ref 167])) (h' := hp N (wI w18.2 166 (xi (w18.2.1 138 31)) a1)) rfl ?_
    obtain ⟨h21, h⟩ := cond_some h
    refine ev_iast rfl rfl h21 ?_
    show Ev 148 (0, 0) (122, [some (.ref 138), some (.int a1), some (.int a2), some (.int a3), some (.int a4), none, none], []) (hp N (wI (wI w18.2 166 (xi (w18.2.1 138 31)) a1) 167 (xi ((wI w18.2 166 (xi (w18.2.1 138 31)) a1).1 138 31)) a2)) _
    refine ev_run (n := 5) (u' := (0, 0)) (f' := (131, [some (.ref 138), some (.int a1), some (.int a2), some (.int a3), some (.int a4), none, none], [.int a3, .int ((wI (wI w18.2 166 (xi (w18.2.1 138 31)) a1) 167 (xi ((wI w18.2 166 (xi (w18.2.1 138 31)) a1).1 138 31)) a2).1 138 31), .ref 168])) (h' := hp N (wI (wI w18.2 166 (xi (w18.2.1 138 31)) a1) 167 (xi ((wI w18.2 166 (xi (w18.2.1 138 31)) a1).1 138 31)) a2)) rfl ?_
    obtain ⟨h22, h⟩ := cond_some h
    refine ev_iast rfl rfl h22 ?_
    show Ev 148 (0, 0) (132, [some (.ref 138), some (.int a1), some (.int a2), some (.int a3), some (.int a4), none, none], []) (hp N (wI (wI (wI w18.2 166 (xi (w18.2.1 138 31)) a1) 167 (xi ((wI w18.2 166 (xi (w18.2.1 138 31)) a1).1 138 31)) a2) 168 (xi ((wI (wI w18.2 166 (xi (w18.2.1 138 31)) a1) 167 (xi ((wI w18.2 166 (xi (w18.2.1 138 31)) a1).1 138 31)) a2).1 138 31)) a3)) _
    refine ev_run (n := 5) (u' := (0, 0)) (f' := (142, [some (.ref 138), some (.int a1), some (.int a2), some (.int a3), some (.int a4), none, none], [.int a4, .int ((wI (wI (wI w18.2 166 (xi (w18.2.1 138 31)) a1) 167 (xi ((wI w18.2 166 (xi (w18.2.1 138 31)) a1).1 138 31)) a2) 168 (xi ((wI (wI w18.2 166 (xi (w18.2.1 138 31)) a1) 167 (xi ((wI w18.2 166 (xi (w18.2.1 138 31)) a1).1 138 31)) a2).1 138 31)) a3).1 138 31), .ref 169])) (h' := hp N (wI (wI (wI w18.2 166 (xi (w18.2.1 138 31)) a1) 167 (xi ((wI w18.2 166 (xi (w18.2.1 138 31)) a1).1 138 31)) a2) 168 (xi ((wI (wI w18.2 166 (xi (w18.2.1 138 31)) a1) 167 (xi ((wI w18.2 166 (xi (w18.2.1 138 31)) a1).1 138 31)) a2).1 138 31)) a3)) rfl ?_
    obtain ⟨h23, h⟩ := cond_some h
    refine ev_iast rfl rfl h23 ?_
    show Ev 148 (0, 0) (143, [some (.ref 138), some (.int a1), some (.int a2), some (.int a3), some (.int a4), none, none], []) (hp N (wI (wI (wI (wI w18.2 166 (xi (w18.2.1 138 31)) a1) 167 (xi ((wI w18.2 166 (xi (w18.2.1 138 31)) a1).1 138 31)) a2) 168 (xi ((wI (wI w18.2 166 (xi (w18.2.1 138 31)) a1) 167 (xi ((wI w18.2 166 (xi (w18.2.1 138 31)) a1).1 138 31)) a2).1 138 31)) a3) 169 (xi ((wI (wI (wI w18.2 166 (xi (w18.2.1 138 31)) a1) 167 (xi ((wI w18.2 166 (xi (w18.2.1 138 31)) a1).1 138 31)) a2) 168 (xi ((wI (wI w18.2 166 (xi (w18.2.1 138 31)) a1) 167 (xi ((wI w18.2 166 (xi (w18.2.1 138 31)) a1).1 138 31)) a2).1 138 31)) a3).1 138 31)) a4)) _
    refine ev_run (n := 10) (u' := (0, 0)) (f' := (159, [some (.ref 138), some (.int a1), some (.int a2), some (.int a3), some (.int a4), none, none], [.int ((wI (wI (wI (wI (wI w18.2 166 (xi (w18.2.1 138 31)) a1) 167 (xi ((wI w18.2 166 (xi (w18.2.1 138 31)) a1).1 138 31)) a2) 168 (xi ((wI (wI w18.2 166 (xi (w18.2.1 138 31)) a1) 167 (xi ((wI w18.2 166 (xi (w18.2.1 138 31)) a1).1 138 31)) a2).1 138 31)) a3) 169 (xi ((wI (wI (wI w18.2 166 (xi (w18.2.1 138 31)) a1) 167 (xi ((wI w18.2 166 (xi (w18.2.1 138 31)) a1).1 138 31)) a2) 168 (xi ((wI (wI w18.2 166 (xi (w18.2.1 138 31)) a1) 167 (xi ((wI w18.2 166 (xi (w18.2.1 138 31)) a1).1 138 31)) a2).1 138 31)) a3).1 138 31)) a4) 138 31 ((wI (wI (wI (wI w18.2 166 (xi (w18.2.1 138 31)) a1) 167 (xi ((wI w18.2 166 (xi (w18.2.1 138 31)) a1).1 138 31)) a2) 168 (xi ((wI (wI w18.2 166 (xi (w18.2.1 138 31)) a1) 167 (xi ((wI w18.2 166 (xi (w18.2.1 138 31)) a1).1 138 31)) a2).1 138 31)) a3) 169 (xi ((wI (wI (wI w18.2 166 (xi (w18.2.1 138 31)) a1) 167 (xi ((wI w18.2 166 (xi (w18.2.1 138 31)) a1).1 138 31)) a2) 168 (xi ((wI (wI w18.2 166 (xi (w18.2.1 138 31)) a1) 167 (xi ((wI w18.2 166 (xi (w18.2.1 138 31)) a1).1 138 31)) a2).1 138 31)) a3).1 138 31)) a4).1 138 31 + 1)).1 138 31 - 1)])) (h' := hp N (wI (wI (wI (wI (wI w18.2 166 (xi (w18.2.1 138 31)) a1) 167 (xi ((wI w18.2 166 (xi (w18.2.1 138 31)) a1).1 138 31)) a2) 168 (xi ((wI (wI w18.2 166 (xi (w18.2.1 138 31)) a1) 167 (xi ((wI w18.2 166 (xi (w18.2.1 138 31)) a1).1 138 31)) a2).1 138 31)) a3) 169 (xi ((wI (wI (wI w18.2 166 (xi (w18.2.1 138 31)) a1) 167 (xi ((wI w18.2 166 (xi (w18.2.1 138 31)) a1).1 138 31)) a2) 168 (xi ((wI (wI w18.2 166 (xi (w18.2.1 138 31)) a1) 167 (xi ((wI w18.2 166 (xi (w18.2.1 138 31)) a1).1 138 31)) a2).1 138 31)) a3).1 138 31)) a4) 138 31 ((wI (wI (wI (wI w18.2 166 (xi (w18.2.1 138 31)) a1) 167 (xi ((wI w18.2 166 (xi (w18.2.1 138 31)) a1).1 138 31)) a2) 168 (xi ((wI (wI w18.2 166 (xi (w18.2.1 138 31)) a1) 167 (xi ((wI w18.2 166 (xi (w18.2.1 138 31)) a1).1 138 31)) a2).1 138 31)) a3) 169 (xi ((wI (wI (wI w18.2 166 (xi (w18.2.1 138 31)) a1) 167 (xi ((wI w18.2 166 (xi (w18.2.1 138 31)) a1).1 138 31)) a2) 168 (xi ((wI (wI w18.2 166 (xi (w18.2.1 138 31)) a1) 167 (xi ((wI w18.2 166 (xi (w18.2.1 138 31)) a1).1 138 31)) a2).1 138 31)) a3).1 138 31)) a4).1 138 31 + 1))) rfl ?_
    cases h
    exact ev_iret rfl rfl rfl (Or.inl rfl)
  · refine ev_iff rfl (decide_eq_false h24) ?_
    refine ev_run (n := 1) (u' := (0, 0)) (f' := (101, [some (.ref 138), some (.int a1), some (.int a2), some (.int a3), some (.int a4), none, none], [.int 0])) (h' := hp N w18.2) rfl ?_
    cases h
    exact ev_iret rfl rfl rfl (Or.inl rfl)
