/-! The methods as functions; printed by dec.py -/
def gm175_4 : Nat → Int32 → Int32 → Hs → Option (Int32)
  | 0, _, _, _ => none
  | n + 1, a1, a2, x => if a2 ≥ x.1 138 1 then (cond (aBit a1) (some a1) none) else (gm175_14 (gm175_4 n) FU a1 a2 0 x)
theorem em175_4 {N : Nat} : ∀ (n : Nat) (a1 : Int32) (a2 : Int32) (x : Hs) (r : Int32), gm175_4 n a1 a2 x = some r → Ev 175 (0, 0) (4, [some (.ref 138), some (.int a1), some (.int a2), none], []) (hp N x) (cvPi N x r)
  | 0, a1, a2, x, r, h => by
    have e9 : (none : Option (Int32)) = some r := h
    cases e9
  | n + 1, a1, a2, x, r, h => by
    have q4 := em175_4 (N := N) n
    rw [gm175_4] at h
    refine ev_run (n := 3) (u' := (0, 0)) (f' := (9, [some (.ref 138), some (.int a1), some (.int a2), none], [.int (x.1 138 1), .int a2])) (h' := hp N x) rfl ?_
    rcases ite_or h with ⟨h2, h⟩ | ⟨h2, h⟩
    · refine ev_ict rfl (decide_eq_true h2) ?_
      refine ev_run (n := 1) (u' := (0, 0)) (f' := (97, [none, some (.int a1), none, none], [.int a1])) (h' := hp N x) rfl ?_
      obtain ⟨h1, h⟩ := cond_some h
      cases h
      exact ev_iret rfl rfl rfl (Or.inr ⟨rfl, h1⟩)
    · refine ev_icf rfl (decide_eq_false h2) ?_
      refine ev_run (n := 2) (u' := (0, 0)) (f' := (14, [some (.ref 138), some (.int a1), some (.int a2), some (.int 0)], [])) (h' := hp N x) rfl ?_
      exact em175_14 (gm175_4 n) q4 FU a1 a2 0 x _ h
def gm175 (x : Hs) : Option (Int32) := gm175_4 FU 1 0 x
theorem em175 {N : Nat} (x : Hs) (r : Int32) (h : gm175 x = some r) : Ev 175 (0, 0) (0, aPad [.ref 138] 4, []) (hp N x) (cvPi N x r) := by
  show Ev 175 (0, 0) (0, [some (.ref 138), none, none, none], []) (hp N x) _
  unfold gm175 at h
  refine ev_run (n := 4) (u' := (0, 0)) (f' := (4, [some (.ref 138), some (.int 1), some (.int 0), none], [])) (h' := hp N x) rfl ?_
  exact em175_4 FU 1 0 x _ h
def gm176_258 (k82 : Int32 → Int32 → Int32 → Hs → Option (Int32 × Hs)) (k126 : Int32 → Int32 → Int32 → Int32 → Int32 → Hs → Option (Int32 × Hs)) (a2 : Int32) (a3 : Int32) (a4 : Int32) (a5 : Int32) (a6 : Int32) (x : Hs) : Option (Int32 × Hs) := k126 a2 a3 a4 a5 (a6 + 1) x
theorem em176_258 {N : Nat} (k82 : Int32 → Int32 → Int32 → Hs → Option (Int32 × Hs)) (k126 : Int32 → Int32 → Int32 → Int32 → Int32 → Hs → Option (Int32 × Hs)) (q82 : ∀ (a2 : Int32) (a3 : Int32) (a4 : Int32) (x : Hs) (r : Int32 × Hs), k82 a2 a3 a4 x = some r → Ev 176 (0, 0) (82, [some (.ref 138), none, some (.int a2), some (.int a3), some (.int a4), none, none, none, none], []) (hp N x) (cvMi N r)) (q126 : ∀ (a2 : Int32) (a3 : Int32) (a4 : Int32) (a5 : Int32) (a6 : Int32) (x : Hs) (r : Int32 × Hs), k126 a2 a3 a4 a5 a6 x = some r → Ev 176 (0, 0) (126, [some (.ref 138), none, some (.int a2), some (.int a3), some (.int a4), some (.int a5), some (.int a6), none, none], []) (hp N x) (cvMi N r)) (a2 : Int32) (a3 : Int32) (a4 : Int32) (a5 : Int32) (a6 : Int32) (x : Hs) (r : Int32 × Hs) (h : gm176_258 k82 k126 a2 a3 a4 a5 a6 x = some r) : Ev 176 (0, 0) (258, [some (.ref 138), none, some (.int a2), some (.int a3), some (.int a4), some (.int a5), some (.int a6), none, none], []) (hp N x) (cvMi N r) := by
  unfold gm176_258 at h
  refine ev_run (n := 2) (u' := (0, 0)) (f' := (126, [some (.ref 138), none, some (.int a2), some (.int a3), some (.int a4), some (.int a5), some (.int (a6 + 1)), none, none], [])) (h' := hp N x) rfl ?_
  exact q126 a2 a3 a4 a5 (a6 + 1) x _ h
theorem em176_258_k1 {N : Nat} (k82 : Int32 → Int32 → Int32 → Hs → Option (Int32 × Hs)) (k126 : Int32 → Int32 → Int32 → Int32 → Int32 → Hs → Option (Int32 × Hs)) (q82 : ∀ (a2 : Int32) (a3 : Int32) (a4 : Int32) (x : Hs) (r : Int32 × Hs), k82 a2 a3 a4 x = some r → Ev 176 (0, 0) (82, [some (.ref 138), none, some (.int a2), some (.int a3), some (.int a4), none, none, none, none], []) (hp N x) (cvMi N r)) (q126 : ∀ (a2 : Int32) (a3 : Int32) (a4 : Int32) (a5 : Int32) (a6 : Int32) (x : Hs) (r : Int32 × Hs), k126 a2 a3 a4 a5 a6 x = some r → Ev 176 (0, 0) (126, [some (.ref 138), none, some (.int a2), some (.int a3), some (.int a4), some (.int a5), some (.int a6), none, none], []) (hp N x) (cvMi N r)) (a2 : Int32) (a3 : Int32) (a4 : Int32) (a5 : Int32) (a6 : Int32) (a7 : Int32) (x : Hs) (r : Int32 × Hs) (h : gm176_258 k82 k126 a2 a3 a4 a5 a6 x = some r) : Ev 176 (0, 0) (258, [some (.ref 138), none, some (.int a2), some (.int a3), some (.int a4), some (.int a5), some (.int a6), some (.int a7), none], []) (hp N x) (cvMi N r) := by
  unfold gm176_258 at h
  refine ev_run (n := 2) (u' := (0, 0)) (f' := (126, [some (.ref 138), none, some (.int a2), some (.int a3), some (.int a4), some (.int a5), some (.int (a6 + 1)), none, none], [])) (h' := hp N x) rfl ?_
  exact q126 a2 a3 a4 a5 (a6 + 1) x _ h
theorem em176_258_k2 {N : Nat} (k82 : Int32 → Int32 → Int32 → Hs → Option (Int32 × Hs)) (k126 : Int32 → Int32 → Int32 → Int32 → Int32 → Hs → Option (Int32 × Hs)) (q82 : ∀ (a2 : Int32) (a3 : Int32) (a4 : Int32) (x : Hs) (r : Int32 × Hs), k82 a2 a3 a4 x = some r → Ev 176 (0, 0) (82, [some (.ref 138), none, some (.int a2), some (.int a3), some (.int a4), none, none, none, none], []) (hp N x) (cvMi N r)) (q126 : ∀ (a2 : Int32) (a3 : Int32) (a4 : Int32) (a5 : Int32) (a6 : Int32) (x : Hs) (r : Int32 × Hs), k126 a2 a3 a4 a5 a6 x = some r → Ev 176 (0, 0) (126, [some (.ref 138), none, some (.int a2), some (.int a3), some (.int a4), some (.int a5), some (.int a6), none, none], []) (hp N x) (cvMi N r)) (a2 : Int32) (a3 : Int32) (a4 : Int32) (a5 : Int32) (a6 : Int32) (a7 : Int32) (a8 : Int32) (x : Hs) (r : Int32 × Hs) (h : gm176_258 k82 k126 a2 a3 a4 a5 a6 x = some r) : Ev 176 (0, 0) (258, [some (.ref 138), none, some (.int a2), some (.int a3), some (.int a4), some (.int a5), some (.int a6), some (.int a7), some (.int a8)], []) (hp N x) (cvMi N r) := by
  unfold gm176_258 at h
  refine ev_run (n := 2) (u' := (0, 0)) (f' := (126, [some (.ref 138), none, some (.int a2), some (.int a3), some (.int a4), some (.int a5), some (.int (a6 + 1)), none, none], [])) (h' := hp N x) rfl ?_
  exact q126 a2 a3 a4 a5 (a6 + 1) x _ h
def gm176_244 (k82 : Int32 → Int32 → Int32 → Hs → Option (Int32 × Hs)) (k126 : Int32 → Int32 → Int32 → Int32 → Int32 → Hs → Option (Int32 × Hs)) (a2 : Int32) (a3 : Int32) (a4 : Int32) (a5 : Int32) (a6 : Int32) (a7 : Int32) (x : Hs) : Option (Int32 × Hs) := cond (aIn a6 24) (cond (aIn (x.1 140 (xi a6)) 5) (gm176_258 k82 k126 a2 a3 a4 a5 a6 (wI x 186 (xi (x.1 140 (xi a6))) a7)) none) none
theorem em176_244 {N : Nat} (k82 : Int32 → Int32 → Int32 → Hs → Option (Int32 × Hs)) (k126 : Int32 → Int32 → Int32 → Int32 → Int32 → Hs → Option (Int32 × Hs)) (q82 : ∀ (a2 : Int32) (a3 : Int32) (a4 : Int32) (x : Hs) (r : Int32 × Hs), k82 a2 a3 a4 x = some r → Ev 176 (0, 0) (82, [some (.ref 138), none, some (.int a2), some (.int a3), some (.int a4), none, none, none, none], []) (hp N x) (cvMi N r)) (q126 : ∀ (a2 : Int32) (a3 : Int32) (a4 : Int32) (a5 : Int32) (a6 : Int32) (x : Hs) (r : Int32 × Hs), k126 a2 a3 a4 a5 a6 x = some r → Ev 176 (0, 0) (126, [some (.ref 138), none, some (.int a2), some (.int a3), some (.int a4), some (.int a5), some (.int a6), none, none], []) (hp N x) (cvMi N r)) (a2 : Int32) (a3 : Int32) (a4 : Int32) (a5 : Int32) (a6 : Int32) (a7 : Int32) (x : Hs) (r : Int32 × Hs) (h : gm176_244 k82 k126 a2 a3 a4 a5 a6 a7 x = some r) : Ev 176 (0, 0) (244, [some (.ref 138), none, some (.int a2), some (.int a3), some (.int a4), some (.int a5), some (.int a6), some (.int a7), none], []) (hp N x) (cvMi N r) := by
  unfold gm176_244 at h
  refine ev_run (n := 5) (u' := (0, 0)) (f' := (254, [some (.ref 138), none, some (.int a2), some (.int a3), some (.int a4), some (.int a5), some (.int a6), some (.int a7), none], [.int a6, .ref 140, .ref 186])) (h' := hp N x) rfl ?_
  obtain ⟨h39, h⟩ := cond_some h
  refine ev_iald rfl rfl h39 ?_
  refine ev_run (n := 1) (u' := (0, 0)) (f' := (257, [some (.ref 138), none, some (.int a2), some (.int a3), some (.int a4), some (.int a5), some (.int a6), some (.int a7), none], [.int a7, .int (x.1 140 (xi a6)), .ref 186])) (h' := hp N x) rfl ?_
  obtain ⟨h40, h⟩ := cond_some h
  refine ev_iast rfl rfl h40 ?_
  show Ev 176 (0, 0) (258, [some (.ref 138), none, some (.int a2), some (.int a3), some (.int a4), some (.int a5), some (.int a6), some (.int a7), none], []) (hp N (wI x 186 (xi (x.1 140 (xi a6))) a7)) _
  exact em176_258_k1 k82 k126 q82 q126 a2 a3 a4 a5 a6 a7 (wI x 186 (xi (x.1 140 (xi a6))) a7) _ h
theorem em176_244_k1 {N : Nat} (k82 : Int32 → Int32 → Int32 → Hs → Option (Int32 × Hs)) (k126 : Int32 → Int32 → Int32 → Int32 → Int32 → Hs → Option (Int32 × Hs)) (q82 : ∀ (a2 : Int32) (a3 : Int32) (a4 : Int32) (x : Hs) (r : Int32 × Hs), k82 a2 a3 a4 x = some r → Ev 176 (0, 0) (82, [some (.ref 138), none, some (.int a2), some (.int a3), some (.int a4), none, none, none, none], []) (hp N x) (cvMi N r)) (q126 : ∀ (a2 : Int32) (a3 : Int32) (a4 : Int32) (a5 : Int32) (a6 : Int32) (x : Hs) (r : Int32 × Hs), k126 a2 a3 a4 a5 a6 x = some r → Ev 176 (0, 0) (126, [some (.ref 138), none, some (.int a2), some (.int a3), some (.int a4), some (.int a5), some (.int a6), none, none], []) (hp N x) (cvMi N r)) (a2 : Int32) (a3 : Int32) (a4 : Int32) (a5 : Int32) (a6 : Int32) (a7 : Int32) (a8 : Int32) (x : Hs) (r : Int32 × Hs) (h : gm176_244 k82 k126 a2 a3 a4 a5 a6 a7 x = some r) : Ev 176 (0, 0) (244, [some (.ref 138), none, some (.int a2), some (.int a3), some (.int a4), some (.int a5), some (.int a6), some (.int a7), some (.int a8)], []) (hp N x) (cvMi N r) := by
  unfold gm176_244 at h
  refine ev_run (n := 5) (u' := (0, 0)) (f' := (254, [some (.ref 138), none, some (.int a2), some (.int a3), some (.int a4), some (.int a5), some (.int a6), some (.int a7), some (.int a8)], [.int a6, .ref 140, .ref 186])) (h' := hp N x) rfl ?_
  obtain ⟨h41, h⟩ := cond_some h
  refine ev_iald rfl rfl h41 ?_
  refine ev_run (n := 1) (u' := (0, 0)) (f' := (257, [some (.ref 138), none, some (.int a2), some (.int a3), some (.int a4), some (.int a5), some (.int a6), some (.int a7), some (.int a8)], [.int a7, .int (x.1 140 (xi a6)), .ref 186])) (h' := hp N x) rfl ?_
  obtain ⟨h42, h⟩ := cond_some h
  refine ev_iast rfl rfl h42 ?_
  show Ev 176 (0, 0) (258, [some (.ref 138), none, some (.int a2), some (.int a3), some (.int a4), some (.int a5), some (.int a6), some (.int a7), some (.int a8)], []) (hp N (wI x 186 (xi (x.1 140 (xi a6))) a7)) _
  exact em176_258_k2 k82 k126 q82 q126 a2 a3 a4 a5 a6 a7 a8 (wI x 186 (xi (x.1 140 (xi a6))) a7) _ h
def gm176_264 (k82 : Int32 → Int32 → Int32 → Hs → Option (Int32 × Hs)) (a2 : Int32) (a3 : Int32) (a4 : Int32) (x : Hs) : Option (Int32 × Hs) := k82 a2 a3 a4 x
theorem em176_264 {N : Nat} (k82 : Int32 → Int32 → Int32 → Hs → Option (Int32 × Hs)) (q82 : ∀ (a2 : Int32) (a3 : Int32) (a4 : Int32) (x : Hs) (r : Int32 × Hs), k82 a2 a3 a4 x = some r → Ev 176 (0, 0) (82, [some (.ref 138), none, some (.int a2), some (.int a3), some (.int a4), none, none, none, none], []) (hp N x) (cvMi N r)) (a2 : Int32) (a3 : Int32) (a4 : Int32) (x : Hs) (r : Int32 × Hs) (h : gm176_264 k82 a2 a3 a4 x = some r) : Ev 176 (0, 0) (264, [some (.ref 138), none, some (.int a2), some (.int a3), some (.int a4), none, none, none, none], []) (hp N x) (cvMi N r) := by
  unfold gm176_264 at h
  refine ev_run (n := 1) (u' := (0, 0)) (f' := (82, [some (.ref 138), none, some (.int a2), some (.int a3), some (.int a4), none, none, none, none], [])) (h' := hp N x) rfl ?_
  exact q82 a2 a3 a4 x _ h
def gm176_126 (k82 : Int32 → Int32 → Int32 → Hs → Option (Int32 × Hs)) : Nat → Int32 → Int32 → Int32 → Int32 → Int32 → Hs → Option (Int32 × Hs)
  | 0, _, _, _, _, _, _ => none
  | n + 1, a2, a3, a4, a5, a6, x => if a6 ≥ x.1 138 3 then (gm176_264 k82 a2 a3 a4 x) else (cond (aIn a6 24) (cond (aIn (x.1 140 (xi a6)) 5) (if x.1 186 (xi (x.1 140 (xi a6))) = a6 then (gm176_258 k82 (gm176_126 k82 n) a2 a3 a4 a5 a6 x) else (cond (aIn a6 24) (if x.1 145 (xi a6) = 0 then ((gm130 a6 x).bind fun w21 => (if w21 = 0 then (gm176_258 k82 (gm176_126 k82 n) a2 a3 a4 a5 a6 x) else (cond (aIn a6 24) (cond (aIn (x.1 140 (xi a6)) 5) ((gm173 (wI x 186 (xi (x.1 140 (xi a6))) a6)).bind fun w25 => (cond (aIn w25 8192) (if (wI x 186 (xi (x.1 140 (xi a6))) a6).1 183 (xi w25) = (-2) then ((gm175 (wI x 186 (xi (x.1 140 (xi a6))) a6)).bind fun w28 => (if w28 = 0 then (gm176_244 k82 (gm176_126 k82 n) a2 a3 a4 a5 a6 (x.1 186 (xi (x.1 140 (xi a6)))) (wI x 186 (xi (x.1 140 (xi a6))) a6)) else (cond (aIn w25 8192) (cond (aIn w25 8192) (cond (aIn a4 8192) (gm176_244 k82 (gm176_126 k82 n) a2 a3 (a4 + 1) a5 a6 (x.1 186 (xi (x.1 140 (xi a6)))) (wI (wI (wI (wI x 186 (xi (x.1 140 (xi a6))) a6) 183 (xi w25) a5) 184 (xi w25) a6) 185 (xi a4) w25)) none) none) none))) else (gm176_244 k82 (gm176_126 k82 n) a2 a3 a4 a5 a6 (x.1 186 (xi (x.1 140 (xi a6)))) (wI x 186 (xi (x.1 140 (xi a6))) a6))) none)) none) none))) else (gm176_258 k82 (gm176_126 k82 n) a2 a3 a4 a5 a6 x)) none)) none) none)
theorem em176_126 {N : Nat} (k82 : Int32 → Int32 → Int32 → Hs → Option (Int32 × Hs)) (q82 : ∀ (a2 : Int32) (a3 : Int32) (a4 : Int32) (x : Hs) (r : Int32 × Hs), k82 a2 a3 a4 x = some r → Ev 176 (0, 0) (82, [some (.ref 138), none, some (.int a2), some (.int a3), some (.int a4), none, none, none, none], []) (hp N x) (cvMi N r)) : ∀ (n : Nat) (a2 : Int32) (a3 : Int32) (a4 : Int32) (a5 : Int32) (a6 : Int32) (x : Hs) (r : Int32 × Hs), gm176_126 k82 n a2 a3 a4 a5 a6 x = some r → Ev 176 (0, 0) (126, [some (.ref 138), none, some (.int a2), some (.int a3), some (.int a4), some (.int a5), some (.int a6), none, none], []) (hp N x) (cvMi N r)
  | 0, a2, a3, a4, a5, a6, x, r, h => by
    have e9 : (none : Option (Int32 × Hs)) = some r := h
    cases e9
  | n + 1, a2, a3, a4, a5, a6, x, r, h => by
    have q126 := em176_126 k82 q82 (N := N) n
    rw [gm176_126] at h
    refine ev_run (n := 3) (u' := (0, 0)) (f' := (132, [some (.ref 138), none, some (.int a2), some (.int a3), some (.int a4), some (.int a5), some (.int a6), none, none], [.int (x.1 138 3), .int a6])) (h' := hp N x) rfl ?_
    rcases ite_or h with ⟨h38, h⟩ | ⟨h38, h⟩
    · refine ev_ict rfl (decide_eq_true h38) ?_
      exact em176_264 k82 q82 a2 a3 a4 x _ h
    · refine ev_icf rfl (decide_eq_false h38) ?_
      refine ev_run (n := 5) (u' := (0, 0)) (f' := (145, [some (.ref 138), none, some (.int a2), some (.int a3), some (.int a4), some (.int a5), some (.int a6), none, none], [.int a6, .ref 140, .ref 186])) (h' := hp N x) rfl ?_
      obtain ⟨h18, h⟩ := cond_some h
      refine ev_iald rfl rfl h18 ?_
      obtain ⟨h19, h⟩ := cond_some h
      refine ev_iald rfl rfl h19 ?_
      refine ev_run (n := 3) (u' := (0, 0)) (f' := (153, [some (.ref 138), none, some (.int a2), some (.int a3), some (.int a4), some (.int a5), some (.int a6), some (.int (x.1 186 (xi (x.1 140 (xi a6))))), none], [.int a6, .int (x.1 186 (xi (x.1 140 (xi a6))))])) (h' := hp N x) rfl ?_
      rcases ite_or h with ⟨h37, h⟩ | ⟨h37, h⟩
      · refine ev_ict rfl (decide_eq_true h37) ?_
        exact em176_258 k82 (gm176_126 k82 n) q82 q126 a2 a3 a4 a5 a6 x _ h
      · refine ev_icf rfl (decide_eq_false h37) ?_
        refine ev_run (n := 3) (u' := (0, 0)) (f' := (162, [some (.ref 138), none, some (.int a2), some (.int a3), some (.int a4), some (.int a5), some (.int a6), some (.int (x.1 186 (xi (x.1 140 (xi a6))))), none], [.int a6, .ref 145])) (h' := hp N x) rfl ?_
        obtain ⟨h20, h⟩ := cond_some h
        refine ev_bald rfl rfl h20 ?_
        rcases ite_or h with ⟨h36, h⟩ | ⟨h36, h⟩
        · refine ev_iff rfl (decide_eq_false (fun w => w h36)) ?_
          refine ev_run (n := 2) (u' := (0, 0)) (f' := (169, [some (.ref 138), none, some (.int a2), some (.int a3), some (.int a4), some (.int a5), some (.int a6), some (.int (x.1 186 (xi (x.1 140 (xi a6))))), none], [.int a6, .ref 138])) (h' := hp N x) rfl ?_
          obtain ⟨w21, h22, h⟩ := bind_ok h
          refine ev_call (v := some (.int w21)) (h1 := hp N x) rfl rfl rfl rfl (em130 a6 x _ h22) ?_
          show Ev 176 (0, 0) (172, [some (.ref 138), none, some (.int a2), some (.int a3), some (.int a4), some (.int a5), some (.int a6), some (.int (x.1 186 (xi (x.1 140 (xi a6))))), none], [.int w21]) (hp N x) _
          rcases ite_or h with ⟨h35, h⟩ | ⟨h35, h⟩
          · refine ev_ift rfl (decide_eq_true h35) ?_
            exact em176_258 k82 (gm176_126 k82 n) q82 q126 a2 a3 a4 a5 a6 x _ h
          · refine ev_iff rfl (decide_eq_false h35) ?_
            refine ev_run (n := 5) (u' := (0, 0)) (f' := (185, [some (.ref 138), none, some (.int a2), some (.int a3), some (.int a4), some (.int a5), some (.int a6), some (.int (x.1 186 (xi (x.1 140 (xi a6))))), none], [.int a6, .ref 140, .ref 186])) (h' := hp N x) rfl ?_
            obtain ⟨h23, h⟩ := cond_some h
            refine ev_iald rfl rfl h23 ?_
            refine ev_run (n := 1) (u' := (0, 0)) (f' := (188, [some (.ref 138), none, some (.int a2), some (.int a3), some (.int a4), some (.int a5), some (.int a6), some (.int (x.1 186 (xi (x.1 140 (xi a6))))), none], [.int a6, .int (x.1 140 (xi a6)), .ref 186])) (h' := hp N x) rfl ?_
            obtain ⟨h24, h⟩ := cond_some h
            refine ev_iast rfl rfl h24 ?_
            show Ev 176 (0, 0) (189, [some (.ref 138), none, some (.int a2), some (.int a3), some (.int a4), some (.int a5), some (.int a6), some (.int (x.1 186 (xi (x.1 140 (xi a6))))), none], []) (hp N (wI x 186 (xi (x.1 140 (xi a6))) a6)) _
            refine ev_run (n := 1) (u' := (0, 0)) (f' := (190, [some (.ref 138), none, some (.int a2), some (.int a3), some (.int a4), some (.int a5), some (.int a6), some (.int (x.1 186 (xi (x.1 140 (xi a6))))), none], [.ref 138])) (h' := hp N (wI x 186 (xi (x.1 140 (xi a6))) a6)) rfl ?_
            obtain ⟨w25, h26, h⟩ := bind_ok h
            refine ev_call (v := some (.int w25)) (h1 := hp N (wI x 186 (xi (x.1 140 (xi a6))) a6)) rfl rfl rfl rfl (em173 (wI x 186 (xi (x.1 140 (xi a6))) a6) _ h26) ?_
            show Ev 176 (0, 0) (193, [some (.ref 138), none, some (.int a2), some (.int a3), some (.int a4), some (.int a5), some (.int a6), some (.int (x.1 186 (xi (x.1 140 (xi a6))))), none], [.int w25]) (hp N (wI x 186 (xi (x.1 140 (xi a6))) a6)) _
            refine ev_run (n := 4) (u' := (0, 0)) (f' := (201, [some (.ref 138), none, some (.int a2), some (.int a3), some (.int a4), some (.int a5), some (.int a6), some (.int (x.1 186 (xi (x.1 140 (xi a6))))), some (.int w25)], [.int w25, .ref 183])) (h' := hp N (wI x 186 (xi (x.1 140 (xi a6))) a6)) rfl ?_
            obtain ⟨h27, h⟩ := cond_some h
            refine ev_iald rfl rfl h27 ?_
            refine ev_run (n := 1) (u' := (0, 0)) (f' := (204, [some (.ref 138), none, some (.int a2), some (.int a3), some (.int a4), some (.int a5), some (.int a6), some (.int (x.1 186 (xi (x.1 140 (xi a6))))), some (.int w25)], [.int (-2), .int ((wI x 186 (xi (x.1 140 (xi a6))) a6).1 183 (xi w25))])) (h' := hp N (wI x 186 (xi (x.1 140 (xi a6))) a6)) rfl ?_
            rcases ite_or h with ⟨h34, h⟩ | ⟨h34, h⟩
            · refine ev_icf rfl (decide_eq_false (fun w => w h34)) ?_
              refine ev_run (n := 1) (u' := (0, 0)) (f' := (208, [some (.ref 138), none, some (.int a2), some (.int a3), some (.int a4), some (.int a5), some (.int a6), some (.int (x.1 186 (xi (x.1 140 (xi a6))))), some (.int w25)], [.ref 138])) (h' := hp N (wI x 186 (xi (x.1 140 (xi a6))) a6)) rfl ?_
              obtain ⟨w28, h29, h⟩ := bind_ok h
              refine ev_call (v := some (.int w28)) (h1 := hp N (wI x 186 (xi (x.1 140 (xi a6))) a6)) rfl rfl rfl rfl (em175 (wI x 186 (xi (x.1 140 (xi a6))) a6) _ h29) ?_
              show Ev 176 (0, 0) (211, [some (.ref 138), none, some (.int a2), some (.int a3), some (.int a4), some (.int a5), some (.int a6), some (.int (x.1 186 (xi (x.1 140 (xi a6))))), some (.int w25)], [.int w28]) (hp N (wI x 186 (xi (x.1 140 (xi a6))) a6)) _
              rcases ite_or h with ⟨h33, h⟩ | ⟨h33, h⟩
              · refine ev_ift rfl (decide_eq_true h33) ?_
                exact em176_244 k82 (gm176_126 k82 n) q82 q126 a2 a3 a4 a5 a6 (x.1 186 (xi (x.1 140 (xi a6)))) (wI x 186 (xi (x.1 140 (xi a6))) a6) _ h
              · refine ev_iff rfl (decide_eq_false h33) ?_
                refine ev_run (n := 4) (u' := (0, 0)) (f' := (222, [some (.ref 138), none, some (.int a2), some (.int a3), some (.int a4), some (.int a5), some (.int a6), some (.int (x.1 186 (xi (x.1 140 (xi a6))))), some (.int w25)], [.int a5, .int w25, .ref 183])) (h' := hp N (wI x 186 (xi (x.1 140 (xi a6))) a6)) rfl ?_
                obtain ⟨h30, h⟩ := cond_some h
                refine ev_iast rfl rfl h30 ?_
                show Ev 176 (0, 0) (223, [some (.ref 138), none, some (.int a2), some (.int a3), some (.int a4), some (.int a5), some (.int a6), some (.int (x.1 186 (xi (x.1 140 (xi a6))))), some (.int w25)], []) (hp N (wI (wI x 186 (xi (x.1 140 (xi a6))) a6) 183 (xi w25) a5)) _
                refine ev_run (n := 4) (u' := (0, 0)) (f' := (231, [some (.ref 138), none, some (.int a2), some (.int a3), some (.int a4), some (.int a5), some (.int a6), some (.int (x.1 186 (xi (x.1 140 (xi a6))))), some (.int w25)], [.int a6, .int w25, .ref 184])) (h' := hp N (wI (wI x 186 (xi (x.1 140 (xi a6))) a6) 183 (xi w25) a5)) rfl ?_
                obtain ⟨h31, h⟩ := cond_some h
                refine ev_iast rfl rfl h31 ?_
                show Ev 176 (0, 0) (232, [some (.ref 138), none, some (.int a2), some (.int a3), some (.int a4), some (.int a5), some (.int a6), some (.int (x.1 186 (xi (x.1 140 (xi a6))))), some (.int w25)], []) (hp N (wI (wI (wI x 186 (xi (x.1 140 (xi a6))) a6) 183 (xi w25) a5) 184 (xi w25) a6)) _
                refine ev_run (n := 4) (u' := (0, 0)) (f' := (240, [some (.ref 138), none, some (.int a2), some (.int a3), some (.int a4), some (.int a5), some (.int a6), some (.int (x.1 186 (xi (x.1 140 (xi a6))))), some (.int w25)], [.int w25, .int a4, .ref 185])) (h' := hp N (wI (wI (wI x 186 (xi (x.1 140 (xi a6))) a6) 183 (xi w25) a5) 184 (xi w25) a6)) rfl ?_
                obtain ⟨h32, h⟩ := cond_some h
                refine ev_iast rfl rfl h32 ?_
                show Ev 176 (0, 0) (241, [some (.ref 138), none, some (.int a2), some (.int a3), some (.int a4), some (.int a5), some (.int a6), some (.int (x.1 186 (xi (x.1 140 (xi a6))))), some (.int w25)], []) (hp N (wI (wI (wI (wI x 186 (xi (x.1 140 (xi a6))) a6) 183 (xi w25) a5) 184 (xi w25) a6) 185 (xi a4) w25)) _
                refine ev_run (n := 1) (u' := (0, 0)) (f' := (244, [some (.ref 138), none, some (.int a2), some (.int a3), some (.int (a4 + 1)), some (.int a5), some (.int a6), some (.int (x.1 186 (xi (x.1 140 (xi a6))))), some (.int w25)], [])) (h' := hp N (wI (wI (wI (wI x 186 (xi (x.1 140 (xi a6))) a6) 183 (xi w25) a5) 184 (xi w25) a6) 185 (xi a4) w25)) rfl ?_
                exact em176_244_k1 k82 (gm176_126 k82 n) q82 q126 a2 a3 (a4 + 1) a5 a6 (x.1 186 (xi (x.1 140 (xi a6)))) w25 (wI (wI (wI (wI x 186 (xi (x.1 140 (xi a6))) a6) 183 (xi w25) a5) 184 (xi w25) a6) 185 (xi a4) w25) _ h
            · refine ev_ict rfl (decide_eq_true h34) ?_
              exact em176_244 k82 (gm176_126 k82 n) q82 q126 a2 a3 a4 a5 a6 (x.1 186 (xi (x.1 140 (xi a6)))) (wI x 186 (xi (x.1 140 (xi a6))) a6) _ h
        · refine ev_ift rfl (decide_eq_true h36) ?_
          exact em176_258 k82 (gm176_126 k82 n) q82 q126 a2 a3 a4 a5 a6 x _ h
def gm176_82 : Nat → Int32 → Int32 → Int32 → Hs → Option (Int32 × Hs)
  | 0, _, _, _, _ => none
  | n + 1, a2, a3, a4, x => if a3 ≥ a4 then (some ((-1), x)) else (cond (aIn a3 8192) ((gm174 (x.1 185 (xi a3)) x).bind fun w12 => (cond (aIn a2 24) (cond (aIn (w12.1 140 (xi a2)) 5) (if w12.1 186 (xi (w12.1 140 (xi a2))) = a2 then (some (x.1 185 (xi a3), w12)) else (gm176_126 (gm176_82 n) FU a2 (a3 + 1) a4 (x.1 185 (xi a3)) 0 w12)) none) none)) none)
theorem em176_82 {N : Nat} : ∀ (n : Nat) (a2 : Int32) (a3 : Int32) (a4 : Int32) (x : Hs) (r : Int32 × Hs), gm176_82 n a2 a3 a4 x = some r → Ev 176 (0, 0) (82, [some (.ref 138), none, some (.int a2), some (.int a3), some (.int a4), none, none, none, none], []) (hp N x) (cvMi N r)
  | 0, a2, a3, a4, x, r, h => by
    have e9 : (none : Option (Int32 × Hs)) = some r := h
    cases e9
  | n + 1, a2, a3, a4, x, r, h => by
    have q82 := em176_82 (N := N) n
    rw [gm176_82] at h
    refine ev_run (n := 2) (u' := (0, 0)) (f' := (85, [some (.ref 138), none, some (.int a2), some (.int a3), some (.int a4), none, none, none, none], [.int a4, .int a3])) (h' := hp N x) rfl ?_
    rcases ite_or h with ⟨h17, h⟩ | ⟨h17, h⟩
    · refine ev_ict rfl (decide_eq_true h17) ?_
      refine ev_run (n := 1) (u' := (0, 0)) (f' := (268, [none, none, none, none, none, none, none, none, none], [.int (-1)])) (h' := hp N x) rfl ?_
      cases h
      exact ev_iret rfl rfl rfl (Or.inl rfl)
    · refine ev_icf rfl (decide_eq_false h17) ?_
      refine ev_run (n := 3) (u' := (0, 0)) (f' := (93, [some (.ref 138), none, some (.int a2), some (.int a3), some (.int a4), none, none, none, none], [.int a3, .ref 185])) (h' := hp N x) rfl ?_
      obtain ⟨h11, h⟩ := cond_some h
      refine ev_iald rfl rfl h11 ?_
      refine ev_run (n := 4) (u' := (0, 0)) (f' := (102, [some (.ref 138), none, some (.int a2), some (.int (a3 + 1)), some (.int a4), some (.int (x.1 185 (xi a3))), none, none, none], [.int (x.1 185 (xi a3)), .ref 138])) (h' := hp N x) rfl ?_
      obtain ⟨w12, h13, h⟩ := bind_ok h
      refine ev_call (v := none) (h1 := hp N w12) rfl rfl rfl rfl (em174 (x.1 185 (xi a3)) x _ h13) ?_
      show Ev 176 (0, 0) (105, [some (.ref 138), none, some (.int a2), some (.int (a3 + 1)), some (.int a4), some (.int (x.1 185 (xi a3))), none, none, none], []) (hp N w12) _
      refine ev_run (n := 5) (u' := (0, 0)) (f' := (114, [some (.ref 138), none, some (.int a2), some (.int (a3 + 1)), some (.int a4), some (.int (x.1 185 (xi a3))), none, none, none], [.int a2, .ref 140, .ref 186])) (h' := hp N w12) rfl ?_
      obtain ⟨h14, h⟩ := cond_some h
      refine ev_iald rfl rfl h14 ?_
      obtain ⟨h15, h⟩ := cond_some h
      refine ev_iald rfl rfl h15 ?_
      refine ev_run (n := 1) (u' := (0, 0)) (f' := (117, [some (.ref 138), none, some (.int a2), some (.int (a3 + 1)), some (.int a4), some (.int (x.1 185 (xi a3))), none, none, none], [.int a2, .int (w12.1 186 (xi (w12.1 140 (xi a2))))])) (h' := hp N w12) rfl ?_
      rcases ite_or h with ⟨h16, h⟩ | ⟨h16, h⟩
      · refine ev_icf rfl (decide_eq_false (fun w => w h16)) ?_
        refine ev_run (n := 1) (u' := (0, 0)) (f' := (122, [some (.ref 138), none, some (.int a2), some (.int (a3 + 1)), some (.int a4), some (.int (x.1 185 (xi a3))), none, none, none], [.int (x.1 185 (xi a3))])) (h' := hp N w12) rfl ?_
        cases h
        exact ev_iret rfl rfl rfl (Or.inl rfl)
      · refine ev_ict rfl (decide_eq_true h16) ?_
        refine ev_run (n := 2) (u' := (0, 0)) (f' := (126, [some (.ref 138), none, some (.int a2), some (.int (a3 + 1)), some (.int a4), some (.int (x.1 185 (xi a3))), some (.int 0), none, none], [])) (h' := hp N w12) rfl ?_
        exact em176_126 (gm176_82 n) q82 FU a2 (a3 + 1) a4 (x.1 185 (xi a3)) 0 w12 _ h
def gm176_55 (a2 : Int32) (x : Hs) : Option (Int32 × Hs) := (gm173 x).bind fun w6 => (cond (aIn 0 8192) (cond (aIn 0 8192) (cond (aIn ((wI x 185 (xi 0) w6).1 185 (xi 0)) 8192) (gm176_82 FU a2 0 1 (wI (wI x 185 (xi 0) w6) 183 (xi ((wI x 185 (xi 0) w6).1 185 (xi 0))) (-1))) none) none) none)
theorem em176_55 {N : Nat} (a2 : Int32) (x : Hs) (r : Int32 × Hs) (h : gm176_55 a2 x = some r) : Ev 176 (0, 0) (55, [some (.ref 138), none, some (.int a2), none, none, none, none, none, none], []) (hp N x) (cvMi N r) := by
  unfold gm176_55 at h
  refine ev_run (n := 8) (u' := (0, 0)) (f' := (66, [some (.ref 138), none, some (.int a2), some (.int 0), some (.int 1), none, none, none, none], [.ref 138, .int 0, .ref 185])) (h' := hp N x) rfl ?_
  obtain ⟨w6, h7, h⟩ := bind_ok h
  refine ev_call (v := some (.int w6)) (h1 := hp N x) rfl rfl rfl rfl (em173 x _ h7) ?_
  show Ev 176 (0, 0) (69, [some (.ref 138), none, some (.int a2), some (.int 0), some (.int 1), none, none, none, none], [.int w6, .int 0, .ref 185]) (hp N x) _
  obtain ⟨h8, h⟩ := cond_some h
  refine ev_iast rfl rfl h8 ?_
  show Ev 176 (0, 0) (70, [some (.ref 138), none, some (.int a2), some (.int 0), some (.int 1), none, none, none, none], []) (hp N (wI x 185 (xi 0) w6)) _
  refine ev_run (n := 5) (u' := (0, 0)) (f' := (79, [some (.ref 138), none, some (.int a2), some (.int 0), some (.int 1), none, none, none, none], [.int 0, .ref 185, .ref 183])) (h' := hp N (wI x 185 (xi 0) w6)) rfl ?_
  obtain ⟨h9, h⟩ := cond_some h
  refine ev_iald rfl rfl h9 ?_
  refine ev_run (n := 1) (u' := (0, 0)) (f' := (81, [some (.ref 138), none, some (.int a2), some (.int 0), some (.int 1), none, none, none, none], [.int (-1), .int ((wI x 185 (xi 0) w6).1 185 (xi 0)), .ref 183])) (h' := hp N (wI x 185 (xi 0) w6)) rfl ?_
  obtain ⟨h10, h⟩ := cond_some h
  refine ev_iast rfl rfl h10 ?_
  show Ev 176 (0, 0) (82, [some (.ref 138), none, some (.int a2), some (.int 0), some (.int 1), none, none, none, none], []) (hp N (wI (wI x 185 (xi 0) w6) 183 (xi ((wI x 185 (xi 0) w6).1 185 (xi 0))) (-1))) _
  exact em176_82 FU a2 0 1 (wI (wI x 185 (xi 0) w6) 183 (xi ((wI x 185 (xi 0) w6).1 185 (xi 0))) (-1)) _ h
def gm176_25 : Nat → Int32 → Int32 → Int32 → Hs → Option (Int32 × Hs)
  | 0, _, _, _, _ => none
  | n + 1, a1, a2, a3, x => if a3 ≥ x.1 138 1 then (gm176_55 a2 x) else (cond (aIn ((5 * a1) + a3) 20) (cond (aIn a3 5) (gm176_25 n a1 a2 (a3 + 1) (wI x 186 (xi a3) (x.1 147 (xi ((5 * a1) + a3))))) none) none)
theorem em176_25 {N : Nat} : ∀ (n : Nat) (a1 : Int32) (a2 : Int32) (a3 : Int32) (x : Hs) (r : Int32 × Hs), gm176_25 n a1 a2 a3 x = some r → Ev 176 (0, 0) (25, [some (.ref 138), some (.int a1), some (.int a2), some (.int a3), none, none, none, none, none], []) (hp N x) (cvMi N r)
  | 0, a1, a2, a3, x, r, h => by
    have e9 : (none : Option (Int32 × Hs)) = some r := h
    cases e9
  | n + 1, a1, a2, a3, x, r, h => by
    have q25 := em176_25 (N := N) n
    rw [gm176_25] at h
    refine ev_run (n := 3) (u' := (0, 0)) (f' := (30, [some (.ref 138), some (.int a1), some (.int a2), some (.int a3), none, none, none, none, none], [.int (x.1 138 1), .int a3])) (h' := hp N x) rfl ?_
    rcases ite_or h with ⟨h5, h⟩ | ⟨h5, h⟩
    · refine ev_ict rfl (decide_eq_true h5) ?_
      exact em176_55 a2 x _ h
    · refine ev_icf rfl (decide_eq_false h5) ?_
      refine ev_run (n := 10) (u' := (0, 0)) (f' := (47, [some (.ref 138), some (.int a1), some (.int a2), some (.int a3), none, none, none, none, none], [.int ((5 * a1) + a3), .ref 147, .int a3, .ref 186])) (h' := hp N x) rfl ?_
      obtain ⟨h3, h⟩ := cond_some h
      refine ev_iald rfl rfl h3 ?_
      obtain ⟨h4, h⟩ := cond_some h
      refine ev_iast rfl rfl h4 ?_
      show Ev 176 (0, 0) (49, [some (.ref 138), some (.int a1), some (.int a2), some (.int a3), none, none, none, none, none], []) (hp N (wI x 186 (xi a3) (x.1 147 (xi ((5 * a1) + a3))))) _
      refine ev_run (n := 2) (u' := (0, 0)) (f' := (25, [some (.ref 138), some (.int a1), some (.int a2), some (.int (a3 + 1)), none, none, none, none, none], [])) (h' := hp N (wI x 186 (xi a3) (x.1 147 (xi ((5 * a1) + a3))))) rfl ?_
      exact q25 a1 a2 (a3 + 1) (wI x 186 (xi a3) (x.1 147 (xi ((5 * a1) + a3)))) _ h
def gm176_23 (a1 : Int32) (a2 : Int32) (x : Hs) : Option (Int32 × Hs) := gm176_25 FU a1 a2 0 x
theorem em176_23 {N : Nat} (a1 : Int32) (a2 : Int32) (x : Hs) (r : Int32 × Hs) (h : gm176_23 a1 a2 x = some r) : Ev 176 (0, 0) (23, [some (.ref 138), some (.int a1), some (.int a2), none, none, none, none, none, none], []) (hp N x) (cvMi N r) := by
  unfold gm176_23 at h
  refine ev_run (n := 2) (u' := (0, 0)) (f' := (25, [some (.ref 138), some (.int a1), some (.int a2), some (.int 0), none, none, none, none, none], [])) (h' := hp N x) rfl ?_
  exact em176_25 FU a1 a2 0 x _ h
def gm176_2 : Nat → Int32 → Int32 → Int32 → Hs → Option (Int32 × Hs)
  | 0, _, _, _, _ => none
  | n + 1, a1, a2, a3, x => if a3 ≥ 8192 then (gm176_23 a1 a2 x) else (cond (aIn a3 8192) (gm176_2 n a1 a2 (a3 + 1) (wI x 183 (xi a3) (-2))) none)
theorem em176_2 {N : Nat} : ∀ (n : Nat) (a1 : Int32) (a2 : Int32) (a3 : Int32) (x : Hs) (r : Int32 × Hs), gm176_2 n a1 a2 a3 x = some r → Ev 176 (0, 0) (2, [some (.ref 138), some (.int a1), some (.int a2), some (.int a3), none, none, none, none, none], []) (hp N x) (cvMi N r)
  | 0, a1, a2, a3, x, r, h => by
    have e9 : (none : Option (Int32 × Hs)) = some r := h
    cases e9
  | n + 1, a1, a2, a3, x, r, h => by
    have q2 := em176_2 (N := N) n
    rw [gm176_2] at h
    refine ev_run (n := 2) (u' := (0, 0)) (f' := (6, [some (.ref 138), some (.int a1), some (.int a2), some (.int a3), none, none, none, none, none], [.int 8192, .int a3])) (h' := hp N x) rfl ?_
    rcases ite_or h with ⟨h2, h⟩ | ⟨h2, h⟩
    · refine ev_ict rfl (decide_eq_true h2) ?_
      exact em176_23 a1 a2 x _ h
    · refine ev_icf rfl (decide_eq_false h2) ?_
      refine ev_run (n := 4) (u' := (0, 0)) (f' := (16, [some (.ref 138), some (.int a1), some (.int a2), some (.int a3), none, none, none, none, none], [.int (-2), .int a3, .ref 183])) (h' := hp N x) rfl ?_
      obtain ⟨h1, h⟩ := cond_some h
      refine ev_iast rfl rfl h1 ?_
      show Ev 176 (0, 0) (17, [some (.ref 138), some (.int a1), some (.int a2), some (.int a3), none, none, none, none, none], []) (hp N (wI x 183 (xi a3) (-2))) _
      refine ev_run (n := 2) (u' := (0, 0)) (f' := (2, [some (.ref 138), some (.int a1), some (.int a2), some (.int (a3 + 1)), none, none, none, none, none], [])) (h' := hp N (wI x 183 (xi a3) (-2))) rfl ?_
      exact q2 a1 a2 (a3 + 1) (wI x 183 (xi a3) (-2)) _ h
def gm176 (a1 : Int32) (a2 : Int32) (x : Hs) : Option (Int32 × Hs) := gm176_2 FU a1 a2 0 x
theorem em176 {N : Nat} (a1 : Int32) (a2 : Int32) (x : Hs) (r : Int32 × Hs) (h : gm176 a1 a2 x = some r) : Ev 176 (0, 0) (0, aPad [.ref 138, .int a1, .int a2] 9, []) (hp N x) (cvMi N r) := by
  show Ev 176 (0, 0) (0, [some (.ref 138), some (.int a1), some (.int a2), none, none, none, none, none, none], []) (hp N x) _
  unfold gm176 at h
  refine ev_run (n := 2) (u' := (0, 0)) (f' := (2, [some (.ref 138), some (.int a1), some (.int a2), some (.int 0), none, none, none, none, none], [])) (h' := hp N x) rfl ?_
  exact em176_2 FU a1 a2 0 x _ h
def gm177_140 (x : Hs) : Option (Int32 × Hs) := some (x.1 138 51, x)
theorem em177_140 {N : Nat} (x : Hs) (r : Int32 × Hs) (h : gm177_140 x = some r) : Ev 177 (0, 0) (140, [some (.ref 138), none, none, none, none, none, none], []) (hp N x) (cvMi N r) := by
  unfold gm177_140 at h
  refine ev_run (n := 2) (u' := (0, 0)) (f' := (144, [some (.ref 138), none, none, none, none, none, none], [.int (x.1 138 51)])) (h' := hp N x) rfl ?_
  cases h
  exact ev_iret rfl rfl rfl (Or.inl rfl)
def gm177_106 : Nat → Int32 → Int32 → Hs → Option (Int32 × Hs)
  | 0, _, _, _ => none
  | n + 1, a5, a6, x => if a5 ≤ 0 then (gm177_140 x) else (cond (aIn a6 8192) (cond (aIn (a5 + (-1)) 8192) (cond (aIn a6 8192) (gm177_106 n (a5 + (-1)) ((wI x 182 (xi (a5 + (-1))) (x.1 184 (xi a6))).1 183 (xi a6)) (wI x 182 (xi (a5 + (-1))) (x.1 184 (xi a6)))) none) none) none)
theorem em177_106 {N : Nat} : ∀ (n : Nat) (a5 : Int32) (a6 : Int32) (x : Hs) (r : Int32 × Hs), gm177_106 n a5 a6 x = some r → Ev 177 (0, 0) (106, [some (.ref 138), none, none, none, none, some (.int a5), some (.int a6)], []) (hp N x) (cvMi N r)
  | 0, a5, a6, x, r, h => by
    have e9 : (none : Option (Int32 × Hs)) = some r := h
    cases e9
  | n + 1, a5, a6, x, r, h => by
    have q106 := em177_106 (N := N) n
    rw [gm177_106] at h
    refine ev_run (n := 1) (u' := (0, 0)) (f' := (108, [some (.ref 138), none, none, none, none, some (.int a5), some (.int a6)], [.int a5])) (h' := hp N x) rfl ?_
    rcases ite_or h with ⟨h21, h⟩ | ⟨h21, h⟩
    · refine ev_ift rfl (decide_eq_true h21) ?_
      exact em177_140 x _ h
    · refine ev_iff rfl (decide_eq_false h21) ?_
      refine ev_run (n := 7) (u' := (0, 0)) (f' := (126, [some (.ref 138), none, none, none, none, some (.int (a5 + (-1))), some (.int a6)], [.int a6, .ref 184, .int (a5 + (-1)), .ref 182])) (h' := hp N x) rfl ?_
      obtain ⟨h18, h⟩ := cond_some h
      refine ev_iald rfl rfl h18 ?_
      obtain ⟨h19, h⟩ := cond_some h
      refine ev_iast rfl rfl h19 ?_
      show Ev 177 (0, 0) (128, [some (.ref 138), none, none, none, none, some (.int (a5 + (-1))), some (.int a6)], []) (hp N (wI x 182 (xi (a5 + (-1))) (x.1 184 (xi a6)))) _
      refine ev_run (n := 3) (u' := (0, 0)) (f' := (134, [some (.ref 138), none, none, none, none, some (.int (a5 + (-1))), some (.int a6)], [.int a6, .ref 183])) (h' := hp N (wI x 182 (xi (a5 + (-1))) (x.1 184 (xi a6)))) rfl ?_
      obtain ⟨h20, h⟩ := cond_some h
      refine ev_iald rfl rfl h20 ?_
      refine ev_run (n := 2) (u' := (0, 0)) (f' := (106, [some (.ref 138), none, none, none, none, some (.int (a5 + (-1))), some (.int ((wI x 182 (xi (a5 + (-1))) (x.1 184 (xi a6))).1 183 (xi a6)))], [])) (h' := hp N (wI x 182 (xi (a5 + (-1))) (x.1 184 (xi a6)))) rfl ?_
      exact q106 (a5 + (-1)) ((wI x 182 (xi (a5 + (-1))) (x.1 184 (xi a6))).1 183 (xi a6)) (wI x 182 (xi (a5 + (-1))) (x.1 184 (xi a6))) _ h
def gm177_99 (a4 : Int32) (a5 : Int32) (s1 : Int32) (x : Hs) : Option (Int32 × Hs) := gm177_106 FU a5 a4 (wI x 138 51 s1)
theorem em177_99 {N : Nat} (a4 : Int32) (a5 : Int32) (s1 : Int32) (x : Hs) (r : Int32 × Hs) (h : gm177_99 a4 a5 s1 x = some r) : Ev 177 (0, 0) (99, [some (.ref 138), none, none, none, some (.int a4), some (.int a5), none], [.int s1, .ref 138]) (hp N x) (cvMi N r) := by
  unfold gm177_99 at h
  refine ev_run (n := 3) (u' := (0, 0)) (f' := (106, [some (.ref 138), none, none, none, none, some (.int a5), some (.int a4)], [])) (h' := hp N (wI x 138 51 s1)) rfl ?_
  exact em177_106 FU a5 a4 (wI x 138 51 s1) _ h
def gm177_86 (a4 : Int32) (a5 : Int32) (x : Hs) : Option (Int32 × Hs) := if a4 = (-1) then (gm177_99 a4 a5 (-1) x) else (gm177_99 a4 a5 a5 x)
theorem em177_86 {N : Nat} (a4 : Int32) (a5 : Int32) (x : Hs) (r : Int32 × Hs) (h : gm177_86 a4 a5 x = some r) : Ev 177 (0, 0) (86, [some (.ref 138), none, none, none, some (.int a4), some (.int a5), none], []) (hp N x) (cvMi N r) := by
  unfold gm177_86 at h
  refine ev_run (n := 3) (u' := (0, 0)) (f' := (90, [some (.ref 138), none, none, none, some (.int a4), some (.int a5), none], [.int (-1), .int a4, .ref 138])) (h' := hp N x) rfl ?_
  rcases ite_or h with ⟨h17, h⟩ | ⟨h17, h⟩
  · refine ev_icf rfl (decide_eq_false (fun w => w h17)) ?_
    refine ev_run (n := 2) (u' := (0, 0)) (f' := (99, [some (.ref 138), none, none, none, some (.int a4), some (.int a5), none], [.int (-1), .ref 138])) (h' := hp N x) rfl ?_
    exact em177_99 a4 a5 (-1) x _ h
  · refine ev_ict rfl (decide_eq_true h17) ?_
    refine ev_run (n := 1) (u' := (0, 0)) (f' := (99, [some (.ref 138), none, none, none, some (.int a4), some (.int a5), none], [.int a5, .ref 138])) (h' := hp N x) rfl ?_
    exact em177_99 a4 a5 a5 x _ h
def gm177_54 : Nat → Int32 → Int32 → Int32 → Hs → Option (Int32 × Hs)
  | 0, _, _, _, _ => none
  | n + 1, a4, a5, a6, x => if a6 = (-1) then (gm177_86 a4 a5 x) else (cond (aIn a6 8192) (if x.1 183 (xi a6) = (-1) then (gm177_86 a4 a5 x) else (cond (aIn a6 8192) (gm177_54 n a4 (a5 + 1) (x.1 183 (xi a6)) x) none)) none)
theorem em177_54 {N : Nat} : ∀ (n : Nat) (a4 : Int32) (a5 : Int32) (a6 : Int32) (x : Hs) (r : Int32 × Hs), gm177_54 n a4 a5 a6 x = some r → Ev 177 (0, 0) (54, [some (.ref 138), none, none, none, some (.int a4), some (.int a5), some (.int a6)], []) (hp N x) (cvMi N r)
  | 0, a4, a5, a6, x, r, h => by
    have e9 : (none : Option (Int32 × Hs)) = some r := h
    cases e9
  | n + 1, a4, a5, a6, x, r, h => by
    have q54 := em177_54 (N := N) n
    rw [gm177_54] at h
    refine ev_run (n := 2) (u' := (0, 0)) (f' := (57, [some (.ref 138), none, none, none, some (.int a4), some (.int a5), some (.int a6)], [.int (-1), .int a6])) (h' := hp N x) rfl ?_
    rcases ite_or h with ⟨h16, h⟩ | ⟨h16, h⟩
    · refine ev_ict rfl (decide_eq_true h16) ?_
      exact em177_86 a4 a5 x _ h
    · refine ev_icf rfl (decide_eq_false h16) ?_
      refine ev_run (n := 3) (u' := (0, 0)) (f' := (66, [some (.ref 138), none, none, none, some (.int a4), some (.int a5), some (.int a6)], [.int a6, .ref 183])) (h' := hp N x) rfl ?_
      obtain ⟨h13, h⟩ := cond_some h
      refine ev_iald rfl rfl h13 ?_
      refine ev_run (n := 1) (u' := (0, 0)) (f' := (68, [some (.ref 138), none, none, none, some (.int a4), some (.int a5), some (.int a6)], [.int (-1), .int (x.1 183 (xi a6))])) (h' := hp N x) rfl ?_
      rcases ite_or h with ⟨h15, h⟩ | ⟨h15, h⟩
      · refine ev_ict rfl (decide_eq_true h15) ?_
        exact em177_86 a4 a5 x _ h
      · refine ev_icf rfl (decide_eq_false h15) ?_
        refine ev_run (n := 4) (u' := (0, 0)) (f' := (80, [some (.ref 138), none, none, none, some (.int a4), some (.int (a5 + 1)), some (.int a6)], [.int a6, .ref 183])) (h' := hp N x) rfl ?_
        obtain ⟨h14, h⟩ := cond_some h
        refine ev_iald rfl rfl h14 ?_
        refine ev_run (n := 2) (u' := (0, 0)) (f' := (54, [some (.ref 138), none, none, none, some (.int a4), some (.int (a5 + 1)), some (.int (x.1 183 (xi a6)))], [])) (h' := hp N x) rfl ?_
        exact q54 a4 (a5 + 1) (x.1 183 (xi a6)) x _ h
def gm177_31 (a1 : Int32) (a2 : Int32) (s1 : Int32) (x : Hs) : Option (Int32 × Hs) := (gm113 s1 x).bind fun w8 => (if w8.1 = 0 then ((gm176 a1 a2 w8.2).bind fun w10 => (gm177_54 FU w10.1 0 w10.1 w10.2)) else (some (0, w8.2)))
theorem em177_31 {N : Nat} (a1 : Int32) (a2 : Int32) (s1 : Int32) (x : Hs) (r : Int32 × Hs) (h : gm177_31 a1 a2 s1 x = some r) : Ev 177 (0, 0) (31, [some (.ref 138), some (.int a1), some (.int a2), none, none, none, none], [.int s1, .ref 138]) (hp N x) (cvMi N r) := by
  unfold gm177_31 at h
  obtain ⟨w8, h9, h⟩ := bind_ok h
  refine ev_call (v := some (.int w8.1)) (h1 := hp N w8.2) rfl rfl rfl rfl (em113 s1 x _ h9) ?_
  show Ev 177 (0, 0) (34, [some (.ref 138), some (.int a1), some (.int a2), none, none, none, none], [.int w8.1]) (hp N w8.2) _
  rcases ite_or h with ⟨h12, h⟩ | ⟨h12, h⟩
  · refine ev_ift rfl (decide_eq_true h12) ?_
    refine ev_run (n := 3) (u' := (0, 0)) (f' := (42, [some (.ref 138), some (.int a1), some (.int a2), none, none, none, none], [.int a2, .int a1, .ref 138])) (h' := hp N w8.2) rfl ?_
    obtain ⟨w10, h11, h⟩ := bind_ok h
    refine ev_call (v := some (.int w10.1)) (h1 := hp N w10.2) rfl rfl rfl rfl (em176 a1 a2 w8.2 _ h11) ?_
    show Ev 177 (0, 0) (45, [some (.ref 138), some (.int a1), some (.int a2), none, none, none, none], [.int w10.1]) (hp N w10.2) _
    refine ev_run (n := 5) (u' := (0, 0)) (f' := (54, [some (.ref 138), none, none, none, some (.int w10.1), some (.int 0), some (.int w10.1)], [])) (h' := hp N w10.2) rfl ?_
    exact em177_54 FU w10.1 0 w10.1 w10.2 _ h
  · refine ev_iff rfl (decide_eq_false h12) ?_
    refine ev_run (n := 1) (u' := (0, 0)) (f' := (38, [some (.ref 138), some (.int a1), some (.int a2), none, none, none, none], [.int 0])) (h' := hp N w8.2) rfl ?_
    cases h
    exact ev_iret rfl rfl rfl (Or.inl rfl)
def gm177_20 (a1 : Int32) (a2 : Int32) (s0 : Int32) (x : Hs) : Option (Int32 × Hs) := if s0 = 0 then (gm177_31 a1 a2 1 x) else (gm177_31 a1 a2 0 x)
theorem em177_20 {N : Nat} (a1 : Int32) (a2 : Int32) (s0 : Int32) (x : Hs) (r : Int32 × Hs) (h : gm177_20 a1 a2 s0 x = some r) : Ev 177 (0, 0) (20, [some (.ref 138), some (.int a1), some (.int a2), none, none, none, none], [.int s0]) (hp N x) (cvMi N r) := by
  unfold gm177_20 at h
  refine ev_run (n := 3) (u' := (0, 0)) (f' := (23, [some (.ref 138), some (.int a1), some (.int a2), some (.int s0), none, none, none], [.int s0, .ref 138])) (h' := hp N x) rfl ?_
  rcases ite_or h with ⟨h7, h⟩ | ⟨h7, h⟩
  · refine ev_ift rfl (decide_eq_true h7) ?_
    refine ev_run (n := 1) (u' := (0, 0)) (f' := (31, [some (.ref 138), some (.int a1), some (.int a2), none, none, none, none], [.int 1, .ref 138])) (h' := hp N x) rfl ?_
    exact em177_31 a1 a2 1 x _ h
  · refine ev_iff rfl (decide_eq_false h7) ?_
    refine ev_run (n := 2) (u' := (0, 0)) (f' := (31, [some (.ref 138), some (.int a1), some (.int a2), none, none, none, none], [.int 0, .ref 138])) (h' := hp N x) rfl ?_
    exact em177_31 a1 a2 0 x _ h
def gm177_19 (a1 : Int32) (a2 : Int32) (x : Hs) : Option (Int32 × Hs) := gm177_20 a1 a2 0 x
theorem em177_19 {N : Nat} (a1 : Int32) (a2 : Int32) (x : Hs) (r : Int32 × Hs) (h : gm177_19 a1 a2 x = some r) : Ev 177 (0, 0) (19, [some (.ref 138), some (.int a1), some (.int a2), none, none, none, none], []) (hp N x) (cvMi N r) := by
  unfold gm177_19 at h
  refine ev_run (n := 1) (u' := (0, 0)) (f' := (20, [some (.ref 138), some (.int a1), some (.int a2), none, none, none, none], [.int 0])) (h' := hp N x) rfl ?_
  exact em177_20 a1 a2 0 x _ h
def gm177 (a1 : Int32) (a2 : Int32) (x : Hs) : Option (Int32 × Hs) := (gm119 a1 x).bind fun w1 => (if w1 = 0 then (gm177_19 a1 a2 x) else ((gm118 a2 x).bind fun w3 => (if w3 = 0 then (gm177_19 a1 a2 x) else (gm177_20 a1 a2 1 x))))
theorem em177 {N : Nat} (a1 : Int32) (a2 : Int32) (x : Hs) (r : Int32 × Hs) (h : gm177 a1 a2 x = some r) : Ev 177 (0, 0) (0, aPad [.ref 138, .int a1, .int a2] 7, []) (hp N x) (cvMi N r) := by
  show Ev 177 (0, 0) (0, [some (.ref 138), some (.int a1), some (.int a2), none, none, none, none], []) (hp N x) _
  unfold gm177 at h
  refine ev_run (n := 1) (u' := (0, 0)) (f' := (1, [some (.ref 138), some (.int a1), some (.int a2), none, none, none, none], [.int a1])) (h' := hp N x) rfl ?_
  obtain ⟨w1, h2, h⟩ := bind_ok h
  refine ev_call (v := some (.int w1)) (h1 := hp N x) rfl rfl rfl rfl (em119 a1 x _ h2) ?_
  show Ev 177 (0, 0) (4, [some (.ref 138), some (.int a1), some (.int a2), none, none, none, none], [.int w1]) (hp N x) _
  rcases ite_or h with ⟨h6, h⟩ | ⟨h6, h⟩
  · refine ev_ift rfl (decide_eq_true h6) ?_
    exact em177_19 a1 a2 x _ h
  · refine ev_iff rfl (decide_eq_false h6) ?_
    refine ev_run (n := 2) (u' := (0, 0)) (f' := (9, [some (.ref 138), some (.int a1), some (.int a2), none, none, none, none], [.int a2, .ref 138])) (h' := hp N x) rfl ?_
    obtain ⟨w3, h4, h⟩ := bind_ok h
    refine ev_call (v := some (.int w3)) (h1 := hp N x) rfl rfl rfl rfl (em118 a2 x _ h4) ?_
    show Ev 177 (0, 0) (12, [some (.ref 138), some (.int a1), some (.int a2), none, none, none, none], [.int w3]) (hp N x) _
    rcases ite_or h with ⟨h5, h⟩ | ⟨h5, h⟩
    · refine ev_ift rfl (decide_eq_true h5) ?_
      exact em177_19 a1 a2 x _ h
    · refine ev_iff rfl (decide_eq_false h5) ?_
      refine ev_run (n := 2) (u' := (0, 0)) (f' := (20, [some (.ref 138), some (.int a1), some (.int a2), none, none, none, none], [.int 1])) (h' := hp N x) rfl ?_
      exact em177_20 a1 a2 1 x _ h
def gm178_20 (a1 : Int32) (s1 : Int32) (x : Hs) : Option (Int32 × Hs) := (gm113 s1 x).bind fun w4 => (if w4.1 = 0 then (cond (aIn a1 8192) (some (w4.2.1 182 (xi a1), w4.2)) none) else (some (0, w4.2)))
theorem em178_20 {N : Nat} (a1 : Int32) (s1 : Int32) (x : Hs) (r : Int32 × Hs) (h : gm178_20 a1 s1 x = some r) : Ev 178 (0, 0) (20, [some (.ref 138), some (.int a1)], [.int s1, .ref 138]) (hp N x) (cvMi N r) := by
  unfold gm178_20 at h
  obtain ⟨w4, h5, h⟩ := bind_ok h
  refine ev_call (v := some (.int w4.1)) (h1 := hp N w4.2) rfl rfl rfl rfl (em113 s1 x _ h5) ?_
  show Ev 178 (0, 0) (23, [some (.ref 138), some (.int a1)], [.int w4.1]) (hp N w4.2) _
  rcases ite_or h with ⟨h7, h⟩ | ⟨h7, h⟩
  · refine ev_ift rfl (decide_eq_true h7) ?_
    refine ev_run (n := 3) (u' := (0, 0)) (f' := (35, [some (.ref 138), some (.int a1)], [.int a1, .ref 182])) (h' := hp N w4.2) rfl ?_
    obtain ⟨h6, h⟩ := cond_some h
    refine ev_iald rfl rfl h6 ?_
    cases h
    exact ev_iret rfl rfl rfl (Or.inl rfl)
  · refine ev_iff rfl (decide_eq_false h7) ?_
    refine ev_run (n := 2) (u' := (0, 0)) (f' := (36, [none, none], [.int 0])) (h' := hp N w4.2) rfl ?_
    cases h
    exact ev_iret rfl rfl rfl (Or.inl rfl)
def gm178 (a1 : Int32) (x : Hs) : Option (Int32 × Hs) := (gm114 a1 0 (x.1 138 51 - 1) x).bind fun w1 => (if w1 = 0 then (gm178_20 a1 1 x) else (gm178_20 a1 0 x))
theorem em178 {N : Nat} (a1 : Int32) (x : Hs) (r : Int32 × Hs) (h : gm178 a1 x = some r) : Ev 178 (0, 0) (0, aPad [.ref 138, .int a1] 2, []) (hp N x) (cvMi N r) := by
  show Ev 178 (0, 0) (0, [some (.ref 138), some (.int a1)], []) (hp N x) _
  unfold gm178 at h
  refine ev_run (n := 7) (u' := (0, 0)) (f' := (9, [some (.ref 138), some (.int a1)], [.int (x.1 138 51 - 1), .int 0, .int a1, .ref 138])) (h' := hp N x) rfl ?_
  obtain ⟨w1, h2, h⟩ := bind_ok h
  refine ev_call (v := some (.int w1)) (h1 := hp N x) rfl rfl rfl rfl (em114 a1 0 (x.1 138 51 - 1) x _ h2) ?_
  show Ev 178 (0, 0) (12, [some (.ref 138), some (.int a1)], [.int w1, .ref 138]) (hp N x) _
  rcases ite_or h with ⟨h3, h⟩ | ⟨h3, h⟩
  · refine ev_ift rfl (decide_eq_true h3) ?_
    refine ev_run (n := 1) (u' := (0, 0)) (f' := (20, [some (.ref 138), some (.int a1)], [.int 1, .ref 138])) (h' := hp N x) rfl ?_
    exact em178_20 a1 1 x _ h
  · refine ev_iff rfl (decide_eq_false h3) ?_
    refine ev_run (n := 2) (u' := (0, 0)) (f' := (20, [some (.ref 138), some (.int a1)], [.int 0, .ref 138])) (h' := hp N x) rfl ?_
    exact em178_20 a1 0 x _ h
def gm182 (x : Hs) : Option (Int32 × Hs) := (gm59 x).bind fun w1 => match w1 with | (.inl v3, x5) => (cond (aIn 0 1) (some (0, (wJ x5 187 (xi 0) (Int32.toInt64 v3)))) none) | (.inr k4, x5) => (if k4 = 2 then (some (1, x5)) else (none))
theorem em182 {N : Nat} {u1 u2 : Nat} (hu1 : u1 + 1 ≤ 1) (hu2 : u2 + 6 ≤ 6) (x : Hs) (r : Int32 × Hs) (h : gm182 x = some r) : Ev 182 (u1, u2) (0, aPad [.ref 1, .ref 187] 3, []) (hp N x) (cvMi N r) := by
  show Ev 182 (u1, u2) (0, [some (.ref 1), some (.ref 187), none], []) (hp N x) _
  unfold gm182 at h
  refine ev_run (n := 3) (u' := (u1, u2)) (f' := (3, [some (.ref 1), some (.ref 187), none], [.ref 1, .int 0, .ref 187])) (h' := hp N x) rfl ?_
  obtain ⟨w1, h2, h⟩ := bind_ok h
  obtain ⟨w1, x5⟩ := w1
  cases w1 with
  | inl v3 =>
    refine ev_call (v := some (.int v3)) (h1 := hp N x5) rfl rfl rfl (ok_u rfl (by show u1 + 1 ≤ 1; omega) (by show u2 + 6 ≤ 6; omega)) (em59 (by decide) (by decide) x _ h2) ?_
    show Ev 182 (u1 + 1, u2 + 6) (6, [some (.ref 1), some (.ref 187), none], [.int v3, .int 0, .ref 187]) (hp N x5) _
    refine ev_run (n := 1) (u' := (u1 + 1, u2 + 6)) (f' := (7, [some (.ref 1), some (.ref 187), none], [.long (Int32.toInt64 v3), .int 0, .ref 187])) (h' := hp N x5) rfl ?_
    obtain ⟨h6, h⟩ := cond_some h
    refine ev_last rfl rfl h6 ?_
    show Ev 182 (u1 + 1, u2 + 6) (8, [some (.ref 1), some (.ref 187), none], []) (hp N (wJ x5 187 (xi 0) (Int32.toInt64 v3))) _
    refine ev_run (n := 2) (u' := (u1 + 1, u2 + 6)) (f' := (15, [none, none, none], [.int 0])) (h' := hp N (wJ x5 187 (xi 0) (Int32.toInt64 v3))) rfl ?_
    cases h
    exact ev_iret rfl (end_u (by show _ ≤ 1; omega) (by show _ ≤ 6; omega)) rfl (Or.inl rfl)
  | inr k4 =>
    rcases ite_or h with ⟨h7, h⟩ | ⟨-, h⟩
    · subst h7
      refine ev_callH (h1 := hp N x5) (t0 := 11) (t := 12) (a := 2) rfl rfl rfl (ok_u rfl (by show u1 + 1 ≤ 1; omega) (by show u2 + 6 ≤ 6; omega)) rfl rfl rfl (em59 (by decide) (by decide) x _ h2) ?_
      show Ev 182 (u1 + 1, u2 + 6) (12, [some (.ref 1), some (.ref 187), none], []) (hp N x5) _
      refine ev_run (n := 1) (u' := (u1 + 1, u2 + 6)) (f' := (13, [some (.ref 1), some (.ref 187), none], [.int 1])) (h' := hp N x5) rfl ?_
      cases h
      exact ev_iret rfl (end_u (by show _ ≤ 1; omega) (by show _ ≤ 6; omega)) rfl (Or.inl rfl)
    cases h
def gm183 (a1 : Int32) (a2 : Int32) (x : Hs) : Option (Int32 × Hs) := (gm60 a1 a2 x).bind fun w1 => match w1 with | (.inl v3, x5) => (cond (aIn 0 1) (some (0, (wJ x5 187 (xi 0) (Int32.toInt64 v3)))) none) | (.inr k4, x5) => (if k4 = 0 then (some (1, x5)) else (if k4 = 1 then (some (2, x5)) else (if k4 = 2 then (some (3, x5)) else (none))))
theorem em183 {N : Nat} {u1 u2 : Nat} (a1 : Int32) (a2 : Int32) (hu1 : u1 + 4 ≤ 4) (hu2 : u2 + 24 ≤ 24) (x : Hs) (r : Int32 × Hs) (h : gm183 a1 a2 x = some r) : Ev 183 (u1, u2) (0, aPad [.ref 1, .int a1, .int a2, .ref 187] 5, []) (hp N x) (cvMi N r) := by
  show Ev 183 (u1, u2) (0, [some (.ref 1), some (.int a1), some (.int a2), some (.ref 187), none], []) (hp N x) _
  unfold gm183 at h
  refine ev_run (n := 5) (u' := (u1, u2)) (f' := (5, [some (.ref 1), some (.int a1), some (.int a2), some (.ref 187), none], [.int a2, .int a1, .ref 1, .int 0, .ref 187])) (h' := hp N x) rfl ?_
  obtain ⟨w1, h2, h⟩ := bind_ok h
  obtain ⟨w1, x5⟩ := w1
  cases w1 with
  | inl v3 =>
    refine ev_call (v := some (.int v3)) (h1 := hp N x5) rfl rfl rfl (ok_u rfl (by show u1 + 4 ≤ 4; omega) (by show u2 + 24 ≤ 24; omega)) (em60 a1 a2 (by decide) (by decide) x _ h2) ?_
    show Ev 183 (u1 + 4, u2 + 24) (8, [some (.ref 1), some (.int a1), some (.int a2), some (.ref 187), none], [.int v3, .int 0, .ref 187]) (hp N x5) _
    refine ev_run (n := 1) (u' := (u1 + 4, u2 + 24)) (f' := (9, [some (.ref 1), some (.int a1), some (.int a2), some (.ref 187), none], [.long (Int32.toInt64 v3), .int 0, .ref 187])) (h' := hp N x5) rfl ?_
    obtain ⟨h6, h⟩ := cond_some h
    refine ev_last rfl rfl h6 ?_
    show Ev 183 (u1 + 4, u2 + 24) (10, [some (.ref 1), some (.int a1), some (.int a2), some (.ref 187), none], []) (hp N (wJ x5 187 (xi 0) (Int32.toInt64 v3))) _
    refine ev_run (n := 2) (u' := (u1 + 4, u2 + 24)) (f' := (26, [none, none, none, none, none], [.int 0])) (h' := hp N (wJ x5 187 (xi 0) (Int32.toInt64 v3))) rfl ?_
    cases h
    exact ev_iret rfl (end_u (by show _ ≤ 4; omega) (by show _ ≤ 24; omega)) rfl (Or.inl rfl)
  | inr k4 =>
    rcases ite_or h with ⟨h7, h⟩ | ⟨-, h⟩
    · subst h7
      refine ev_callH (h1 := hp N x5) (t0 := 13) (t := 15) (a := 4) rfl rfl rfl (ok_u rfl (by show u1 + 4 ≤ 4; omega) (by show u2 + 24 ≤ 24; omega)) rfl rfl rfl (em60 a1 a2 (by decide) (by decide) x _ h2) ?_
      show Ev 183 (u1 + 4, u2 + 24) (15, [some (.ref 1), some (.int a1), some (.int a2), some (.ref 187), none], []) (hp N x5) _
      refine ev_run (n := 1) (u' := (u1 + 4, u2 + 24)) (f' := (16, [some (.ref 1), some (.int a1), some (.int a2), some (.ref 187), none], [.int 1])) (h' := hp N x5) rfl ?_
      cases h
      exact ev_iret rfl (end_u (by show _ ≤ 4; omega) (by show _ ≤ 24; omega)) rfl (Or.inl rfl)
    rcases ite_or h with ⟨h8, h⟩ | ⟨-, h⟩
    · subst h8
      refine ev_callH (h1 := hp N x5) (t0 := 17) (t := 19) (a := 4) rfl rfl rfl (ok_u rfl (by show u1 + 4 ≤ 4; omega) (by show u2 + 24 ≤ 24; omega)) rfl rfl rfl (em60 a1 a2 (by decide) (by decide) x _ h2) ?_
      show Ev 183 (u1 + 4, u2 + 24) (19, [some (.ref 1), some (.int a1), some (.int a2), some (.ref 187), none], []) (hp N x5) _
      refine ev_run (n := 1) (u' := (u1 + 4, u2 + 24)) (f' := (20, [some (.ref 1), some (.int a1), some (.int a2), some (.ref 187), none], [.int 2])) (h' := hp N x5) rfl ?_
      cases h
      exact ev_iret rfl (end_u (by show _ ≤ 4; omega) (by show _ ≤ 24; omega)) rfl (Or.inl rfl)
    rcases ite_or h with ⟨h9, h⟩ | ⟨-, h⟩
    · subst h9
      refine ev_callH (h1 := hp N x5) (t0 := 21) (t := 23) (a := 4) rfl rfl rfl (ok_u rfl (by show u1 + 4 ≤ 4; omega) (by show u2 + 24 ≤ 24; omega)) rfl rfl rfl (em60 a1 a2 (by decide) (by decide) x _ h2) ?_
      show Ev 183 (u1 + 4, u2 + 24) (23, [some (.ref 1), some (.int a1), some (.int a2), some (.ref 187), none], []) (hp N x5) _
      refine ev_run (n := 1) (u' := (u1 + 4, u2 + 24)) (f' := (24, [some (.ref 1), some (.int a1), some (.int a2), some (.ref 187), none], [.int 3])) (h' := hp N x5) rfl ?_
      cases h
      exact ev_iret rfl (end_u (by show _ ≤ 4; omega) (by show _ ≤ 24; omega)) rfl (Or.inl rfl)
    cases h
def gm184 (a1 : Int32) (a2 : Int32) (x : Hs) : Option (Int32 × Hs) := (gm61 a1 a2 x).bind fun w1 => match w1 with | (.inl v3, x5) => (cond (aIn 0 1) (some (0, (wJ x5 187 (xi 0) (Int32.toInt64 v3)))) none) | (.inr k4, x5) => (if k4 = 0 then (some (1, x5)) else (if k4 = 1 then (some (2, x5)) else (if k4 = 2 then (some (3, x5)) else (none))))
theorem em184 {N : Nat} {u1 u2 : Nat} (a1 : Int32) (a2 : Int32) (hu1 : u1 + 3 ≤ 3) (hu2 : u2 + 18 ≤ 18) (x : Hs) (r : Int32 × Hs) (h : gm184 a1 a2 x = some r) : Ev 184 (u1, u2) (0, aPad [.ref 1, .int a1, .int a2, .ref 187] 5, []) (hp N x) (cvMi N r) := by
  show Ev 184 (u1, u2) (0, [some (.ref 1), some (.int a1), some (.int a2), some (.ref 187), none], []) (hp N x) _
  unfold gm184 at h
  refine ev_run (n := 5) (u' := (u1, u2)) (f' := (5, [some (.ref 1), some (.int a1), some (.int a2), some (.ref 187), none], [.int a2, .int a1, .ref 1, .int 0, .ref 187])) (h' := hp N x) rfl ?_
  obtain ⟨w1, h2, h⟩ := bind_ok h
  obtain ⟨w1, x5⟩ := w1
  cases w1 with
  | inl v3 =>
    refine ev_call (v := some (.int v3)) (h1 := hp N x5) rfl rfl rfl (ok_u rfl (by show u1 + 3 ≤ 3; omega) (by show u2 + 18 ≤ 18; omega)) (em61 a1 a2 (by decide) (by decide) x _ h2) ?_
    show Ev 184 (u1 + 3, u2 + 18) (8, [some (.ref 1), some (.int a1), some (.int a2), some (.ref 187), none], [.int v3, .int 0, .ref 187]) (hp N x5) _
    refine ev_run (n := 1) (u' := (u1 + 3, u2 + 18)) (f' := (9, [some (.ref 1), some (.int a1), some (.int a2), some (.ref 187), none], [.long (Int32.toInt64 v3), .int 0, .ref 187])) (h' := hp N x5) rfl ?_
    obtain ⟨h6, h⟩ := cond_some h
    refine ev_last rfl rfl h6 ?_
    show Ev 184 (u1 + 3, u2 + 18) (10, [some (.ref 1), some (.int a1), some (.int a2), some (.ref 187), none], []) (hp N (wJ x5 187 (xi 0) (Int32.toInt64 v3))) _
    refine ev_run (n := 2) (u' := (u1 + 3, u2 + 18)) (f' := (26, [none, none, none, none, none], [.int 0])) (h' := hp N (wJ x5 187 (xi 0) (Int32.toInt64 v3))) rfl ?_
    cases h
    exact ev_iret rfl (end_u (by show _ ≤ 3; omega) (by show _ ≤ 18; omega)) rfl (Or.inl rfl)
  | inr k4 =>
    rcases ite_or h with ⟨h7, h⟩ | ⟨-, h⟩
    · subst h7
      refine ev_callH (h1 := hp N x5) (t0 := 13) (t := 15) (a := 4) rfl rfl rfl (ok_u rfl (by show u1 + 3 ≤ 3; omega) (by show u2 + 18 ≤ 18; omega)) rfl rfl rfl (em61 a1 a2 (by decide) (by decide) x _ h2) ?_
      show Ev 184 (u1 + 3, u2 + 18) (15, [some (.ref 1), some (.int a1), some (.int a2), some (.ref 187), none], []) (hp N x5) _
      refine ev_run (n := 1) (u' := (u1 + 3, u2 + 18)) (f' := (16, [some (.ref 1), some (.int a1), some (.int a2), some (.ref 187), none], [.int 1])) (h' := hp N x5) rfl ?_
      cases h
      exact ev_iret rfl (end_u (by show _ ≤ 3; omega) (by show _ ≤ 18; omega)) rfl (Or.inl rfl)
    rcases ite_or h with ⟨h8, h⟩ | ⟨-, h⟩
    · subst h8
      refine ev_callH (h1 := hp N x5) (t0 := 17) (t := 19) (a := 4) rfl rfl rfl (ok_u rfl (by show u1 + 3 ≤ 3; omega) (by show u2 + 18 ≤ 18; omega)) rfl rfl rfl (em61 a1 a2 (by decide) (by decide) x _ h2) ?_
      show Ev 184 (u1 + 3, u2 + 18) (19, [some (.ref 1), some (.int a1), some (.int a2), some (.ref 187), none], []) (hp N x5) _
      refine ev_run (n := 1) (u' := (u1 + 3, u2 + 18)) (f' := (20, [some (.ref 1), some (.int a1), some (.int a2), some (.ref 187), none], [.int 2])) (h' := hp N x5) rfl ?_
      cases h
      exact ev_iret rfl (end_u (by show _ ≤ 3; omega) (by show _ ≤ 18; omega)) rfl (Or.inl rfl)
    rcases ite_or h with ⟨h9, h⟩ | ⟨-, h⟩
    · subst h9
      refine ev_callH (h1 := hp N x5) (t0 := 21) (t := 23) (a := 4) rfl rfl rfl (ok_u rfl (by show u1 + 3 ≤ 3; omega) (by show u2 + 18 ≤ 18; omega)) rfl rfl rfl (em61 a1 a2 (by decide) (by decide) x _ h2) ?_
      show Ev 184 (u1 + 3, u2 + 18) (23, [some (.ref 1), some (.int a1), some (.int a2), some (.ref 187), none], []) (hp N x5) _
      refine ev_run (n := 1) (u' := (u1 + 3, u2 + 18)) (f' := (24, [some (.ref 1), some (.int a1), some (.int a2), some (.ref 187), none], [.int 3])) (h' := hp N x5) rfl ?_
      cases h
      exact ev_iret rfl (end_u (by show _ ≤ 3; omega) (by show _ ≤ 18; omega)) rfl (Or.inl rfl)
    cases h
def gm185 (a1 : Int32) (a2 : Int32) (a3 : Int32) (a4 : Int32) (x : Hs) : Option (Int32 × Hs) := (gm62 a1 a2 a3 a4 x).bind fun w1 => match w1 with | (.inl _, x5) => (some (0, x5)) | (.inr k4, x5) => (if k4 = 0 then (some (1, x5)) else (if k4 = 1 then (some (2, x5)) else (if k4 = 2 then (some (3, x5)) else (none))))
theorem em185 {N : Nat} {u1 u2 : Nat} (a1 : Int32) (a2 : Int32) (a3 : Int32) (a4 : Int32) (hu1 : u1 + 4 ≤ 4) (hu2 : u2 + 24 ≤ 24) (x : Hs) (r : Int32 × Hs) (h : gm185 a1 a2 a3 a4 x = some r) : Ev 185 (u1, u2) (0, aPad [.ref 1, .int a1, .int a2, .int a3, .int a4] 6, []) (hp N x) (cvMi N r) := by
  show Ev 185 (u1, u2) (0, [some (.ref 1), some (.int a1), some (.int a2), some (.int a3), some (.int a4), none], []) (hp N x) _
  unfold gm185 at h
  refine ev_run (n := 5) (u' := (u1, u2)) (f' := (6, [some (.ref 1), some (.int a1), some (.int a2), some (.int a3), some (.int a4), none], [.int a4, .int a3, .int a2, .int a1, .ref 1])) (h' := hp N x) rfl ?_
  obtain ⟨w1, h2, h⟩ := bind_ok h
  obtain ⟨w1, x5⟩ := w1
  cases w1 with
  | inl v3 =>
    refine ev_call (v := none) (h1 := hp N x5) rfl rfl rfl (ok_u rfl (by show u1 + 4 ≤ 4; omega) (by show u2 + 24 ≤ 24; omega)) (em62 a1 a2 a3 a4 (by decide) (by decide) x _ h2) ?_
    show Ev 185 (u1 + 4, u2 + 24) (9, [some (.ref 1), some (.int a1), some (.int a2), some (.int a3), some (.int a4), none], []) (hp N x5) _
    refine ev_run (n := 2) (u' := (u1 + 4, u2 + 24)) (f' := (25, [none, none, none, none, none, none], [.int 0])) (h' := hp N x5) rfl ?_
    cases h
    exact ev_iret rfl (end_u (by show _ ≤ 4; omega) (by show _ ≤ 24; omega)) rfl (Or.inl rfl)
  | inr k4 =>
    rcases ite_or h with ⟨h6, h⟩ | ⟨-, h⟩
    · subst h6
      refine ev_callH (h1 := hp N x5) (t0 := 12) (t := 14) (a := 5) rfl rfl rfl (ok_u rfl (by show u1 + 4 ≤ 4; omega) (by show u2 + 24 ≤ 24; omega)) rfl rfl rfl (em62 a1 a2 a3 a4 (by decide) (by decide) x _ h2) ?_
      show Ev 185 (u1 + 4, u2 + 24) (14, [some (.ref 1), some (.int a1), some (.int a2), some (.int a3), some (.int a4), none], []) (hp N x5) _
      refine ev_run (n := 1) (u' := (u1 + 4, u2 + 24)) (f' := (15, [some (.ref 1), some (.int a1), some (.int a2), some (.int a3), some (.int a4), none], [.int 1])) (h' := hp N x5) rfl ?_
      cases h
      exact ev_iret rfl (end_u (by show _ ≤ 4; omega) (by show _ ≤ 24; omega)) rfl (Or.inl rfl)
    rcases ite_or h with ⟨h7, h⟩ | ⟨-, h⟩
    · subst h7
      refine ev_callH (h1 := hp N x5) (t0 := 16) (t := 18) (a := 5) rfl rfl rfl (ok_u rfl (by show u1 + 4 ≤ 4; omega) (by show u2 + 24 ≤ 24; omega)) rfl rfl rfl (em62 a1 a2 a3 a4 (by decide) (by decide) x _ h2) ?_
      show Ev 185 (u1 + 4, u2 + 24) (18, [some (.ref 1), some (.int a1), some (.int a2), some (.int a3), some (.int a4), none], []) (hp N x5) _
      refine ev_run (n := 1) (u' := (u1 + 4, u2 + 24)) (f' := (19, [some (.ref 1), some (.int a1), some (.int a2), some (.int a3), some (.int a4), none], [.int 2])) (h' := hp N x5) rfl ?_
      cases h
      exact ev_iret rfl (end_u (by show _ ≤ 4; omega) (by show _ ≤ 24; omega)) rfl (Or.inl rfl)
    rcases ite_or h with ⟨h8, h⟩ | ⟨-, h⟩
    · subst h8
      refine ev_callH (h1 := hp N x5) (t0 := 20) (t := 22) (a := 5) rfl rfl rfl (ok_u rfl (by show u1 + 4 ≤ 4; omega) (by show u2 + 24 ≤ 24; omega)) rfl rfl rfl (em62 a1 a2 a3 a4 (by decide) (by decide) x _ h2) ?_
      show Ev 185 (u1 + 4, u2 + 24) (22, [some (.ref 1), some (.int a1), some (.int a2), some (.int a3), some (.int a4), none], []) (hp N x5) _
      refine ev_run (n := 1) (u' := (u1 + 4, u2 + 24)) (f' := (23, [some (.ref 1), some (.int a1), some (.int a2), some (.int a3), some (.int a4), none], [.int 3])) (h' := hp N x5) rfl ?_
      cases h
      exact ev_iret rfl (end_u (by show _ ≤ 4; omega) (by show _ ≤ 24; omega)) rfl (Or.inl rfl)
    cases h
def gm186 (a1 : Int32) (a2 : Int32) (x : Hs) : Option (Int32 × Hs) := (gm63 a1 a2 x).bind fun w1 => match w1 with | (.inl _, x5) => (some (0, x5)) | (.inr k4, x5) => (if k4 = 0 then (some (1, x5)) else (if k4 = 2 then (some (2, x5)) else (none)))
theorem em186 {N : Nat} {u1 u2 : Nat} (a1 : Int32) (a2 : Int32) (hu1 : u1 + 3 ≤ 3) (hu2 : u2 + 18 ≤ 18) (x : Hs) (r : Int32 × Hs) (h : gm186 a1 a2 x = some r) : Ev 186 (u1, u2) (0, aPad [.ref 1, .int a1, .int a2] 4, []) (hp N x) (cvMi N r) := by
  show Ev 186 (u1, u2) (0, [some (.ref 1), some (.int a1), some (.int a2), none], []) (hp N x) _
  unfold gm186 at h
  refine ev_run (n := 3) (u' := (u1, u2)) (f' := (3, [some (.ref 1), some (.int a1), some (.int a2), none], [.int a2, .int a1, .ref 1])) (h' := hp N x) rfl ?_
  obtain ⟨w1, h2, h⟩ := bind_ok h
  obtain ⟨w1, x5⟩ := w1
  cases w1 with
  | inl v3 =>
    refine ev_call (v := none) (h1 := hp N x5) rfl rfl rfl (ok_u rfl (by show u1 + 3 ≤ 3; omega) (by show u2 + 18 ≤ 18; omega)) (em63 a1 a2 (by decide) (by decide) x _ h2) ?_
    show Ev 186 (u1 + 3, u2 + 18) (6, [some (.ref 1), some (.int a1), some (.int a2), none], []) (hp N x5) _
    refine ev_run (n := 2) (u' := (u1 + 3, u2 + 18)) (f' := (16, [none, none, none, none], [.int 0])) (h' := hp N x5) rfl ?_
    cases h
    exact ev_iret rfl (end_u (by show _ ≤ 3; omega) (by show _ ≤ 18; omega)) rfl (Or.inl rfl)
  | inr k4 =>
    rcases ite_or h with ⟨h6, h⟩ | ⟨-, h⟩
    · subst h6
      refine ev_callH (h1 := hp N x5) (t0 := 9) (t := 10) (a := 3) rfl rfl rfl (ok_u rfl (by show u1 + 3 ≤ 3; omega) (by show u2 + 18 ≤ 18; omega)) rfl rfl rfl (em63 a1 a2 (by decide) (by decide) x _ h2) ?_
      show Ev 186 (u1 + 3, u2 + 18) (10, [some (.ref 1), some (.int a1), some (.int a2), none], []) (hp N x5) _
      refine ev_run (n := 1) (u' := (u1 + 3, u2 + 18)) (f' := (11, [some (.ref 1), some (.int a1), some (.int a2), none], [.int 1])) (h' := hp N x5) rfl ?_
      cases h
      exact ev_iret rfl (end_u (by show _ ≤ 3; omega) (by show _ ≤ 18; omega)) rfl (Or.inl rfl)
    rcases ite_or h with ⟨h7, h⟩ | ⟨-, h⟩
    · subst h7
      refine ev_callH (h1 := hp N x5) (t0 := 12) (t := 13) (a := 3) rfl rfl rfl (ok_u rfl (by show u1 + 3 ≤ 3; omega) (by show u2 + 18 ≤ 18; omega)) rfl rfl rfl (em63 a1 a2 (by decide) (by decide) x _ h2) ?_
      show Ev 186 (u1 + 3, u2 + 18) (13, [some (.ref 1), some (.int a1), some (.int a2), none], []) (hp N x5) _
      refine ev_run (n := 1) (u' := (u1 + 3, u2 + 18)) (f' := (14, [some (.ref 1), some (.int a1), some (.int a2), none], [.int 2])) (h' := hp N x5) rfl ?_
      cases h
      exact ev_iret rfl (end_u (by show _ ≤ 3; omega) (by show _ ≤ 18; omega)) rfl (Or.inl rfl)
    cases h
def gm187_15 (s1 : Int32) (s2 : Int64) (x : Hs) : Option (Int32 × Hs) := cond (aIn s1 1) (some (0, (wJ x 187 (xi s1) s2))) none
theorem em187_15 {N : Nat} {u1 u2 : Nat} (s1 : Int32) (s2 : Int64) (hu1 : u1 + 0 ≤ 1) (hu2 : u2 + 0 ≤ 6) (x : Hs) (r : Int32 × Hs) (h : gm187_15 s1 s2 x = some r) : Ev 187 (u1, u2) (15, [none, none, none, none], [.long s2, .int s1, .ref 187]) (hp N x) (cvMi N r) := by
  unfold gm187_15 at h
  obtain ⟨h8, h⟩ := cond_some h
  refine ev_last rfl rfl h8 ?_
  show Ev 187 (u1, u2) (16, [none, none, none, none], []) (hp N (wJ x 187 (xi s1) s2)) _
  refine ev_run (n := 2) (u' := (u1, u2)) (f' := (23, [none, none, none, none], [.int 0])) (h' := hp N (wJ x 187 (xi s1) s2)) rfl ?_
  cases h
  exact ev_iret rfl (end_u (by show _ ≤ 1; omega) (by show _ ≤ 6; omega)) rfl (Or.inl rfl)
def gm187 (a1 : Int32) (x : Hs) : Option (Int32 × Hs) := (gm64 a1 x).bind fun w1 => match w1 with | (.inl v3, x5) => (if v3 = 0 then (gm187_15 0 0 x5) else (gm187_15 0 1 x5)) | (.inr k4, x5) => (if k4 = 0 then (some (1, x5)) else (none))
theorem em187 {N : Nat} {u1 u2 : Nat} (a1 : Int32) (hu1 : u1 + 1 ≤ 1) (hu2 : u2 + 6 ≤ 6) (x : Hs) (r : Int32 × Hs) (h : gm187 a1 x = some r) : Ev 187 (u1, u2) (0, aPad [.ref 1, .int a1, .ref 187] 4, []) (hp N x) (cvMi N r) := by
  show Ev 187 (u1, u2) (0, [some (.ref 1), some (.int a1), some (.ref 187), none], []) (hp N x) _
  unfold gm187 at h
  refine ev_run (n := 4) (u' := (u1, u2)) (f' := (4, [some (.ref 1), some (.int a1), some (.ref 187), none], [.int a1, .ref 1, .int 0, .ref 187])) (h' := hp N x) rfl ?_
  obtain ⟨w1, h2, h⟩ := bind_ok h
  obtain ⟨w1, x5⟩ := w1
  cases w1 with
  | inl v3 =>
    refine ev_call (v := some (.int v3)) (h1 := hp N x5) rfl rfl rfl (ok_u rfl (by show u1 + 1 ≤ 1; omega) (by show u2 + 6 ≤ 6; omega)) (em64 a1 (by decide) (by decide) x _ h2) ?_
    show Ev 187 (u1 + 1, u2 + 6) (7, [some (.ref 1), some (.int a1), some (.ref 187), none], [.int v3, .int 0, .ref 187]) (hp N x5) _
    rcases ite_or h with ⟨h6, h⟩ | ⟨h6, h⟩
    · refine ev_ift rfl (decide_eq_true h6) ?_
      refine ev_run (n := 1) (u' := (u1 + 1, u2 + 6)) (f' := (15, [none, none, none, none], [.long 0, .int 0, .ref 187])) (h' := hp N x5) rfl ?_
      exact em187_15 0 0 (by omega) (by omega) x5 _ h
    · refine ev_iff rfl (decide_eq_false h6) ?_
      refine ev_run (n := 2) (u' := (u1 + 1, u2 + 6)) (f' := (15, [none, none, none, none], [.long 1, .int 0, .ref 187])) (h' := hp N x5) rfl ?_
      exact em187_15 0 1 (by omega) (by omega) x5 _ h
  | inr k4 =>
    rcases ite_or h with ⟨h7, h⟩ | ⟨-, h⟩
    · subst h7
      refine ev_callH (h1 := hp N x5) (t0 := 19) (t := 20) (a := 3) rfl rfl rfl (ok_u rfl (by show u1 + 1 ≤ 1; omega) (by show u2 + 6 ≤ 6; omega)) rfl rfl rfl (em64 a1 (by decide) (by decide) x _ h2) ?_
      show Ev 187 (u1 + 1, u2 + 6) (20, [some (.ref 1), some (.int a1), some (.ref 187), none], []) (hp N x5) _
      refine ev_run (n := 1) (u' := (u1 + 1, u2 + 6)) (f' := (21, [some (.ref 1), some (.int a1), some (.ref 187), none], [.int 1])) (h' := hp N x5) rfl ?_
      cases h
      exact ev_iret rfl (end_u (by show _ ≤ 1; omega) (by show _ ≤ 6; omega)) rfl (Or.inl rfl)
    cases h
def gm188 (a1 : Int32) (a2 : Int32) (x : Hs) : Option (Int32 × Hs) := (gm65 a1 a2 x).bind fun w1 => match w1 with | (.inl v3, x5) => (cond (aIn 0 1) (some (0, (wJ x5 187 (xi 0) (Int32.toInt64 v3)))) none) | (.inr k4, x5) => (if k4 = 0 then (some (1, x5)) else (if k4 = 1 then (some (2, x5)) else (if k4 = 2 then (some (3, x5)) else (none))))
theorem em188 {N : Nat} {u1 u2 : Nat} (a1 : Int32) (a2 : Int32) (hu1 : u1 + 4 ≤ 4) (hu2 : u2 + 24 ≤ 24) (x : Hs) (r : Int32 × Hs) (h : gm188 a1 a2 x = some r) : Ev 188 (u1, u2) (0, aPad [.ref 1, .int a1, .int a2, .ref 187] 5, []) (hp N x) (cvMi N r) := by
  show Ev 188 (u1, u2) (0, [some (.ref 1), some (.int a1), some (.int a2), some (.ref 187), none], []) (hp N x) _
  unfold gm188 at h
  refine ev_run (n := 5) (u' := (u1, u2)) (f' := (5, [some (.ref 1), some (.int a1), some (.int a2), some (.ref 187), none], [.int a2, .int a1, .ref 1, .int 0, .ref 187])) (h' := hp N x) rfl ?_
  obtain ⟨w1, h2, h⟩ := bind_ok h
  obtain ⟨w1, x5⟩ := w1
  cases w1 with
  | inl v3 =>
    refine ev_call (v := some (.int v3)) (h1 := hp N x5) rfl rfl rfl (ok_u rfl (by show u1 + 4 ≤ 4; omega) (by show u2 + 24 ≤ 24; omega)) (em65 a1 a2 (by decide) (by decide) x _ h2) ?_
    show Ev 188 (u1 + 4, u2 + 24) (8, [some (.ref 1), some (.int a1), some (.int a2), some (.ref 187), none], [.int v3, .int 0, .ref 187]) (hp N x5) _
    refine ev_run (n := 1) (u' := (u1 + 4, u2 + 24)) (f' := (9, [some (.ref 1), some (.int a1), some (.int a2), some (.ref 187), none], [.long (Int32.toInt64 v3), .int 0, .ref 187])) (h' := hp N x5) rfl ?_
    obtain ⟨h6, h⟩ := cond_some h
    refine ev_last rfl rfl h6 ?_
    show Ev 188 (u1 + 4, u2 + 24) (10, [some (.ref 1), some (.int a1), some (.int a2), some (.ref 187), none], []) (hp N (wJ x5 187 (xi 0) (Int32.toInt64 v3))) _
    refine ev_run (n := 2) (u' := (u1 + 4, u2 + 24)) (f' := (26, [none, none, none, none, none], [.int 0])) (h' := hp N (wJ x5 187 (xi 0) (Int32.toInt64 v3))) rfl ?_
    cases h
    exact ev_iret rfl (end_u (by show _ ≤ 4; omega) (by show _ ≤ 24; omega)) rfl (Or.inl rfl)
  | inr k4 =>
    rcases ite_or h with ⟨h7, h⟩ | ⟨-, h⟩
    · subst h7
      refine ev_callH (h1 := hp N x5) (t0 := 13) (t := 15) (a := 4) rfl rfl rfl (ok_u rfl (by show u1 + 4 ≤ 4; omega) (by show u2 + 24 ≤ 24; omega)) rfl rfl rfl (em65 a1 a2 (by decide) (by decide) x _ h2) ?_
      show Ev 188 (u1 + 4, u2 + 24) (15, [some (.ref 1), some (.int a1), some (.int a2), some (.ref 187), none], []) (hp N x5) _
      refine ev_run (n := 1) (u' := (u1 + 4, u2 + 24)) (f' := (16, [some (.ref 1), some (.int a1), some (.int a2), some (.ref 187), none], [.int 1])) (h' := hp N x5) rfl ?_
      cases h
      exact ev_iret rfl (end_u (by show _ ≤ 4; omega) (by show _ ≤ 24; omega)) rfl (Or.inl rfl)
    rcases ite_or h with ⟨h8, h⟩ | ⟨-, h⟩
    · subst h8
      refine ev_callH (h1 := hp N x5) (t0 := 17) (t := 19) (a := 4) rfl rfl rfl (ok_u rfl (by show u1 + 4 ≤ 4; omega) (by show u2 + 24 ≤ 24; omega)) rfl rfl rfl (em65 a1 a2 (by decide) (by decide) x _ h2) ?_
      show Ev 188 (u1 + 4, u2 + 24) (19, [some (.ref 1), some (.int a1), some (.int a2), some (.ref 187), none], []) (hp N x5) _
      refine ev_run (n := 1) (u' := (u1 + 4, u2 + 24)) (f' := (20, [some (.ref 1), some (.int a1), some (.int a2), some (.ref 187), none], [.int 2])) (h' := hp N x5) rfl ?_
      cases h
      exact ev_iret rfl (end_u (by show _ ≤ 4; omega) (by show _ ≤ 24; omega)) rfl (Or.inl rfl)
    rcases ite_or h with ⟨h9, h⟩ | ⟨-, h⟩
    · subst h9
      refine ev_callH (h1 := hp N x5) (t0 := 21) (t := 23) (a := 4) rfl rfl rfl (ok_u rfl (by show u1 + 4 ≤ 4; omega) (by show u2 + 24 ≤ 24; omega)) rfl rfl rfl (em65 a1 a2 (by decide) (by decide) x _ h2) ?_
      show Ev 188 (u1 + 4, u2 + 24) (23, [some (.ref 1), some (.int a1), some (.int a2), some (.ref 187), none], []) (hp N x5) _
      refine ev_run (n := 1) (u' := (u1 + 4, u2 + 24)) (f' := (24, [some (.ref 1), some (.int a1), some (.int a2), some (.ref 187), none], [.int 3])) (h' := hp N x5) rfl ?_
      cases h
      exact ev_iret rfl (end_u (by show _ ≤ 4; omega) (by show _ ≤ 24; omega)) rfl (Or.inl rfl)
    cases h
def gm189 (a1 : Int32) (x : Hs) : Option (Int32 × Hs) := (gm66 a1 x).bind fun w1 => match w1 with | (.inl v3, x5) => (cond (aIn 0 1) (some (0, (wJ x5 187 (xi 0) (Int32.toInt64 v3)))) none) | (.inr k4, x5) => (if k4 = 0 then (some (1, x5)) else (if k4 = 2 then (some (2, x5)) else (none)))
theorem em189 {N : Nat} {u1 u2 : Nat} (a1 : Int32) (hu1 : u1 + 2 ≤ 2) (hu2 : u2 + 12 ≤ 12) (x : Hs) (r : Int32 × Hs) (h : gm189 a1 x = some r) : Ev 189 (u1, u2) (0, aPad [.ref 1, .int a1, .ref 187] 4, []) (hp N x) (cvMi N r) := by
  show Ev 189 (u1, u2) (0, [some (.ref 1), some (.int a1), some (.ref 187), none], []) (hp N x) _
  unfold gm189 at h
  refine ev_run (n := 4) (u' := (u1, u2)) (f' := (4, [some (.ref 1), some (.int a1), some (.ref 187), none], [.int a1, .ref 1, .int 0, .ref 187])) (h' := hp N x) rfl ?_
  obtain ⟨w1, h2, h⟩ := bind_ok h
  obtain ⟨w1, x5⟩ := w1
  cases w1 with
  | inl v3 =>
    refine ev_call (v := some (.int v3)) (h1 := hp N x5) rfl rfl rfl (ok_u rfl (by show u1 + 2 ≤ 2; omega) (by show u2 + 12 ≤ 12; omega)) (em66 a1 (by decide) (by decide) x _ h2) ?_
    show Ev 189 (u1 + 2, u2 + 12) (7, [some (.ref 1), some (.int a1), some (.ref 187), none], [.int v3, .int 0, .ref 187]) (hp N x5) _
    refine ev_run (n := 1) (u' := (u1 + 2, u2 + 12)) (f' := (8, [some (.ref 1), some (.int a1), some (.ref 187), none], [.long (Int32.toInt64 v3), .int 0, .ref 187])) (h' := hp N x5) rfl ?_
    obtain ⟨h6, h⟩ := cond_some h
    refine ev_last rfl rfl h6 ?_
    show Ev 189 (u1 + 2, u2 + 12) (9, [some (.ref 1), some (.int a1), some (.ref 187), none], []) (hp N (wJ x5 187 (xi 0) (Int32.toInt64 v3))) _
    refine ev_run (n := 2) (u' := (u1 + 2, u2 + 12)) (f' := (19, [none, none, none, none], [.int 0])) (h' := hp N (wJ x5 187 (xi 0) (Int32.toInt64 v3))) rfl ?_
    cases h
    exact ev_iret rfl (end_u (by show _ ≤ 2; omega) (by show _ ≤ 12; omega)) rfl (Or.inl rfl)
  | inr k4 =>
    rcases ite_or h with ⟨h7, h⟩ | ⟨-, h⟩
    · subst h7
      refine ev_callH (h1 := hp N x5) (t0 := 12) (t := 13) (a := 3) rfl rfl rfl (ok_u rfl (by show u1 + 2 ≤ 2; omega) (by show u2 + 12 ≤ 12; omega)) rfl rfl rfl (em66 a1 (by decide) (by decide) x _ h2) ?_
      show Ev 189 (u1 + 2, u2 + 12) (13, [some (.ref 1), some (.int a1), some (.ref 187), none], []) (hp N x5) _
      refine ev_run (n := 1) (u' := (u1 + 2, u2 + 12)) (f' := (14, [some (.ref 1), some (.int a1), some (.ref 187), none], [.int 1])) (h' := hp N x5) rfl ?_
      cases h
      exact ev_iret rfl (end_u (by show _ ≤ 2; omega) (by show _ ≤ 12; omega)) rfl (Or.inl rfl)
    rcases ite_or h with ⟨h8, h⟩ | ⟨-, h⟩
    · subst h8
      refine ev_callH (h1 := hp N x5) (t0 := 15) (t := 16) (a := 3) rfl rfl rfl (ok_u rfl (by show u1 + 2 ≤ 2; omega) (by show u2 + 12 ≤ 12; omega)) rfl rfl rfl (em66 a1 (by decide) (by decide) x _ h2) ?_
      show Ev 189 (u1 + 2, u2 + 12) (16, [some (.ref 1), some (.int a1), some (.ref 187), none], []) (hp N x5) _
      refine ev_run (n := 1) (u' := (u1 + 2, u2 + 12)) (f' := (17, [some (.ref 1), some (.int a1), some (.ref 187), none], [.int 2])) (h' := hp N x5) rfl ?_
      cases h
      exact ev_iret rfl (end_u (by show _ ≤ 2; omega) (by show _ ≤ 12; omega)) rfl (Or.inl rfl)
    cases h
def gm190 (a1 : Int32) (x : Hs) : Option (Int32 × Hs) := (gm67 a1 x).bind fun w1 => match w1 with | (.inl v3, x5) => (cond (aIn 0 1) (some (0, (wJ x5 187 (xi 0) (Int32.toInt64 v3)))) none) | (.inr k4, x5) => (if k4 = 0 then (some (1, x5)) else (if k4 = 2 then (some (2, x5)) else (none)))
theorem em190 {N : Nat} {u1 u2 : Nat} (a1 : Int32) (hu1 : u1 + 2 ≤ 2) (hu2 : u2 + 12 ≤ 12) (x : Hs) (r : Int32 × Hs) (h : gm190 a1 x = some r) : Ev 190 (u1, u2) (0, aPad [.ref 1, .int a1, .ref 187] 4, []) (hp N x) (cvMi N r) := by
  show Ev 190 (u1, u2) (0, [some (.ref 1), some (.int a1), some (.ref 187), none], []) (hp N x) _
  unfold gm190 at h
  refine ev_run (n := 4) (u' := (u1, u2)) (f' := (4, [some (.ref 1), some (.int a1), some (.ref 187), none], [.int a1, .ref 1, .int 0, .ref 187])) (h' := hp N x) rfl ?_
  obtain ⟨w1, h2, h⟩ := bind_ok h
  obtain ⟨w1, x5⟩ := w1
  cases w1 with
  | inl v3 =>
    refine ev_call (v := some (.int v3)) (h1 := hp N x5) rfl rfl rfl (ok_u rfl (by show u1 + 2 ≤ 2; omega) (by show u2 + 12 ≤ 12; omega)) (em67 a1 (by decide) (by decide) x _ h2) ?_
    show Ev 190 (u1 + 2, u2 + 12) (7, [some (.ref 1), some (.int a1), some (.ref 187), none], [.int v3, .int 0, .ref 187]) (hp N x5) _
    refine ev_run (n := 1) (u' := (u1 + 2, u2 + 12)) (f' := (8, [some (.ref 1), some (.int a1), some (.ref 187), none], [.long (Int32.toInt64 v3), .int 0, .ref 187])) (h' := hp N x5) rfl ?_
    obtain ⟨h6, h⟩ := cond_some h
    refine ev_last rfl rfl h6 ?_
    show Ev 190 (u1 + 2, u2 + 12) (9, [some (.ref 1), some (.int a1), some (.ref 187), none], []) (hp N (wJ x5 187 (xi 0) (Int32.toInt64 v3))) _
    refine ev_run (n := 2) (u' := (u1 + 2, u2 + 12)) (f' := (19, [none, none, none, none], [.int 0])) (h' := hp N (wJ x5 187 (xi 0) (Int32.toInt64 v3))) rfl ?_
    cases h
    exact ev_iret rfl (end_u (by show _ ≤ 2; omega) (by show _ ≤ 12; omega)) rfl (Or.inl rfl)
  | inr k4 =>
    rcases ite_or h with ⟨h7, h⟩ | ⟨-, h⟩
    · subst h7
      refine ev_callH (h1 := hp N x5) (t0 := 12) (t := 13) (a := 3) rfl rfl rfl (ok_u rfl (by show u1 + 2 ≤ 2; omega) (by show u2 + 12 ≤ 12; omega)) rfl rfl rfl (em67 a1 (by decide) (by decide) x _ h2) ?_
      show Ev 190 (u1 + 2, u2 + 12) (13, [some (.ref 1), some (.int a1), some (.ref 187), none], []) (hp N x5) _
      refine ev_run (n := 1) (u' := (u1 + 2, u2 + 12)) (f' := (14, [some (.ref 1), some (.int a1), some (.ref 187), none], [.int 1])) (h' := hp N x5) rfl ?_
      cases h
      exact ev_iret rfl (end_u (by show _ ≤ 2; omega) (by show _ ≤ 12; omega)) rfl (Or.inl rfl)
    rcases ite_or h with ⟨h8, h⟩ | ⟨-, h⟩
    · subst h8
      refine ev_callH (h1 := hp N x5) (t0 := 15) (t := 16) (a := 3) rfl rfl rfl (ok_u rfl (by show u1 + 2 ≤ 2; omega) (by show u2 + 12 ≤ 12; omega)) rfl rfl rfl (em67 a1 (by decide) (by decide) x _ h2) ?_
      show Ev 190 (u1 + 2, u2 + 12) (16, [some (.ref 1), some (.int a1), some (.ref 187), none], []) (hp N x5) _
      refine ev_run (n := 1) (u' := (u1 + 2, u2 + 12)) (f' := (17, [some (.ref 1), some (.int a1), some (.ref 187), none], [.int 2])) (h' := hp N x5) rfl ?_
      cases h
      exact ev_iret rfl (end_u (by show _ ≤ 2; omega) (by show _ ≤ 12; omega)) rfl (Or.inl rfl)
    cases h
def gm191 (a1 : Int32) (x : Hs) : Option (Int32 × Hs) := (gm68 a1 x).bind fun w1 => match w1 with | (.inl v3, x5) => (cond (aIn 0 1) (some (0, (wJ x5 187 (xi 0) (Int32.toInt64 v3)))) none) | (.inr k4, x5) => (if k4 = 0 then (some (1, x5)) else (if k4 = 2 then (some (2, x5)) else (none)))
theorem em191 {N : Nat} {u1 u2 : Nat} (a1 : Int32) (hu1 : u1 + 2 ≤ 2) (hu2 : u2 + 12 ≤ 12) (x : Hs) (r : Int32 × Hs) (h : gm191 a1 x = some r) : Ev 191 (u1, u2) (0, aPad [.ref 1, .int a1, .ref 187] 4, []) (hp N x) (cvMi N r) := by
  show Ev 191 (u1, u2) (0, [some (.ref 1), some (.int a1), some (.ref 187), none], []) (hp N x) _
  unfold gm191 at h
  refine ev_run (n := 4) (u' := (u1, u2)) (f' := (4, [some (.ref 1), some (.int a1), some (.ref 187), none], [.int a1, .ref 1, .int 0, .ref 187])) (h' := hp N x) rfl ?_
  obtain ⟨w1, h2, h⟩ := bind_ok h
  obtain ⟨w1, x5⟩ := w1
  cases w1 with
  | inl v3 =>
    refine ev_call (v := some (.int v3)) (h1 := hp N x5) rfl rfl rfl (ok_u rfl (by show u1 + 2 ≤ 2; omega) (by show u2 + 12 ≤ 12; omega)) (em68 a1 (by decide) (by decide) x _ h2) ?_
    show Ev 191 (u1 + 2, u2 + 12) (7, [some (.ref 1), some (.int a1), some (.ref 187), none], [.int v3, .int 0, .ref 187]) (hp N x5) _
    refine ev_run (n := 1) (u' := (u1 + 2, u2 + 12)) (f' := (8, [some (.ref 1), some (.int a1), some (.ref 187), none], [.long (Int32.toInt64 v3), .int 0, .ref 187])) (h' := hp N x5) rfl ?_
    obtain ⟨h6, h⟩ := cond_some h
    refine ev_last rfl rfl h6 ?_
    show Ev 191 (u1 + 2, u2 + 12) (9, [some (.ref 1), some (.int a1), some (.ref 187), none], []) (hp N (wJ x5 187 (xi 0) (Int32.toInt64 v3))) _
    refine ev_run (n := 2) (u' := (u1 + 2, u2 + 12)) (f' := (19, [none, none, none, none], [.int 0])) (h' := hp N (wJ x5 187 (xi 0) (Int32.toInt64 v3))) rfl ?_
    cases h
    exact ev_iret rfl (end_u (by show _ ≤ 2; omega) (by show _ ≤ 12; omega)) rfl (Or.inl rfl)
  | inr k4 =>
    rcases ite_or h with ⟨h7, h⟩ | ⟨-, h⟩
    · subst h7
      refine ev_callH (h1 := hp N x5) (t0 := 12) (t := 13) (a := 3) rfl rfl rfl (ok_u rfl (by show u1 + 2 ≤ 2; omega) (by show u2 + 12 ≤ 12; omega)) rfl rfl rfl (em68 a1 (by decide) (by decide) x _ h2) ?_
      show Ev 191 (u1 + 2, u2 + 12) (13, [some (.ref 1), some (.int a1), some (.ref 187), none], []) (hp N x5) _
      refine ev_run (n := 1) (u' := (u1 + 2, u2 + 12)) (f' := (14, [some (.ref 1), some (.int a1), some (.ref 187), none], [.int 1])) (h' := hp N x5) rfl ?_
      cases h
      exact ev_iret rfl (end_u (by show _ ≤ 2; omega) (by show _ ≤ 12; omega)) rfl (Or.inl rfl)
    rcases ite_or h with ⟨h8, h⟩ | ⟨-, h⟩
    · subst h8
      refine ev_callH (h1 := hp N x5) (t0 := 15) (t := 16) (a := 3) rfl rfl rfl (ok_u rfl (by show u1 + 2 ≤ 2; omega) (by show u2 + 12 ≤ 12; omega)) rfl rfl rfl (em68 a1 (by decide) (by decide) x _ h2) ?_
      show Ev 191 (u1 + 2, u2 + 12) (16, [some (.ref 1), some (.int a1), some (.ref 187), none], []) (hp N x5) _
      refine ev_run (n := 1) (u' := (u1 + 2, u2 + 12)) (f' := (17, [some (.ref 1), some (.int a1), some (.ref 187), none], [.int 2])) (h' := hp N x5) rfl ?_
      cases h
      exact ev_iret rfl (end_u (by show _ ≤ 2; omega) (by show _ ≤ 12; omega)) rfl (Or.inl rfl)
    cases h
def gm192 (a1 : Int32) (a2 : Int32) (a3 : Int32) (a4 : Int32) (a5 : Int32) (x : Hs) : Option (Int32 × Hs) := (gm69 a1 a2 a3 a4 a5 x).bind fun w1 => match w1 with | (.inl v3, x5) => (cond (aIn 0 1) (some (0, (wJ x5 187 (xi 0) (Int32.toInt64 v3)))) none) | (.inr k4, x5) => (if k4 = 0 then (some (1, x5)) else (if k4 = 1 then (some (2, x5)) else (if k4 = 2 then (some (3, x5)) else (none))))
theorem em192 {N : Nat} {u1 u2 : Nat} (a1 : Int32) (a2 : Int32) (a3 : Int32) (a4 : Int32) (a5 : Int32) (hu1 : u1 + 4 ≤ 4) (hu2 : u2 + 24 ≤ 24) (x : Hs) (r : Int32 × Hs) (h : gm192 a1 a2 a3 a4 a5 x = some r) : Ev 192 (u1, u2) (0, aPad [.ref 1, .int a1, .int a2, .int a3, .int a4, .int a5, .ref 187] 8, []) (hp N x) (cvMi N r) := by
  show Ev 192 (u1, u2) (0, [some (.ref 1), some (.int a1), some (.int a2), some (.int a3), some (.int a4), some (.int a5), some (.ref 187), none], []) (hp N x) _
  unfold gm192 at h
  refine ev_run (n := 8) (u' := (u1, u2)) (f' := (11, [some (.ref 1), some (.int a1), some (.int a2), some (.int a3), some (.int a4), some (.int a5), some (.ref 187), none], [.int a5, .int a4, .int a3, .int a2, .int a1, .ref 1, .int 0, .ref 187])) (h' := hp N x) rfl ?_
  obtain ⟨w1, h2, h⟩ := bind_ok h
  obtain ⟨w1, x5⟩ := w1
  cases w1 with
  | inl v3 =>
    refine ev_call (v := some (.int v3)) (h1 := hp N x5) rfl rfl rfl (ok_u rfl (by show u1 + 4 ≤ 4; omega) (by show u2 + 24 ≤ 24; omega)) (em69 a1 a2 a3 a4 a5 (by decide) (by decide) x _ h2) ?_
    show Ev 192 (u1 + 4, u2 + 24) (14, [some (.ref 1), some (.int a1), some (.int a2), some (.int a3), some (.int a4), some (.int a5), some (.ref 187), none], [.int v3, .int 0, .ref 187]) (hp N x5) _
    refine ev_run (n := 1) (u' := (u1 + 4, u2 + 24)) (f' := (15, [some (.ref 1), some (.int a1), some (.int a2), some (.int a3), some (.int a4), some (.int a5), some (.ref 187), none], [.long (Int32.toInt64 v3), .int 0, .ref 187])) (h' := hp N x5) rfl ?_
    obtain ⟨h6, h⟩ := cond_some h
    refine ev_last rfl rfl h6 ?_
    show Ev 192 (u1 + 4, u2 + 24) (16, [some (.ref 1), some (.int a1), some (.int a2), some (.int a3), some (.int a4), some (.int a5), some (.ref 187), none], []) (hp N (wJ x5 187 (xi 0) (Int32.toInt64 v3))) _
    refine ev_run (n := 2) (u' := (u1 + 4, u2 + 24)) (f' := (32, [none, none, none, none, none, none, none, none], [.int 0])) (h' := hp N (wJ x5 187 (xi 0) (Int32.toInt64 v3))) rfl ?_
    cases h
    exact ev_iret rfl (end_u (by show _ ≤ 4; omega) (by show _ ≤ 24; omega)) rfl (Or.inl rfl)
  | inr k4 =>
    rcases ite_or h with ⟨h7, h⟩ | ⟨-, h⟩
    · subst h7
      refine ev_callH (h1 := hp N x5) (t0 := 19) (t := 21) (a := 7) rfl rfl rfl (ok_u rfl (by show u1 + 4 ≤ 4; omega) (by show u2 + 24 ≤ 24; omega)) rfl rfl rfl (em69 a1 a2 a3 a4 a5 (by decide) (by decide) x _ h2) ?_
      show Ev 192 (u1 + 4, u2 + 24) (21, [some (.ref 1), some (.int a1), some (.int a2), some (.int a3), some (.int a4), some (.int a5), some (.ref 187), none], []) (hp N x5) _
      refine ev_run (n := 1) (u' := (u1 + 4, u2 + 24)) (f' := (22, [some (.ref 1), some (.int a1), some (.int a2), some (.int a3), some (.int a4), some (.int a5), some (.ref 187), none], [.int 1])) (h' := hp N x5) rfl ?_
      cases h
      exact ev_iret rfl (end_u (by show _ ≤ 4; omega) (by show _ ≤ 24; omega)) rfl (Or.inl rfl)
    rcases ite_or h with ⟨h8, h⟩ | ⟨-, h⟩
    · subst h8
      refine ev_callH (h1 := hp N x5) (t0 := 23) (t := 25) (a := 7) rfl rfl rfl (ok_u rfl (by show u1 + 4 ≤ 4; omega) (by show u2 + 24 ≤ 24; omega)) rfl rfl rfl (em69 a1 a2 a3 a4 a5 (by decide) (by decide) x _ h2) ?_
      show Ev 192 (u1 + 4, u2 + 24) (25, [some (.ref 1), some (.int a1), some (.int a2), some (.int a3), some (.int a4), some (.int a5), some (.ref 187), none], []) (hp N x5) _
      refine ev_run (n := 1) (u' := (u1 + 4, u2 + 24)) (f' := (26, [some (.ref 1), some (.int a1), some (.int a2), some (.int a3), some (.int a4), some (.int a5), some (.ref 187), none], [.int 2])) (h' := hp N x5) rfl ?_
      cases h
      exact ev_iret rfl (end_u (by show _ ≤ 4; omega) (by show _ ≤ 24; omega)) rfl (Or.inl rfl)
    rcases ite_or h with ⟨h9, h⟩ | ⟨-, h⟩
    · subst h9
      refine ev_callH (h1 := hp N x5) (t0 := 27) (t := 29) (a := 7) rfl rfl rfl (ok_u rfl (by show u1 + 4 ≤ 4; omega) (by show u2 + 24 ≤ 24; omega)) rfl rfl rfl (em69 a1 a2 a3 a4 a5 (by decide) (by decide) x _ h2) ?_
      show Ev 192 (u1 + 4, u2 + 24) (29, [some (.ref 1), some (.int a1), some (.int a2), some (.int a3), some (.int a4), some (.int a5), some (.ref 187), none], []) (hp N x5) _
      refine ev_run (n := 1) (u' := (u1 + 4, u2 + 24)) (f' := (30, [some (.ref 1), some (.int a1), some (.int a2), some (.int a3), some (.int a4), some (.int a5), some (.ref 187), none], [.int 3])) (h' := hp N x5) rfl ?_
      cases h
      exact ev_iret rfl (end_u (by show _ ≤ 4; omega) (by show _ ≤ 24; omega)) rfl (Or.inl rfl)
    cases h
def gm193 (a1 : Int32) (a2 : Int32) (a3 : Int32) (x : Hs) : Option (Int32 × Hs) := (gm70 a1 a2 a3 x).bind fun w1 => match w1 with | (.inl v3, x5) => (cond (aIn 0 1) (some (0, (wJ x5 187 (xi 0) (Int32.toInt64 v3)))) none) | (.inr k4, x5) => (if k4 = 0 then (some (1, x5)) else (if k4 = 1 then (some (2, x5)) else (if k4 = 2 then (some (3, x5)) else (none))))
theorem em193 {N : Nat} {u1 u2 : Nat} (a1 : Int32) (a2 : Int32) (a3 : Int32) (hu1 : u1 + 3 ≤ 3) (hu2 : u2 + 18 ≤ 18) (x : Hs) (r : Int32 × Hs) (h : gm193 a1 a2 a3 x = some r) : Ev 193 (u1, u2) (0, aPad [.ref 1, .int a1, .int a2, .int a3, .ref 187] 6, []) (hp N x) (cvMi N r) := by
  show Ev 193 (u1, u2) (0, [some (.ref 1), some (.int a1), some (.int a2), some (.int a3), some (.ref 187), none], []) (hp N x) _
  unfold gm193 at h
  refine ev_run (n := 6) (u' := (u1, u2)) (f' := (7, [some (.ref 1), some (.int a1), some (.int a2), some (.int a3), some (.ref 187), none], [.int a3, .int a2, .int a1, .ref 1, .int 0, .ref 187])) (h' := hp N x) rfl ?_
  obtain ⟨w1, h2, h⟩ := bind_ok h
  obtain ⟨w1, x5⟩ := w1
  cases w1 with
  | inl v3 =>
    refine ev_call (v := some (.int v3)) (h1 := hp N x5) rfl rfl rfl (ok_u rfl (by show u1 + 3 ≤ 3; omega) (by show u2 + 18 ≤ 18; omega)) (em70 a1 a2 a3 (by decide) (by decide) x _ h2) ?_
    show Ev 193 (u1 + 3, u2 + 18) (10, [some (.ref 1), some (.int a1), some (.int a2), some (.int a3), some (.ref 187), none], [.int v3, .int 0, .ref 187]) (hp N x5) _
    refine ev_run (n := 1) (u' := (u1 + 3, u2 + 18)) (f' := (11, [some (.ref 1), some (.int a1), some (.int a2), some (.int a3), some (.ref 187), none], [.long (Int32.toInt64 v3), .int 0, .ref 187])) (h' := hp N x5) rfl ?_
    obtain ⟨h6, h⟩ := cond_some h
    refine ev_last rfl rfl h6 ?_
    show Ev 193 (u1 + 3, u2 + 18) (12, [some (.ref 1), some (.int a1), some (.int a2), some (.int a3), some (.ref 187), none], []) (hp N (wJ x5 187 (xi 0) (Int32.toInt64 v3))) _
    refine ev_run (n := 2) (u' := (u1 + 3, u2 + 18)) (f' := (28, [none, none, none, none, none, none], [.int 0])) (h' := hp N (wJ x5 187 (xi 0) (Int32.toInt64 v3))) rfl ?_
    cases h
    exact ev_iret rfl (end_u (by show _ ≤ 3; omega) (by show _ ≤ 18; omega)) rfl (Or.inl rfl)
  | inr k4 =>
    rcases ite_or h with ⟨h7, h⟩ | ⟨-, h⟩
    · subst h7
      refine ev_callH (h1 := hp N x5) (t0 := 15) (t := 17) (a := 5) rfl rfl rfl (ok_u rfl (by show u1 + 3 ≤ 3; omega) (by show u2 + 18 ≤ 18; omega)) rfl rfl rfl (em70 a1 a2 a3 (by decide) (by decide) x _ h2) ?_
      show Ev 193 (u1 + 3, u2 + 18) (17, [some (.ref 1), some (.int a1), some (.int a2), some (.int a3), some (.ref 187), none], []) (hp N x5) _
      refine ev_run (n := 1) (u' := (u1 + 3, u2 + 18)) (f' := (18, [some (.ref 1), some (.int a1), some (.int a2), some (.int a3), some (.ref 187), none], [.int 1])) (h' := hp N x5) rfl ?_
      cases h
      exact ev_iret rfl (end_u (by show _ ≤ 3; omega) (by show _ ≤ 18; omega)) rfl (Or.inl rfl)
    rcases ite_or h with ⟨h8, h⟩ | ⟨-, h⟩
    · subst h8
      refine ev_callH (h1 := hp N x5) (t0 := 19) (t := 21) (a := 5) rfl rfl rfl (ok_u rfl (by show u1 + 3 ≤ 3; omega) (by show u2 + 18 ≤ 18; omega)) rfl rfl rfl (em70 a1 a2 a3 (by decide) (by decide) x _ h2) ?_
      show Ev 193 (u1 + 3, u2 + 18) (21, [some (.ref 1), some (.int a1), some (.int a2), some (.int a3), some (.ref 187), none], []) (hp N x5) _
      refine ev_run (n := 1) (u' := (u1 + 3, u2 + 18)) (f' := (22, [some (.ref 1), some (.int a1), some (.int a2), some (.int a3), some (.ref 187), none], [.int 2])) (h' := hp N x5) rfl ?_
      cases h
      exact ev_iret rfl (end_u (by show _ ≤ 3; omega) (by show _ ≤ 18; omega)) rfl (Or.inl rfl)
    rcases ite_or h with ⟨h9, h⟩ | ⟨-, h⟩
    · subst h9
      refine ev_callH (h1 := hp N x5) (t0 := 23) (t := 25) (a := 5) rfl rfl rfl (ok_u rfl (by show u1 + 3 ≤ 3; omega) (by show u2 + 18 ≤ 18; omega)) rfl rfl rfl (em70 a1 a2 a3 (by decide) (by decide) x _ h2) ?_
      show Ev 193 (u1 + 3, u2 + 18) (25, [some (.ref 1), some (.int a1), some (.int a2), some (.int a3), some (.ref 187), none], []) (hp N x5) _
      refine ev_run (n := 1) (u' := (u1 + 3, u2 + 18)) (f' := (26, [some (.ref 1), some (.int a1), some (.int a2), some (.int a3), some (.ref 187), none], [.int 3])) (h' := hp N x5) rfl ?_
      cases h
      exact ev_iret rfl (end_u (by show _ ≤ 3; omega) (by show _ ≤ 18; omega)) rfl (Or.inl rfl)
    cases h
