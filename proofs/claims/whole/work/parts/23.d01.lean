/-! The methods as functions; printed by dec.py -/
def gm24 (a1 : Int32) (a2 : Int32) (a3 : Int32) (a4 : Int32) (x : Hs) : Option (Int32) := gm24_3 FU a1 a2 a3 a4 0 x
theorem em24 {N : Nat} (a1 : Int32) (a2 : Int32) (a3 : Int32) (a4 : Int32) (x : Hs) (r : Int32) (h : gm24 a1 a2 a3 a4 x = some r) : Ev 24 (0, 0) (0, aPad [.ref 107, .int a1, .int a2, .int a3, .int a4] 6, []) (hp N x) (cvPi N x r) := by
  show Ev 24 (0, 0) (0, [some (.ref 107), some (.int a1), some (.int a2), some (.int a3), some (.int a4), none], []) (hp N x) _
  unfold gm24 at h
  refine ev_run (n := 2) (u' := (0, 0)) (f' := (3, [some (.ref 107), some (.int a1), some (.int a2), some (.int a3), some (.int a4), some (.int 0)], [])) (h' := hp N x) rfl ?_
  exact em24_3 FU a1 a2 a3 a4 0 x _ h
def gm25_2 : Nat → Int32 → Int32 → Hs → Option (Int32)
  | 0, _, _, _ => none
  | n + 1, a1, a2, x => if a2 ≥ x.1 107 1 then (some (-1)) else (cond (aIn a2 30) (if x.1 113 (xi a2) = a1 then (some a2) else (gm25_2 n a1 (a2 + 1) x)) none)
theorem em25_2 {N : Nat} : ∀ (n : Nat) (a1 : Int32) (a2 : Int32) (x : Hs) (r : Int32), gm25_2 n a1 a2 x = some r → Ev 25 (0, 0) (2, [some (.ref 107), some (.int a1), some (.int a2)], []) (hp N x) (cvPi N x r)
  | 0, a1, a2, x, r, h => by
    have e9 : (none : Option (Int32)) = some r := h
    cases e9
  | n + 1, a1, a2, x, r, h => by
    have q2 := em25_2 (N := N) n
    rw [gm25_2] at h
    refine ev_run (n := 3) (u' := (0, 0)) (f' := (7, [some (.ref 107), some (.int a1), some (.int a2)], [.int (x.1 107 1), .int a2])) (h' := hp N x) rfl ?_
    rcases ite_or h with ⟨h3, h⟩ | ⟨h3, h⟩
    · refine ev_ict rfl (decide_eq_true h3) ?_
      refine ev_run (n := 1) (u' := (0, 0)) (f' := (29, [none, none, none], [.int (-1)])) (h' := hp N x) rfl ?_
      cases h
      exact ev_iret rfl rfl rfl (Or.inl rfl)
    · refine ev_icf rfl (decide_eq_false h3) ?_
      refine ev_run (n := 3) (u' := (0, 0)) (f' := (15, [some (.ref 107), some (.int a1), some (.int a2)], [.int a2, .ref 113])) (h' := hp N x) rfl ?_
      obtain ⟨h1, h⟩ := cond_some h
      refine ev_iald rfl rfl h1 ?_
      refine ev_run (n := 1) (u' := (0, 0)) (f' := (17, [some (.ref 107), some (.int a1), some (.int a2)], [.int a1, .int (x.1 113 (xi a2))])) (h' := hp N x) rfl ?_
      rcases ite_or h with ⟨h2, h⟩ | ⟨h2, h⟩
      · refine ev_icf rfl (decide_eq_false (fun w => w h2)) ?_
        refine ev_run (n := 1) (u' := (0, 0)) (f' := (21, [some (.ref 107), some (.int a1), some (.int a2)], [.int a2])) (h' := hp N x) rfl ?_
        cases h
        exact ev_iret rfl rfl rfl (Or.inl rfl)
      · refine ev_ict rfl (decide_eq_true h2) ?_
        refine ev_run (n := 2) (u' := (0, 0)) (f' := (2, [some (.ref 107), some (.int a1), some (.int (a2 + 1))], [])) (h' := hp N x) rfl ?_
        exact q2 a1 (a2 + 1) x _ h
def gm25 (a1 : Int32) (x : Hs) : Option (Int32) := gm25_2 FU a1 0 x
theorem em25 {N : Nat} (a1 : Int32) (x : Hs) (r : Int32) (h : gm25 a1 x = some r) : Ev 25 (0, 0) (0, aPad [.ref 107, .int a1] 3, []) (hp N x) (cvPi N x r) := by
  show Ev 25 (0, 0) (0, [some (.ref 107), some (.int a1), none], []) (hp N x) _
  unfold gm25 at h
  refine ev_run (n := 2) (u' := (0, 0)) (f' := (2, [some (.ref 107), some (.int a1), some (.int 0)], [])) (h' := hp N x) rfl ?_
  exact em25_2 FU a1 0 x _ h
def gm28 (a1 : Int32) (a2 : Int32) (x : Hs) : Option (Int32) := cond (aIn a1 12) (cond (aIn a1 12) (if (Int64.toInt32 ((((Int32.toInt64 (((a2 * 73) + (x.1 108 (xi a1) * 31)) + 7)) * (Int32.toInt64 (((a2 * 73) + (x.1 108 (xi a1) * 31)) + 7))) - ((Int32.toInt64 (((a2 * 73) + (x.1 108 (xi a1) * 31)) + 7)) * (Int32.toInt64 (((a2 * 73) + (x.1 108 (xi a1) * 31)) + 7))) / 9973 * 9973) - (((Int32.toInt64 (((a2 * 73) + (x.1 108 (xi a1) * 31)) + 7)) * (Int32.toInt64 (((a2 * 73) + (x.1 108 (xi a1) * 31)) + 7))) - ((Int32.toInt64 (((a2 * 73) + (x.1 108 (xi a1) * 31)) + 7)) * (Int32.toInt64 (((a2 * 73) + (x.1 108 (xi a1) * 31)) + 7))) / 9973 * 9973) / 100 * 100)) < x.1 109 (xi a1) then (some 0) else (cond (aIn a1 12) (if (Int64.toInt32 ((((Int32.toInt64 (((a2 * 73) + (x.1 108 (xi a1) * 31)) + 7)) * (Int32.toInt64 (((a2 * 73) + (x.1 108 (xi a1) * 31)) + 7))) - ((Int32.toInt64 (((a2 * 73) + (x.1 108 (xi a1) * 31)) + 7)) * (Int32.toInt64 (((a2 * 73) + (x.1 108 (xi a1) * 31)) + 7))) / 9973 * 9973) - (((Int32.toInt64 (((a2 * 73) + (x.1 108 (xi a1) * 31)) + 7)) * (Int32.toInt64 (((a2 * 73) + (x.1 108 (xi a1) * 31)) + 7))) - ((Int32.toInt64 (((a2 * 73) + (x.1 108 (xi a1) * 31)) + 7)) * (Int32.toInt64 (((a2 * 73) + (x.1 108 (xi a1) * 31)) + 7))) / 9973 * 9973) / 100 * 100)) ≥ x.1 110 (xi a1) then (some 0) else (some 1)) none)) none) none
theorem em28 {N : Nat} (a1 : Int32) (a2 : Int32) (x : Hs) (r : Int32) (h : gm28 a1 a2 x = some r) : Ev 28 (0, 0) (0, aPad [.ref 107, .int a1, .int a2] 6, []) (hp N x) (cvPi N x r) := by
  show Ev 28 (0, 0) (0, [some (.ref 107), some (.int a1), some (.int a2), none, none, none], []) (hp N x) _
  unfold gm28 at h
  refine ev_run (n := 6) (u' := (0, 0)) (f' := (9, [some (.ref 107), some (.int a1), some (.int a2), none, none, none], [.int a1, .ref 108, .int (a2 * 73)])) (h' := hp N x) rfl ?_
  obtain ⟨h1, h⟩ := cond_some h
  refine ev_iald rfl rfl h1 ?_
  refine ev_run (n := 11) (u' := (0, 0)) (f' := (25, [some (.ref 107), some (.int a1), some (.int a2), some (.long (Int32.toInt64 (((a2 * 73) + (x.1 108 (xi a1) * 31)) + 7))), none, none], [.long 9973, .long ((Int32.toInt64 (((a2 * 73) + (x.1 108 (xi a1) * 31)) + 7)) * (Int32.toInt64 (((a2 * 73) + (x.1 108 (xi a1) * 31)) + 7)))])) (h' := hp N x) rfl ?_
  refine ev_lrem rfl (by decide) ?_
  refine ev_run (n := 1) (u' := (0, 0)) (f' := (29, [some (.ref 107), some (.int a1), some (.int a2), some (.long (Int32.toInt64 (((a2 * 73) + (x.1 108 (xi a1) * 31)) + 7))), none, none], [.long 100, .long (((Int32.toInt64 (((a2 * 73) + (x.1 108 (xi a1) * 31)) + 7)) * (Int32.toInt64 (((a2 * 73) + (x.1 108 (xi a1) * 31)) + 7))) - ((Int32.toInt64 (((a2 * 73) + (x.1 108 (xi a1) * 31)) + 7)) * (Int32.toInt64 (((a2 * 73) + (x.1 108 (xi a1) * 31)) + 7))) / 9973 * 9973)])) (h' := hp N x) rfl ?_
  refine ev_lrem rfl (by decide) ?_
  refine ev_run (n := 6) (u' := (0, 0)) (f' := (40, [some (.ref 107), some (.int a1), some (.int a2), some (.long (Int32.toInt64 (((a2 * 73) + (x.1 108 (xi a1) * 31)) + 7))), none, some (.int (Int64.toInt32 ((((Int32.toInt64 (((a2 * 73) + (x.1 108 (xi a1) * 31)) + 7)) * (Int32.toInt64 (((a2 * 73) + (x.1 108 (xi a1) * 31)) + 7))) - ((Int32.toInt64 (((a2 * 73) + (x.1 108 (xi a1) * 31)) + 7)) * (Int32.toInt64 (((a2 * 73) + (x.1 108 (xi a1) * 31)) + 7))) / 9973 * 9973) - (((Int32.toInt64 (((a2 * 73) + (x.1 108 (xi a1) * 31)) + 7)) * (Int32.toInt64 (((a2 * 73) + (x.1 108 (xi a1) * 31)) + 7))) - ((Int32.toInt64 (((a2 * 73) + (x.1 108 (xi a1) * 31)) + 7)) * (Int32.toInt64 (((a2 * 73) + (x.1 108 (xi a1) * 31)) + 7))) / 9973 * 9973) / 100 * 100)))], [.int a1, .ref 109, .int (Int64.toInt32 ((((Int32.toInt64 (((a2 * 73) + (x.1 108 (xi a1) * 31)) + 7)) * (Int32.toInt64 (((a2 * 73) + (x.1 108 (xi a1) * 31)) + 7))) - ((Int32.toInt64 (((a2 * 73) + (x.1 108 (xi a1) * 31)) + 7)) * (Int32.toInt64 (((a2 * 73) + (x.1 108 (xi a1) * 31)) + 7))) / 9973 * 9973) - (((Int32.toInt64 (((a2 * 73) + (x.1 108 (xi a1) * 31)) + 7)) * (Int32.toInt64 (((a2 * 73) + (x.1 108 (xi a1) * 31)) + 7))) - ((Int32.toInt64 (((a2 * 73) + (x.1 108 (xi a1) * 31)) + 7)) * (Int32.toInt64 (((a2 * 73) + (x.1 108 (xi a1) * 31)) + 7))) / 9973 * 9973) / 100 * 100))])) (h' := hp N x) rfl ?_
  obtain ⟨h2, h⟩ := cond_some h
  refine ev_iald rfl rfl h2 ?_
  rcases ite_or h with ⟨h5, h⟩ | ⟨h5, h⟩
  · refine ev_ict rfl (decide_eq_true h5) ?_
    refine ev_run (n := 1) (u' := (0, 0)) (f' := (60, [none, none, none, none, none, none], [.int 0])) (h' := hp N x) rfl ?_
    cases h
    exact ev_iret rfl rfl rfl (Or.inr ⟨rfl, rfl⟩)
  · refine ev_icf rfl (decide_eq_false h5) ?_
    refine ev_run (n := 4) (u' := (0, 0)) (f' := (51, [some (.ref 107), some (.int a1), some (.int a2), some (.long (Int32.toInt64 (((a2 * 73) + (x.1 108 (xi a1) * 31)) + 7))), none, some (.int (Int64.toInt32 ((((Int32.toInt64 (((a2 * 73) + (x.1 108 (xi a1) * 31)) + 7)) * (Int32.toInt64 (((a2 * 73) + (x.1 108 (xi a1) * 31)) + 7))) - ((Int32.toInt64 (((a2 * 73) + (x.1 108 (xi a1) * 31)) + 7)) * (Int32.toInt64 (((a2 * 73) + (x.1 108 (xi a1) * 31)) + 7))) / 9973 * 9973) - (((Int32.toInt64 (((a2 * 73) + (x.1 108 (xi a1) * 31)) + 7)) * (Int32.toInt64 (((a2 * 73) + (x.1 108 (xi a1) * 31)) + 7))) - ((Int32.toInt64 (((a2 * 73) + (x.1 108 (xi a1) * 31)) + 7)) * (Int32.toInt64 (((a2 * 73) + (x.1 108 (xi a1) * 31)) + 7))) / 9973 * 9973) / 100 * 100)))], [.int a1, .ref 110, .int (Int64.toInt32 ((((Int32.toInt64 (((a2 * 73) + (x.1 108 (xi a1) * 31)) + 7)) * (Int32.toInt64 (((a2 * 73) + (x.1 108 (xi a1) * 31)) + 7))) - ((Int32.toInt64 (((a2 * 73) + (x.1 108 (xi a1) * 31)) + 7)) * (Int32.toInt64 (((a2 * 73) + (x.1 108 (xi a1) * 31)) + 7))) / 9973 * 9973) - (((Int32.toInt64 (((a2 * 73) + (x.1 108 (xi a1) * 31)) + 7)) * (Int32.toInt64 (((a2 * 73) + (x.1 108 (xi a1) * 31)) + 7))) - ((Int32.toInt64 (((a2 * 73) + (x.1 108 (xi a1) * 31)) + 7)) * (Int32.toInt64 (((a2 * 73) + (x.1 108 (xi a1) * 31)) + 7))) / 9973 * 9973) / 100 * 100))])) (h' := hp N x) rfl ?_
    obtain ⟨h3, h⟩ := cond_some h
    refine ev_iald rfl rfl h3 ?_
    rcases ite_or h with ⟨h4, h⟩ | ⟨h4, h⟩
    · refine ev_ict rfl (decide_eq_true h4) ?_
      refine ev_run (n := 1) (u' := (0, 0)) (f' := (60, [none, none, none, none, none, none], [.int 0])) (h' := hp N x) rfl ?_
      cases h
      exact ev_iret rfl rfl rfl (Or.inr ⟨rfl, rfl⟩)
    · refine ev_icf rfl (decide_eq_false h4) ?_
      refine ev_run (n := 2) (u' := (0, 0)) (f' := (60, [none, none, none, none, none, none], [.int 1])) (h' := hp N x) rfl ?_
      cases h
      exact ev_iret rfl rfl rfl (Or.inr ⟨rfl, rfl⟩)
def gm26_125 (k28 : Int32 → Int32 → Int32 → Int32 → Hs → Option (Int32)) (a1 : Int32) (a3 : Int32) (a4 : Int32) (a5 : Int32) (x : Hs) : Option (Int32) := k28 a1 a3 a4 (a5 + 1) x
theorem em26_125 {N : Nat} (k28 : Int32 → Int32 → Int32 → Int32 → Hs → Option (Int32)) (q28 : ∀ (a1 : Int32) (a3 : Int32) (a4 : Int32) (a5 : Int32) (x : Hs) (r : Int32), k28 a1 a3 a4 a5 x = some r → Ev 26 (0, 0) (28, [some (.ref 107), some (.int a1), none, some (.int a3), some (.int a4), some (.int a5), none, none], []) (hp N x) (cvPi N x r)) (a1 : Int32) (a3 : Int32) (a4 : Int32) (a5 : Int32) (x : Hs) (r : Int32) (h : gm26_125 k28 a1 a3 a4 a5 x = some r) : Ev 26 (0, 0) (125, [some (.ref 107), some (.int a1), none, some (.int a3), some (.int a4), some (.int a5), none, none], []) (hp N x) (cvPi N x r) := by
  unfold gm26_125 at h
  refine ev_run (n := 2) (u' := (0, 0)) (f' := (28, [some (.ref 107), some (.int a1), none, some (.int a3), some (.int a4), some (.int (a5 + 1)), none, none], [])) (h' := hp N x) rfl ?_
  exact q28 a1 a3 a4 (a5 + 1) x _ h
def gm26_94 (k28 : Int32 → Int32 → Int32 → Int32 → Hs → Option (Int32)) (a1 : Int32) (a3 : Int32) (a4 : Int32) (a5 : Int32) (a6 : Int32) (s0 : Int32) (x : Hs) : Option (Int32) := cond (aIn a5 12) (if x.1 111 (xi a5) = 0 then (if a6 = 0 then (gm26_125 k28 a1 a3 a4 a5 x) else (if s0 = 0 then (gm26_125 k28 a1 a3 a4 a5 x) else (gm26_125 k28 a1 a3 (a4 ||| (1 <<< (a5 &&& 31))) a5 x))) else (gm26_125 k28 a1 a3 a4 a5 x)) none
theorem em26_94 {N : Nat} (k28 : Int32 → Int32 → Int32 → Int32 → Hs → Option (Int32)) (q28 : ∀ (a1 : Int32) (a3 : Int32) (a4 : Int32) (a5 : Int32) (x : Hs) (r : Int32), k28 a1 a3 a4 a5 x = some r → Ev 26 (0, 0) (28, [some (.ref 107), some (.int a1), none, some (.int a3), some (.int a4), some (.int a5), none, none], []) (hp N x) (cvPi N x r)) (a1 : Int32) (a3 : Int32) (a4 : Int32) (a5 : Int32) (a6 : Int32) (s0 : Int32) (x : Hs) (r : Int32) (h : gm26_94 k28 a1 a3 a4 a5 a6 s0 x = some r) : Ev 26 (0, 0) (94, [some (.ref 107), some (.int a1), none, some (.int a3), some (.int a4), some (.int a5), some (.int a6), none], [.int s0]) (hp N x) (cvPi N x r) := by
  unfold gm26_94 at h
  refine ev_run (n := 4) (u' := (0, 0)) (f' := (102, [some (.ref 107), some (.int a1), none, some (.int a3), some (.int a4), some (.int a5), some (.int a6), some (.int s0)], [.int a5, .ref 111])) (h' := hp N x) rfl ?_
  obtain ⟨h18, h⟩ := cond_some h
  refine ev_bald rfl rfl h18 ?_
  rcases ite_or h with ⟨h21, h⟩ | ⟨h21, h⟩
  · refine ev_iff rfl (decide_eq_false (fun w => w h21)) ?_
    refine ev_run (n := 1) (u' := (0, 0)) (f' := (108, [some (.ref 107), some (.int a1), none, some (.int a3), some (.int a4), some (.int a5), some (.int a6), some (.int s0)], [.int a6])) (h' := hp N x) rfl ?_
    rcases ite_or h with ⟨h20, h⟩ | ⟨h20, h⟩
    · refine ev_ift rfl (decide_eq_true h20) ?_
      exact em26_125 k28 q28 a1 a3 a4 a5 x _ h
    · refine ev_iff rfl (decide_eq_false h20) ?_
      refine ev_run (n := 1) (u' := (0, 0)) (f' := (113, [some (.ref 107), some (.int a1), none, some (.int a3), some (.int a4), some (.int a5), some (.int a6), some (.int s0)], [.int s0])) (h' := hp N x) rfl ?_
      rcases ite_or h with ⟨h19, h⟩ | ⟨h19, h⟩
      · refine ev_ift rfl (decide_eq_true h19) ?_
        exact em26_125 k28 q28 a1 a3 a4 a5 x _ h
      · refine ev_iff rfl (decide_eq_false h19) ?_
        refine ev_run (n := 6) (u' := (0, 0)) (f' := (125, [some (.ref 107), some (.int a1), none, some (.int a3), some (.int (a4 ||| (1 <<< (a5 &&& 31)))), some (.int a5), none, none], [])) (h' := hp N x) rfl ?_
        exact em26_125 k28 q28 a1 a3 (a4 ||| (1 <<< (a5 &&& 31))) a5 x _ h
  · refine ev_ift rfl (decide_eq_true h21) ?_
    exact em26_125 k28 q28 a1 a3 a4 a5 x _ h
def gm26_89 (k28 : Int32 → Int32 → Int32 → Int32 → Hs → Option (Int32)) (a1 : Int32) (a3 : Int32) (a4 : Int32) (a5 : Int32) (a6 : Int32) (x : Hs) : Option (Int32) := gm26_94 k28 a1 a3 a4 a5 a6 1 x
theorem em26_89 {N : Nat} (k28 : Int32 → Int32 → Int32 → Int32 → Hs → Option (Int32)) (q28 : ∀ (a1 : Int32) (a3 : Int32) (a4 : Int32) (a5 : Int32) (x : Hs) (r : Int32), k28 a1 a3 a4 a5 x = some r → Ev 26 (0, 0) (28, [some (.ref 107), some (.int a1), none, some (.int a3), some (.int a4), some (.int a5), none, none], []) (hp N x) (cvPi N x r)) (a1 : Int32) (a3 : Int32) (a4 : Int32) (a5 : Int32) (a6 : Int32) (x : Hs) (r : Int32) (h : gm26_89 k28 a1 a3 a4 a5 a6 x = some r) : Ev 26 (0, 0) (89, [some (.ref 107), some (.int a1), none, some (.int a3), some (.int a4), some (.int a5), some (.int a6), none], []) (hp N x) (cvPi N x r) := by
  unfold gm26_89 at h
  refine ev_run (n := 2) (u' := (0, 0)) (f' := (94, [some (.ref 107), some (.int a1), none, some (.int a3), some (.int a4), some (.int a5), some (.int a6), none], [.int 1])) (h' := hp N x) rfl ?_
  exact em26_94 k28 q28 a1 a3 a4 a5 a6 1 x _ h
def gm26_61 (k28 : Int32 → Int32 → Int32 → Int32 → Hs → Option (Int32)) (a1 : Int32) (a3 : Int32) (a4 : Int32) (a5 : Int32) (s0 : Int32) (x : Hs) : Option (Int32) := cond (aIn a5 12) (if x.1 112 (xi a5) = (-1) then (gm26_89 k28 a1 a3 a4 a5 s0 x) else (cond (aIn a5 12) ((gm101 a4 (x.1 112 (xi a5)) x).bind fun w14 => (if w14 = 0 then (gm26_94 k28 a1 a3 a4 a5 s0 0 x) else (gm26_89 k28 a1 a3 a4 a5 s0 x))) none)) none
theorem em26_61 {N : Nat} (k28 : Int32 → Int32 → Int32 → Int32 → Hs → Option (Int32)) (q28 : ∀ (a1 : Int32) (a3 : Int32) (a4 : Int32) (a5 : Int32) (x : Hs) (r : Int32), k28 a1 a3 a4 a5 x = some r → Ev 26 (0, 0) (28, [some (.ref 107), some (.int a1), none, some (.int a3), some (.int a4), some (.int a5), none, none], []) (hp N x) (cvPi N x r)) (a1 : Int32) (a3 : Int32) (a4 : Int32) (a5 : Int32) (s0 : Int32) (x : Hs) (r : Int32) (h : gm26_61 k28 a1 a3 a4 a5 s0 x = some r) : Ev 26 (0, 0) (61, [some (.ref 107), some (.int a1), none, some (.int a3), some (.int a4), some (.int a5), none, none], [.int s0]) (hp N x) (cvPi N x r) := by
  unfold gm26_61 at h
  refine ev_run (n := 4) (u' := (0, 0)) (f' := (69, [some (.ref 107), some (.int a1), none, some (.int a3), some (.int a4), some (.int a5), some (.int s0), none], [.int a5, .ref 112])) (h' := hp N x) rfl ?_
  obtain ⟨h12, h⟩ := cond_some h
  refine ev_iald rfl rfl h12 ?_
  refine ev_run (n := 1) (u' := (0, 0)) (f' := (71, [some (.ref 107), some (.int a1), none, some (.int a3), some (.int a4), some (.int a5), some (.int s0), none], [.int (-1), .int (x.1 112 (xi a5))])) (h' := hp N x) rfl ?_
  rcases ite_or h with ⟨h17, h⟩ | ⟨h17, h⟩
  · refine ev_ict rfl (decide_eq_true h17) ?_
    exact em26_89 k28 q28 a1 a3 a4 a5 s0 x _ h
  · refine ev_icf rfl (decide_eq_false h17) ?_
    refine ev_run (n := 4) (u' := (0, 0)) (f' := (82, [some (.ref 107), some (.int a1), none, some (.int a3), some (.int a4), some (.int a5), some (.int s0), none], [.int a5, .ref 112, .int a4])) (h' := hp N x) rfl ?_
    obtain ⟨h13, h⟩ := cond_some h
    refine ev_iald rfl rfl h13 ?_
    obtain ⟨w14, h15, h⟩ := bind_ok h
    refine ev_call (v := some (.int w14)) (h1 := hp N x) rfl rfl rfl rfl (em101 a4 (x.1 112 (xi a5)) x _ h15) ?_
    show Ev 26 (0, 0) (86, [some (.ref 107), some (.int a1), none, some (.int a3), some (.int a4), some (.int a5), some (.int s0), none], [.int w14]) (hp N x) _
    rcases ite_or h with ⟨h16, h⟩ | ⟨h16, h⟩
    · refine ev_ift rfl (decide_eq_true h16) ?_
      refine ev_run (n := 1) (u' := (0, 0)) (f' := (94, [some (.ref 107), some (.int a1), none, some (.int a3), some (.int a4), some (.int a5), some (.int s0), none], [.int 0])) (h' := hp N x) rfl ?_
      exact em26_94 k28 q28 a1 a3 a4 a5 s0 0 x _ h
    · refine ev_iff rfl (decide_eq_false h16) ?_
      exact em26_89 k28 q28 a1 a3 a4 a5 s0 x _ h
def gm26_56 (k28 : Int32 → Int32 → Int32 → Int32 → Hs → Option (Int32)) (a1 : Int32) (a3 : Int32) (a4 : Int32) (a5 : Int32) (x : Hs) : Option (Int32) := gm26_61 k28 a1 a3 a4 a5 1 x
theorem em26_56 {N : Nat} (k28 : Int32 → Int32 → Int32 → Int32 → Hs → Option (Int32)) (q28 : ∀ (a1 : Int32) (a3 : Int32) (a4 : Int32) (a5 : Int32) (x : Hs) (r : Int32), k28 a1 a3 a4 a5 x = some r → Ev 26 (0, 0) (28, [some (.ref 107), some (.int a1), none, some (.int a3), some (.int a4), some (.int a5), none, none], []) (hp N x) (cvPi N x r)) (a1 : Int32) (a3 : Int32) (a4 : Int32) (a5 : Int32) (x : Hs) (r : Int32) (h : gm26_56 k28 a1 a3 a4 a5 x = some r) : Ev 26 (0, 0) (56, [some (.ref 107), some (.int a1), none, some (.int a3), some (.int a4), some (.int a5), none, none], []) (hp N x) (cvPi N x r) := by
  unfold gm26_56 at h
  refine ev_run (n := 2) (u' := (0, 0)) (f' := (61, [some (.ref 107), some (.int a1), none, some (.int a3), some (.int a4), some (.int a5), none, none], [.int 1])) (h' := hp N x) rfl ?_
  exact em26_61 k28 q28 a1 a3 a4 a5 1 x _ h
def gm26_28 : Nat → Int32 → Int32 → Int32 → Int32 → Hs → Option (Int32)
  | 0, _, _, _, _, _ => none
  | n + 1, a1, a3, a4, a5, x => if a5 ≥ x.1 107 0 then (some a4) else ((gm101 a3 a5 x).bind fun w5 => (if w5 = 0 then ((gm28 a5 a1 x).bind fun w7 => (if w7 = 0 then (gm26_61 (gm26_28 n) a1 a3 a4 a5 0 x) else (gm26_56 (gm26_28 n) a1 a3 a4 a5 x))) else (gm26_56 (gm26_28 n) a1 a3 a4 a5 x)))
theorem em26_28 {N : Nat} : ∀ (n : Nat) (a1 : Int32) (a3 : Int32) (a4 : Int32) (a5 : Int32) (x : Hs) (r : Int32), gm26_28 n a1 a3 a4 a5 x = some r → Ev 26 (0, 0) (28, [some (.ref 107), some (.int a1), none, some (.int a3), some (.int a4), some (.int a5), none, none], []) (hp N x) (cvPi N x r)
  | 0, a1, a3, a4, a5, x, r, h => by
    have e9 : (none : Option (Int32)) = some r := h
    cases e9
  | n + 1, a1, a3, a4, a5, x, r, h => by
    have q28 := em26_28 (N := N) n
    rw [gm26_28] at h
    refine ev_run (n := 3) (u' := (0, 0)) (f' := (34, [some (.ref 107), some (.int a1), none, some (.int a3), some (.int a4), some (.int a5), none, none], [.int (x.1 107 0), .int a5])) (h' := hp N x) rfl ?_
    rcases ite_or h with ⟨h11, h⟩ | ⟨h11, h⟩
    · refine ev_ict rfl (decide_eq_true h11) ?_
      refine ev_run (n := 1) (u' := (0, 0)) (f' := (133, [none, none, none, none, some (.int a4), none, none, none], [.int a4])) (h' := hp N x) rfl ?_
      cases h
      exact ev_iret rfl rfl rfl (Or.inl rfl)
    · refine ev_icf rfl (decide_eq_false h11) ?_
      refine ev_run (n := 2) (u' := (0, 0)) (f' := (40, [some (.ref 107), some (.int a1), none, some (.int a3), some (.int a4), some (.int a5), none, none], [.int a5, .int a3])) (h' := hp N x) rfl ?_
      obtain ⟨w5, h6, h⟩ := bind_ok h
      refine ev_call (v := some (.int w5)) (h1 := hp N x) rfl rfl rfl rfl (em101 a3 a5 x _ h6) ?_
      show Ev 26 (0, 0) (43, [some (.ref 107), some (.int a1), none, some (.int a3), some (.int a4), some (.int a5), none, none], [.int w5]) (hp N x) _
      rcases ite_or h with ⟨h10, h⟩ | ⟨h10, h⟩
      · refine ev_iff rfl (decide_eq_false (fun w => w h10)) ?_
        refine ev_run (n := 3) (u' := (0, 0)) (f' := (50, [some (.ref 107), some (.int a1), none, some (.int a3), some (.int a4), some (.int a5), none, none], [.int a1, .int a5, .ref 107])) (h' := hp N x) rfl ?_
        obtain ⟨w7, h8, h⟩ := bind_ok h
        refine ev_call (v := some (.int w7)) (h1 := hp N x) rfl rfl rfl rfl (em28 a5 a1 x _ h8) ?_
        show Ev 26 (0, 0) (53, [some (.ref 107), some (.int a1), none, some (.int a3), some (.int a4), some (.int a5), none, none], [.int w7]) (hp N x) _
        rcases ite_or h with ⟨h9, h⟩ | ⟨h9, h⟩
        · refine ev_ift rfl (decide_eq_true h9) ?_
          refine ev_run (n := 1) (u' := (0, 0)) (f' := (61, [some (.ref 107), some (.int a1), none, some (.int a3), some (.int a4), some (.int a5), none, none], [.int 0])) (h' := hp N x) rfl ?_
          exact em26_61 (gm26_28 n) q28 a1 a3 a4 a5 0 x _ h
        · refine ev_iff rfl (decide_eq_false h9) ?_
          exact em26_56 (gm26_28 n) q28 a1 a3 a4 a5 x _ h
      · refine ev_ift rfl (decide_eq_true h10) ?_
        exact em26_56 (gm26_28 n) q28 a1 a3 a4 a5 x _ h
def gm26_21 (a1 : Int32) (s0 : Int32) (x : Hs) : Option (Int32) := gm26_28 FU a1 s0 0 0 x
theorem em26_21 {N : Nat} (a1 : Int32) (a2 : Int32) (s0 : Int32) (x : Hs) (r : Int32) (h : gm26_21 a1 s0 x = some r) : Ev 26 (0, 0) (21, [some (.ref 107), some (.int a1), some (.int a2), none, none, none, none, none], [.int s0]) (hp N x) (cvPi N x r) := by
  unfold gm26_21 at h
  refine ev_run (n := 5) (u' := (0, 0)) (f' := (28, [some (.ref 107), some (.int a1), none, some (.int s0), some (.int 0), some (.int 0), none, none], [])) (h' := hp N x) rfl ?_
  exact em26_28 FU a1 s0 0 0 x _ h
theorem em26_21_k1 {N : Nat} (a1 : Int32) (s0 : Int32) (x : Hs) (r : Int32) (h : gm26_21 a1 s0 x = some r) : Ev 26 (0, 0) (21, [some (.ref 107), some (.int a1), none, none, none, none, none, none], [.int s0]) (hp N x) (cvPi N x r) := by
  unfold gm26_21 at h
  refine ev_run (n := 5) (u' := (0, 0)) (f' := (28, [some (.ref 107), some (.int a1), none, some (.int s0), some (.int 0), some (.int 0), none, none], [])) (h' := hp N x) rfl ?_
  exact em26_28 FU a1 s0 0 0 x _ h
def gm26 (a1 : Int32) (x : Hs) : Option (Int32) := (gm25 a1 x).bind fun w1 => (if w1 = (-1) then (gm26_21 a1 0 x) else (cond (aIn w1 30) (gm26_21 a1 (x.1 114 (xi w1)) x) none))
theorem em26 {N : Nat} (a1 : Int32) (x : Hs) (r : Int32) (h : gm26 a1 x = some r) : Ev 26 (0, 0) (0, aPad [.ref 107, .int a1] 8, []) (hp N x) (cvPi N x r) := by
  show Ev 26 (0, 0) (0, [some (.ref 107), some (.int a1), none, none, none, none, none, none], []) (hp N x) _
  unfold gm26 at h
  refine ev_run (n := 2) (u' := (0, 0)) (f' := (2, [some (.ref 107), some (.int a1), none, none, none, none, none, none], [.int a1, .ref 107])) (h' := hp N x) rfl ?_
  obtain ⟨w1, h2, h⟩ := bind_ok h
  refine ev_call (v := some (.int w1)) (h1 := hp N x) rfl rfl rfl rfl (em25 a1 x _ h2) ?_
  show Ev 26 (0, 0) (5, [some (.ref 107), some (.int a1), none, none, none, none, none, none], [.int w1]) (hp N x) _
  refine ev_run (n := 3) (u' := (0, 0)) (f' := (8, [some (.ref 107), some (.int a1), some (.int w1), none, none, none, none, none], [.int (-1), .int w1])) (h' := hp N x) rfl ?_
  rcases ite_or h with ⟨h4, h⟩ | ⟨h4, h⟩
  · refine ev_icf rfl (decide_eq_false (fun w => w h4)) ?_
    refine ev_run (n := 2) (u' := (0, 0)) (f' := (21, [some (.ref 107), some (.int a1), none, none, none, none, none, none], [.int 0])) (h' := hp N x) rfl ?_
    exact em26_21_k1 a1 0 x _ h
  · refine ev_ict rfl (decide_eq_true h4) ?_
    refine ev_run (n := 3) (u' := (0, 0)) (f' := (20, [some (.ref 107), some (.int a1), some (.int w1), none, none, none, none, none], [.int w1, .ref 114])) (h' := hp N x) rfl ?_
    obtain ⟨h3, h⟩ := cond_some h
    refine ev_iald rfl rfl h3 ?_
    exact em26_21 a1 w1 (x.1 114 (xi w1)) x _ h
def gm27_39 (a2 : Int32) (a3 : Int32) (x : Hs) : Option (Int32 × Hs) := cond (aIn a3 30) (cond (aIn a3 30) ((gm179 a2 (wI x 114 (xi a3) (x.1 114 (xi a3) ||| a2))).bind fun w9 => (some (w9, (wI x 114 (xi a3) (x.1 114 (xi a3) ||| a2))))) none) none
theorem em27_39 {N : Nat} (a2 : Int32) (a3 : Int32) (x : Hs) (r : Int32 × Hs) (h : gm27_39 a2 a3 x = some r) : Ev 27 (0, 0) (39, [some (.ref 107), none, some (.int a2), some (.int a3)], []) (hp N x) (cvMi N r) := by
  unfold gm27_39 at h
  refine ev_run (n := 4) (u' := (0, 0)) (f' := (45, [some (.ref 107), none, some (.int a2), some (.int a3)], [.int a3, .ref 114, .int a3, .ref 114])) (h' := hp N x) rfl ?_
  obtain ⟨h7, h⟩ := cond_some h
  refine ev_iald rfl rfl h7 ?_
  refine ev_run (n := 2) (u' := (0, 0)) (f' := (48, [some (.ref 107), none, some (.int a2), some (.int a3)], [.int (x.1 114 (xi a3) ||| a2), .int a3, .ref 114])) (h' := hp N x) rfl ?_
  obtain ⟨h8, h⟩ := cond_some h
  refine ev_iast rfl rfl h8 ?_
  show Ev 27 (0, 0) (49, [some (.ref 107), none, some (.int a2), some (.int a3)], []) (hp N (wI x 114 (xi a3) (x.1 114 (xi a3) ||| a2))) _
  refine ev_run (n := 1) (u' := (0, 0)) (f' := (50, [some (.ref 107), none, some (.int a2), some (.int a3)], [.int a2])) (h' := hp N (wI x 114 (xi a3) (x.1 114 (xi a3) ||| a2))) rfl ?_
  obtain ⟨w9, h10, h⟩ := bind_ok h
  refine ev_call (v := some (.int w9)) (h1 := hp N (wI x 114 (xi a3) (x.1 114 (xi a3) ||| a2))) rfl rfl rfl rfl (em179 a2 (wI x 114 (xi a3) (x.1 114 (xi a3) ||| a2)) _ h10) ?_
  show Ev 27 (0, 0) (53, [some (.ref 107), none, some (.int a2), some (.int a3)], [.int w9]) (hp N (wI x 114 (xi a3) (x.1 114 (xi a3) ||| a2))) _
  cases h
  exact ev_iret rfl rfl rfl (Or.inl rfl)
theorem em27_39_k1 {N : Nat} (a1 : Int32) (a2 : Int32) (a3 : Int32) (x : Hs) (r : Int32 × Hs) (h : gm27_39 a2 a3 x = some r) : Ev 27 (0, 0) (39, [some (.ref 107), some (.int a1), some (.int a2), some (.int a3)], []) (hp N x) (cvMi N r) := by
  unfold gm27_39 at h
  refine ev_run (n := 4) (u' := (0, 0)) (f' := (45, [some (.ref 107), some (.int a1), some (.int a2), some (.int a3)], [.int a3, .ref 114, .int a3, .ref 114])) (h' := hp N x) rfl ?_
  obtain ⟨h11, h⟩ := cond_some h
  refine ev_iald rfl rfl h11 ?_
  refine ev_run (n := 2) (u' := (0, 0)) (f' := (48, [some (.ref 107), some (.int a1), some (.int a2), some (.int a3)], [.int (x.1 114 (xi a3) ||| a2), .int a3, .ref 114])) (h' := hp N x) rfl ?_
  obtain ⟨h12, h⟩ := cond_some h
  refine ev_iast rfl rfl h12 ?_
  show Ev 27 (0, 0) (49, [some (.ref 107), some (.int a1), some (.int a2), some (.int a3)], []) (hp N (wI x 114 (xi a3) (x.1 114 (xi a3) ||| a2))) _
  refine ev_run (n := 1) (u' := (0, 0)) (f' := (50, [some (.ref 107), some (.int a1), some (.int a2), some (.int a3)], [.int a2])) (h' := hp N (wI x 114 (xi a3) (x.1 114 (xi a3) ||| a2))) rfl ?_
  obtain ⟨w13, h14, h⟩ := bind_ok h
  refine ev_call (v := some (.int w13)) (h1 := hp N (wI x 114 (xi a3) (x.1 114 (xi a3) ||| a2))) rfl rfl rfl rfl (em179 a2 (wI x 114 (xi a3) (x.1 114 (xi a3) ||| a2)) _ h14) ?_
  show Ev 27 (0, 0) (53, [some (.ref 107), some (.int a1), some (.int a2), some (.int a3)], [.int w13]) (hp N (wI x 114 (xi a3) (x.1 114 (xi a3) ||| a2))) _
  cases h
  exact ev_iret rfl rfl rfl (Or.inl rfl)
def gm27 (a1 : Int32) (x : Hs) : Option (Int32 × Hs) := (gm26 a1 x).bind fun w1 => ((gm25 a1 x).bind fun w3 => (if w3 = (-1) then (cond (aIn (x.1 107 1) 30) (gm27_39 w1 (x.1 107 1) (wI (wI x 113 (xi (x.1 107 1)) a1) 107 1 ((wI x 113 (xi (x.1 107 1)) a1).1 107 1 + 1))) none) else (gm27_39 w1 w3 x)))
theorem em27 {N : Nat} (a1 : Int32) (x : Hs) (r : Int32 × Hs) (h : gm27 a1 x = some r) : Ev 27 (0, 0) (0, aPad [.ref 107, .int a1] 4, []) (hp N x) (cvMi N r) := by
  show Ev 27 (0, 0) (0, [some (.ref 107), some (.int a1), none, none], []) (hp N x) _
  unfold gm27 at h
  refine ev_run (n := 2) (u' := (0, 0)) (f' := (2, [some (.ref 107), some (.int a1), none, none], [.int a1, .ref 107])) (h' := hp N x) rfl ?_
  obtain ⟨w1, h2, h⟩ := bind_ok h
  refine ev_call (v := some (.int w1)) (h1 := hp N x) rfl rfl rfl rfl (em26 a1 x _ h2) ?_
  show Ev 27 (0, 0) (5, [some (.ref 107), some (.int a1), none, none], [.int w1]) (hp N x) _
  refine ev_run (n := 3) (u' := (0, 0)) (f' := (8, [some (.ref 107), some (.int a1), some (.int w1), none], [.int a1, .ref 107])) (h' := hp N x) rfl ?_
  obtain ⟨w3, h4, h⟩ := bind_ok h
  refine ev_call (v := some (.int w3)) (h1 := hp N x) rfl rfl rfl rfl (em25 a1 x _ h4) ?_
  show Ev 27 (0, 0) (11, [some (.ref 107), some (.int a1), some (.int w1), none], [.int w3]) (hp N x) _
  refine ev_run (n := 3) (u' := (0, 0)) (f' := (14, [some (.ref 107), some (.int a1), some (.int w1), some (.int w3)], [.int (-1), .int w3])) (h' := hp N x) rfl ?_
  rcases ite_or h with ⟨h6, h⟩ | ⟨h6, h⟩
  · refine ev_icf rfl (decide_eq_false (fun w => w h6)) ?_
    refine ev_run (n := 7) (u' := (0, 0)) (f' := (28, [some (.ref 107), some (.int a1), some (.int w1), some (.int (x.1 107 1))], [.int a1, .int (x.1 107 1), .ref 113])) (h' := hp N x) rfl ?_
    obtain ⟨h5, h⟩ := cond_some h
    refine ev_iast rfl rfl h5 ?_
    show Ev 27 (0, 0) (29, [some (.ref 107), some (.int a1), some (.int w1), some (.int (x.1 107 1))], []) (hp N (wI x 113 (xi (x.1 107 1)) a1)) _
    refine ev_run (n := 6) (u' := (0, 0)) (f' := (39, [some (.ref 107), some (.int a1), some (.int w1), some (.int (x.1 107 1))], [])) (h' := hp N (wI (wI x 113 (xi (x.1 107 1)) a1) 107 1 ((wI x 113 (xi (x.1 107 1)) a1).1 107 1 + 1))) rfl ?_
    exact em27_39_k1 a1 w1 (x.1 107 1) (wI (wI x 113 (xi (x.1 107 1)) a1) 107 1 ((wI x 113 (xi (x.1 107 1)) a1).1 107 1 + 1)) _ h
  · refine ev_ict rfl (decide_eq_true h6) ?_
    exact em27_39 w1 w3 x _ h
def gm30 (a1 : Int32) (a2 : Int32) (a3 : Int32) (x : Hs) : Option (Int32 × Hs) := cond (aIn (x.1 98 0) 8) (cond (aIn ((wI x 100 (xi (x.1 98 0)) a1).1 98 0) 8) (cond (aIn ((wI (wI x 100 (xi (x.1 98 0)) a1) 101 (xi ((wI x 100 (xi (x.1 98 0)) a1).1 98 0)) a2).1 98 0) 8) (some ((wI (wI (wI (wI x 100 (xi (x.1 98 0)) a1) 101 (xi ((wI x 100 (xi (x.1 98 0)) a1).1 98 0)) a2) 102 (xi ((wI (wI x 100 (xi (x.1 98 0)) a1) 101 (xi ((wI x 100 (xi (x.1 98 0)) a1).1 98 0)) a2).1 98 0)) a3) 98 0 ((wI (wI (wI x 100 (xi (x.1 98 0)) a1) 101 (xi ((wI x 100 (xi (x.1 98 0)) a1).1 98 0)) a2) 102 (xi ((wI (wI x 100 (xi (x.1 98 0)) a1) 101 (xi ((wI x 100 (xi (x.1 98 0)) a1).1 98 0)) a2).1 98 0)) a3).1 98 0 + 1)).1 98 0, (wI (wI (wI (wI x 100 (xi (x.1 98 0)) a1) 101 (xi ((wI x 100 (xi (x.1 98 0)) a1).1 98 0)) a2) 102 (xi ((wI (wI x 100 (xi (x.1 98 0)) a1) 101 (xi ((wI x 100 (xi (x.1 98 0)) a1).1 98 0)) a2).1 98 0)) a3) 98 0 ((wI (wI (wI x 100 (xi (x.1 98 0)) a1) 101 (xi ((wI x 100 (xi (x.1 98 0)) a1).1 98 0)) a2) 102 (xi ((wI (wI x 100 (xi (x.1 98 0)) a1) 101 (xi ((wI x 100 (xi (x.1 98 0)) a1).1 98 0)) a2).1 98 0)) a3).1 98 0 + 1)))) none) none) none
theorem em30 {N : Nat} (a1 : Int32) (a2 : Int32) (a3 : Int32) (x : Hs) (r : Int32 × Hs) (h : gm30 a1 a2 a3 x = some r) : Ev 30 (0, 0) (0, aPad [.ref 98, .int a1, .int a2, .int a3] 4, []) (hp N x) (cvMi N r) := by
  show Ev 30 (0, 0) (0, [some (.ref 98), some (.int a1), some (.int a2), some (.int a3)], []) (hp N x) _
  unfold gm30 at h
  refine ev_run (n := 5) (u' := (0, 0)) (f' := (9, [some (.ref 98), some (.int a1), some (.int a2), some (.int a3)], [.int a1, .int (x.1 98 0), .ref 100])) (h' := hp N x) rfl ?_
  obtain ⟨h1, h⟩ := cond_some h
  refine ev_iast rfl rfl h1 ?_
  show Ev 30 (0, 0) (10, [some (.ref 98), some (.int a1), some (.int a2), some (.int a3)], []) (hp N (wI x 100 (xi (x.1 98 0)) a1)) _
  refine ev_run (n := 5) (u' := (0, 0)) (f' := (19, [some (.ref 98), some (.int a1), some (.int a2), some (.int a3)], [.int a2, .int ((wI x 100 (xi (x.1 98 0)) a1).1 98 0), .ref 101])) (h' := hp N (wI x 100 (xi (x.1 98 0)) a1)) rfl ?_
  obtain ⟨h2, h⟩ := cond_some h
  refine ev_iast rfl rfl h2 ?_
  show Ev 30 (0, 0) (20, [some (.ref 98), some (.int a1), some (.int a2), some (.int a3)], []) (hp N (wI (wI x 100 (xi (x.1 98 0)) a1) 101 (xi ((wI x 100 (xi (x.1 98 0)) a1).1 98 0)) a2)) _
  refine ev_run (n := 5) (u' := (0, 0)) (f' := (29, [some (.ref 98), some (.int a1), some (.int a2), some (.int a3)], [.int a3, .int ((wI (wI x 100 (xi (x.1 98 0)) a1) 101 (xi ((wI x 100 (xi (x.1 98 0)) a1).1 98 0)) a2).1 98 0), .ref 102])) (h' := hp N (wI (wI x 100 (xi (x.1 98 0)) a1) 101 (xi ((wI x 100 (xi (x.1 98 0)) a1).1 98 0)) a2)) rfl ?_
  obtain ⟨h3, h⟩ := cond_some h
  refine ev_iast rfl rfl h3 ?_
  show Ev 30 (0, 0) (30, [some (.ref 98), some (.int a1), some (.int a2), some (.int a3)], []) (hp N (wI (wI (wI x 100 (xi (x.1 98 0)) a1) 101 (xi ((wI x 100 (xi (x.1 98 0)) a1).1 98 0)) a2) 102 (xi ((wI (wI x 100 (xi (x.1 98 0)) a1) 101 (xi ((wI x 100 (xi (x.1 98 0)) a1).1 98 0)) a2).1 98 0)) a3)) _
  refine ev_run (n := 8) (u' := (0, 0)) (f' := (44, [some (.ref 98), some (.int a1), some (.int a2), some (.int a3)], [.int ((wI (wI (wI (wI x 100 (xi (x.1 98 0)) a1) 101 (xi ((wI x 100 (xi (x.1 98 0)) a1).1 98 0)) a2) 102 (xi ((wI (wI x 100 (xi (x.1 98 0)) a1) 101 (xi ((wI x 100 (xi (x.1 98 0)) a1).1 98 0)) a2).1 98 0)) a3) 98 0 ((wI (wI (wI x 100 (xi (x.1 98 0)) a1) 101 (xi ((wI x 100 (xi (x.1 98 0)) a1).1 98 0)) a2) 102 (xi ((wI (wI x 100 (xi (x.1 98 0)) a1) 101 (xi ((wI x 100 (xi (x.1 98 0)) a1).1 98 0)) a2).1 98 0)) a3).1 98 0 + 1)).1 98 0)])) (h' := hp N (wI (wI (wI (wI x 100 (xi (x.1 98 0)) a1) 101 (xi ((wI x 100 (xi (x.1 98 0)) a1).1 98 0)) a2) 102 (xi ((wI (wI x 100 (xi (x.1 98 0)) a1) 101 (xi ((wI x 100 (xi (x.1 98 0)) a1).1 98 0)) a2).1 98 0)) a3) 98 0 ((wI (wI (wI x 100 (xi (x.1 98 0)) a1) 101 (xi ((wI x 100 (xi (x.1 98 0)) a1).1 98 0)) a2) 102 (xi ((wI (wI x 100 (xi (x.1 98 0)) a1) 101 (xi ((wI x 100 (xi (x.1 98 0)) a1).1 98 0)) a2).1 98 0)) a3).1 98 0 + 1))) rfl ?_
  cases h
  exact ev_iret rfl rfl rfl (Or.inl rfl)
def gm31_64 (k2 : Int32 → Int32 → Int32 → Hs → Option (Int32)) (a1 : Int32) (a2 : Int32) (a3 : Int32) (x : Hs) : Option (Int32) := k2 a1 a2 (a3 + 1) x
theorem em31_64 {N : Nat} (k2 : Int32 → Int32 → Int32 → Hs → Option (Int32)) (q2 : ∀ (a1 : Int32) (a2 : Int32) (a3 : Int32) (x : Hs) (r : Int32), k2 a1 a2 a3 x = some r → Ev 31 (0, 0) (2, [some (.ref 98), some (.int a1), some (.int a2), some (.int a3), none], []) (hp N x) (cvPi N x r)) (a1 : Int32) (a2 : Int32) (a3 : Int32) (x : Hs) (r : Int32) (h : gm31_64 k2 a1 a2 a3 x = some r) : Ev 31 (0, 0) (64, [some (.ref 98), some (.int a1), some (.int a2), some (.int a3), none], []) (hp N x) (cvPi N x r) := by
  unfold gm31_64 at h
  refine ev_run (n := 2) (u' := (0, 0)) (f' := (2, [some (.ref 98), some (.int a1), some (.int a2), some (.int (a3 + 1)), none], [])) (h' := hp N x) rfl ?_
  exact q2 a1 a2 (a3 + 1) x _ h
def gm31_35 (k2 : Int32 → Int32 → Int32 → Hs → Option (Int32)) (a1 : Int32) (a2 : Int32) (a3 : Int32) (s0 : Int32) (x : Hs) : Option (Int32) := if s0 = 0 then (gm31_64 k2 a1 a2 a3 x) else (cond (aIn a3 8) (if a2 < x.1 101 (xi a3) then (gm31_64 k2 a1 a2 a3 x) else (cond (aIn a3 8) (if a2 ≥ x.1 102 (xi a3) then (gm31_64 k2 a1 a2 a3 x) else (some 1)) none)) none)
theorem em31_35 {N : Nat} (k2 : Int32 → Int32 → Int32 → Hs → Option (Int32)) (q2 : ∀ (a1 : Int32) (a2 : Int32) (a3 : Int32) (x : Hs) (r : Int32), k2 a1 a2 a3 x = some r → Ev 31 (0, 0) (2, [some (.ref 98), some (.int a1), some (.int a2), some (.int a3), none], []) (hp N x) (cvPi N x r)) (a1 : Int32) (a2 : Int32) (a3 : Int32) (s0 : Int32) (x : Hs) (r : Int32) (h : gm31_35 k2 a1 a2 a3 s0 x = some r) : Ev 31 (0, 0) (35, [some (.ref 98), some (.int a1), some (.int a2), some (.int a3), none], [.int s0]) (hp N x) (cvPi N x r) := by
  unfold gm31_35 at h
  refine ev_run (n := 2) (u' := (0, 0)) (f' := (39, [some (.ref 98), some (.int a1), some (.int a2), some (.int a3), some (.int s0)], [.int s0])) (h' := hp N x) rfl ?_
  rcases ite_or h with ⟨h10, h⟩ | ⟨h10, h⟩
  · refine ev_ift rfl (decide_eq_true h10) ?_
    exact em31_64 k2 q2 a1 a2 a3 x _ h
  · refine ev_iff rfl (decide_eq_false h10) ?_
    refine ev_run (n := 4) (u' := (0, 0)) (f' := (48, [some (.ref 98), some (.int a1), some (.int a2), some (.int a3), some (.int s0)], [.int a3, .ref 101, .int a2])) (h' := hp N x) rfl ?_
    obtain ⟨h6, h⟩ := cond_some h
    refine ev_iald rfl rfl h6 ?_
    rcases ite_or h with ⟨h9, h⟩ | ⟨h9, h⟩
    · refine ev_ict rfl (decide_eq_true h9) ?_
      exact em31_64 k2 q2 a1 a2 a3 x _ h
    · refine ev_icf rfl (decide_eq_false h9) ?_
      refine ev_run (n := 4) (u' := (0, 0)) (f' := (58, [some (.ref 98), some (.int a1), some (.int a2), some (.int a3), some (.int s0)], [.int a3, .ref 102, .int a2])) (h' := hp N x) rfl ?_
      obtain ⟨h7, h⟩ := cond_some h
      refine ev_iald rfl rfl h7 ?_
      rcases ite_or h with ⟨h8, h⟩ | ⟨h8, h⟩
      · refine ev_ict rfl (decide_eq_true h8) ?_
        exact em31_64 k2 q2 a1 a2 a3 x _ h
      · refine ev_icf rfl (decide_eq_false h8) ?_
        refine ev_run (n := 1) (u' := (0, 0)) (f' := (63, [some (.ref 98), some (.int a1), some (.int a2), some (.int a3), some (.int s0)], [.int 1])) (h' := hp N x) rfl ?_
        cases h
        exact ev_iret rfl rfl rfl (Or.inr ⟨rfl, rfl⟩)
def gm31_30 (k2 : Int32 → Int32 → Int32 → Hs → Option (Int32)) (a1 : Int32) (a2 : Int32) (a3 : Int32) (x : Hs) : Option (Int32) := gm31_35 k2 a1 a2 a3 1 x
theorem em31_30 {N : Nat} (k2 : Int32 → Int32 → Int32 → Hs → Option (Int32)) (q2 : ∀ (a1 : Int32) (a2 : Int32) (a3 : Int32) (x : Hs) (r : Int32), k2 a1 a2 a3 x = some r → Ev 31 (0, 0) (2, [some (.ref 98), some (.int a1), some (.int a2), some (.int a3), none], []) (hp N x) (cvPi N x r)) (a1 : Int32) (a2 : Int32) (a3 : Int32) (x : Hs) (r : Int32) (h : gm31_30 k2 a1 a2 a3 x = some r) : Ev 31 (0, 0) (30, [some (.ref 98), some (.int a1), some (.int a2), some (.int a3), none], []) (hp N x) (cvPi N x r) := by
  unfold gm31_30 at h
  refine ev_run (n := 2) (u' := (0, 0)) (f' := (35, [some (.ref 98), some (.int a1), some (.int a2), some (.int a3), none], [.int 1])) (h' := hp N x) rfl ?_
  exact em31_35 k2 q2 a1 a2 a3 1 x _ h
def gm31_2 : Nat → Int32 → Int32 → Int32 → Hs → Option (Int32)
  | 0, _, _, _, _ => none
  | n + 1, a1, a2, a3, x => if a3 ≥ x.1 98 0 then (some 0) else (cond (aIn a3 8) (if x.1 100 (xi a3) = (-1) then (gm31_30 (gm31_2 n) a1 a2 a3 x) else (cond (aIn a3 8) (if x.1 100 (xi a3) = a1 then (gm31_30 (gm31_2 n) a1 a2 a3 x) else (gm31_35 (gm31_2 n) a1 a2 a3 0 x)) none)) none)
theorem em31_2 {N : Nat} : ∀ (n : Nat) (a1 : Int32) (a2 : Int32) (a3 : Int32) (x : Hs) (r : Int32), gm31_2 n a1 a2 a3 x = some r → Ev 31 (0, 0) (2, [some (.ref 98), some (.int a1), some (.int a2), some (.int a3), none], []) (hp N x) (cvPi N x r)
  | 0, a1, a2, a3, x, r, h => by
    have e9 : (none : Option (Int32)) = some r := h
    cases e9
  | n + 1, a1, a2, a3, x, r, h => by
    have q2 := em31_2 (N := N) n
    rw [gm31_2] at h
    refine ev_run (n := 3) (u' := (0, 0)) (f' := (7, [some (.ref 98), some (.int a1), some (.int a2), some (.int a3), none], [.int (x.1 98 0), .int a3])) (h' := hp N x) rfl ?_
    rcases ite_or h with ⟨h5, h⟩ | ⟨h5, h⟩
    · refine ev_ict rfl (decide_eq_true h5) ?_
      refine ev_run (n := 1) (u' := (0, 0)) (f' := (71, [none, none, none, none, none], [.int 0])) (h' := hp N x) rfl ?_
      cases h
      exact ev_iret rfl rfl rfl (Or.inr ⟨rfl, rfl⟩)
    · refine ev_icf rfl (decide_eq_false h5) ?_
      refine ev_run (n := 3) (u' := (0, 0)) (f' := (15, [some (.ref 98), some (.int a1), some (.int a2), some (.int a3), none], [.int a3, .ref 100])) (h' := hp N x) rfl ?_
      obtain ⟨h1, h⟩ := cond_some h
      refine ev_iald rfl rfl h1 ?_
      refine ev_run (n := 1) (u' := (0, 0)) (f' := (17, [some (.ref 98), some (.int a1), some (.int a2), some (.int a3), none], [.int (-1), .int (x.1 100 (xi a3))])) (h' := hp N x) rfl ?_
      rcases ite_or h with ⟨h4, h⟩ | ⟨h4, h⟩
      · refine ev_ict rfl (decide_eq_true h4) ?_
        exact em31_30 (gm31_2 n) q2 a1 a2 a3 x _ h
      · refine ev_icf rfl (decide_eq_false h4) ?_
        refine ev_run (n := 3) (u' := (0, 0)) (f' := (25, [some (.ref 98), some (.int a1), some (.int a2), some (.int a3), none], [.int a3, .ref 100])) (h' := hp N x) rfl ?_
        obtain ⟨h2, h⟩ := cond_some h
        refine ev_iald rfl rfl h2 ?_
        refine ev_run (n := 1) (u' := (0, 0)) (f' := (27, [some (.ref 98), some (.int a1), some (.int a2), some (.int a3), none], [.int a1, .int (x.1 100 (xi a3))])) (h' := hp N x) rfl ?_
        rcases ite_or h with ⟨h3, h⟩ | ⟨h3, h⟩
        · refine ev_icf rfl (decide_eq_false (fun w => w h3)) ?_
          exact em31_30 (gm31_2 n) q2 a1 a2 a3 x _ h
        · refine ev_ict rfl (decide_eq_true h3) ?_
          refine ev_run (n := 1) (u' := (0, 0)) (f' := (35, [some (.ref 98), some (.int a1), some (.int a2), some (.int a3), none], [.int 0])) (h' := hp N x) rfl ?_
          exact em31_35 (gm31_2 n) q2 a1 a2 a3 0 x _ h
def gm31 (a1 : Int32) (a2 : Int32) (x : Hs) : Option (Int32) := gm31_2 FU a1 a2 0 x
theorem em31 {N : Nat} (a1 : Int32) (a2 : Int32) (x : Hs) (r : Int32) (h : gm31 a1 a2 x = some r) : Ev 31 (0, 0) (0, aPad [.ref 98, .int a1, .int a2] 5, []) (hp N x) (cvPi N x r) := by
  show Ev 31 (0, 0) (0, [some (.ref 98), some (.int a1), some (.int a2), none, none], []) (hp N x) _
  unfold gm31 at h
  refine ev_run (n := 2) (u' := (0, 0)) (f' := (2, [some (.ref 98), some (.int a1), some (.int a2), some (.int 0), none], [])) (h' := hp N x) rfl ?_
  exact em31_2 FU a1 a2 0 x _ h
def gm34 (a0 : Nat) (a1 : Int32) (x : Hs) : Option (Hs) := some (wI (wI x a0 2 (x.1 a0 2 + 1)) a0 1 (if (wI x a0 2 (x.1 a0 2 + 1)).1 a0 1 < a1 then a1 else (wI x a0 2 (x.1 a0 2 + 1)).1 a0 1))
theorem em34 {N : Nat} (a0 : Nat) (a1 : Int32) (fa0 : IN N a0) (x : Hs) (r : Hs) (h : gm34 a0 a1 x = some r) : Ev 34 (0, 0) (0, aPad [.ref a0, .int a1] 2, []) (hp N x) (cvMv N r) := by
  show Ev 34 (0, 0) (0, [some (.ref a0), some (.int a1)], []) (hp N x) _
  unfold gm34 at h
  refine ev_run (n := 2) (u' := (0, 0)) (f' := (2, [some (.ref a0), some (.int a1)], [.ref a0, .ref a0])) (h' := hp N x) rfl ?_
  refine ev_gfi rfl rfl fa0 ?_
  refine ev_run (n := 2) (u' := (0, 0)) (f' := (7, [some (.ref a0), some (.int a1)], [.int (x.1 a0 2 + 1), .ref a0])) (h' := hp N x) rfl ?_
  refine ev_pfi rfl fa0 rfl ?_
  show Ev 34 (0, 0) (10, [some (.ref a0), some (.int a1)], []) (hp N (wI x a0 2 (x.1 a0 2 + 1))) _
  refine ev_run (n := 2) (u' := (0, 0)) (f' := (12, [some (.ref a0), some (.int a1)], [.ref a0, .ref a0])) (h' := hp N (wI x a0 2 (x.1 a0 2 + 1))) rfl ?_
  refine ev_gfi rfl rfl fa0 ?_
  refine ev_run (n := 1) (u' := (0, 0)) (f' := (16, [some (.ref a0), some (.int a1)], [.int a1, .int ((wI x a0 2 (x.1 a0 2 + 1)).1 a0 1), .ref a0])) (h' := hp N (wI x a0 2 (x.1 a0 2 + 1))) rfl ?_
  refine ev_mm rfl rfl rfl (Nat.zero_le _) (Nat.zero_le _) ?_
  show Ev 34 (0, 0) (19, [some (.ref a0), some (.int a1)], [.int (if (wI x a0 2 (x.1 a0 2 + 1)).1 a0 1 < a1 then a1 else (wI x a0 2 (x.1 a0 2 + 1)).1 a0 1), .ref a0]) (hp N (wI x a0 2 (x.1 a0 2 + 1))) _
  refine ev_pfi rfl fa0 rfl ?_
  show Ev 34 (0, 0) (22, [some (.ref a0), some (.int a1)], []) (hp N (wI (wI x a0 2 (x.1 a0 2 + 1)) a0 1 (if (wI x a0 2 (x.1 a0 2 + 1)).1 a0 1 < a1 then a1 else (wI x a0 2 (x.1 a0 2 + 1)).1 a0 1))) _
  cases h
  exact ev_vret rfl rfl rfl
def gm41_53 (k4 : Int32 → Int32 → Hs → Option (Hs)) (k14 : Int32 → Int32 → Int32 → Int32 → Hs → Option (Hs)) (a1 : Int32) (a2 : Int32) (a3 : Int32) (a4 : Int32) (x : Hs) : Option (Hs) := k14 a1 a2 a3 (a4 + 1) x
theorem em41_53 {N : Nat} (k4 : Int32 → Int32 → Hs → Option (Hs)) (k14 : Int32 → Int32 → Int32 → Int32 → Hs → Option (Hs)) (q4 : ∀ (a1 : Int32) (a2 : Int32) (x : Hs) (r : Hs), k4 a1 a2 x = some r → Ev 41 (0, 0) (4, [some (.ref 130), some (.int a1), some (.int a2), none, none], []) (hp N x) (cvMv N r)) (q14 : ∀ (a1 : Int32) (a2 : Int32) (a3 : Int32) (a4 : Int32) (x : Hs) (r : Hs), k14 a1 a2 a3 a4 x = some r → Ev 41 (0, 0) (14, [some (.ref 130), some (.int a1), some (.int a2), some (.int a3), some (.int a4)], []) (hp N x) (cvMv N r)) (a1 : Int32) (a2 : Int32) (a3 : Int32) (a4 : Int32) (x : Hs) (r : Hs) (h : gm41_53 k4 k14 a1 a2 a3 a4 x = some r) : Ev 41 (0, 0) (53, [some (.ref 130), some (.int a1), some (.int a2), some (.int a3), some (.int a4)], []) (hp N x) (cvMv N r) := by
  unfold gm41_53 at h
  refine ev_run (n := 2) (u' := (0, 0)) (f' := (14, [some (.ref 130), some (.int a1), some (.int a2), some (.int a3), some (.int (a4 + 1))], [])) (h' := hp N x) rfl ?_
  exact q14 a1 a2 a3 (a4 + 1) x _ h
def gm41_59 (k4 : Int32 → Int32 → Hs → Option (Hs)) (a1 : Int32) (a2 : Int32) (a3 : Int32) (x : Hs) : Option (Hs) := k4 (a1 * (a3 + 1)) (a2 + 1) x
theorem em41_59 {N : Nat} (k4 : Int32 → Int32 → Hs → Option (Hs)) (q4 : ∀ (a1 : Int32) (a2 : Int32) (x : Hs) (r : Hs), k4 a1 a2 x = some r → Ev 41 (0, 0) (4, [some (.ref 130), some (.int a1), some (.int a2), none, none], []) (hp N x) (cvMv N r)) (a1 : Int32) (a2 : Int32) (a3 : Int32) (x : Hs) (r : Hs) (h : gm41_59 k4 a1 a2 a3 x = some r) : Ev 41 (0, 0) (59, [some (.ref 130), some (.int a1), some (.int a2), some (.int a3), none], []) (hp N x) (cvMv N r) := by
  unfold gm41_59 at h
  refine ev_run (n := 8) (u' := (0, 0)) (f' := (4, [some (.ref 130), some (.int (a1 * (a3 + 1))), some (.int (a2 + 1)), none, none], [])) (h' := hp N x) rfl ?_
  exact q4 (a1 * (a3 + 1)) (a2 + 1) x _ h
def gm41_14 (k4 : Int32 → Int32 → Hs → Option (Hs)) : Nat → Int32 → Int32 → Int32 → Int32 → Hs → Option (Hs)
  | 0, _, _, _, _, _ => none
  | n + 1, a1, a2, a3, a4, x => if a4 ≥ x.1 2 1 then (gm41_59 k4 a1 a2 a3 x) else (cond (aIn a4 24) (if x.1 4 (xi a4) = a2 then (cond (aIn a4 24) (gm41_53 k4 (gm41_14 k4 n) a1 a2 (a3 + 1) a4 (wI x 131 (xi a4) ((a3 + 1) * a1))) none) else (gm41_53 k4 (gm41_14 k4 n) a1 a2 a3 a4 x)) none)
theorem em41_14 {N : Nat} (k4 : Int32 → Int32 → Hs → Option (Hs)) (q4 : ∀ (a1 : Int32) (a2 : Int32) (x : Hs) (r : Hs), k4 a1 a2 x = some r → Ev 41 (0, 0) (4, [some (.ref 130), some (.int a1), some (.int a2), none, none], []) (hp N x) (cvMv N r)) : ∀ (n : Nat) (a1 : Int32) (a2 : Int32) (a3 : Int32) (a4 : Int32) (x : Hs) (r : Hs), gm41_14 k4 n a1 a2 a3 a4 x = some r → Ev 41 (0, 0) (14, [some (.ref 130), some (.int a1), some (.int a2), some (.int a3), some (.int a4)], []) (hp N x) (cvMv N r)
  | 0, a1, a2, a3, a4, x, r, h => by
    have e9 : (none : Option (Hs)) = some r := h
    cases e9
  | n + 1, a1, a2, a3, a4, x, r, h => by
    have q14 := em41_14 k4 q4 (N := N) n
    rw [gm41_14] at h
    refine ev_run (n := 4) (u' := (0, 0)) (f' := (23, [some (.ref 130), some (.int a1), some (.int a2), some (.int a3), some (.int a4)], [.int (x.1 2 1), .int a4])) (h' := hp N x) rfl ?_
    rcases ite_or h with ⟨h5, h⟩ | ⟨h5, h⟩
    · refine ev_ict rfl (decide_eq_true h5) ?_
      exact em41_59 k4 q4 a1 a2 a3 x _ h
    · refine ev_icf rfl (decide_eq_false h5) ?_
      refine ev_run (n := 4) (u' := (0, 0)) (f' := (35, [some (.ref 130), some (.int a1), some (.int a2), some (.int a3), some (.int a4)], [.int a4, .ref 4])) (h' := hp N x) rfl ?_
      obtain ⟨h2, h⟩ := cond_some h
      refine ev_iald rfl rfl h2 ?_
      refine ev_run (n := 1) (u' := (0, 0)) (f' := (37, [some (.ref 130), some (.int a1), some (.int a2), some (.int a3), some (.int a4)], [.int a2, .int (x.1 4 (xi a4))])) (h' := hp N x) rfl ?_
      rcases ite_or h with ⟨h4, h⟩ | ⟨h4, h⟩
      · refine ev_icf rfl (decide_eq_false (fun w => w h4)) ?_
        refine ev_run (n := 7) (u' := (0, 0)) (f' := (52, [some (.ref 130), some (.int a1), some (.int a2), some (.int (a3 + 1)), some (.int a4)], [.int ((a3 + 1) * a1), .int a4, .ref 131])) (h' := hp N x) rfl ?_
        obtain ⟨h3, h⟩ := cond_some h
        refine ev_iast rfl rfl h3 ?_
        show Ev 41 (0, 0) (53, [some (.ref 130), some (.int a1), some (.int a2), some (.int (a3 + 1)), some (.int a4)], []) (hp N (wI x 131 (xi a4) ((a3 + 1) * a1))) _
        exact em41_53 k4 (gm41_14 k4 n) q4 q14 a1 a2 (a3 + 1) a4 (wI x 131 (xi a4) ((a3 + 1) * a1)) _ h
      · refine ev_ict rfl (decide_eq_true h4) ?_
        exact em41_53 k4 (gm41_14 k4 n) q4 q14 a1 a2 a3 a4 x _ h
def gm41_4 : Nat → Int32 → Int32 → Hs → Option (Hs)
  | 0, _, _, _ => none
  | n + 1, a1, a2, x => if a2 ≥ 5 then (some x) else (gm41_14 (gm41_4 n) FU a1 a2 0 0 x)
theorem em41_4 {N : Nat} : ∀ (n : Nat) (a1 : Int32) (a2 : Int32) (x : Hs) (r : Hs), gm41_4 n a1 a2 x = some r → Ev 41 (0, 0) (4, [some (.ref 130), some (.int a1), some (.int a2), none, none], []) (hp N x) (cvMv N r)
  | 0, a1, a2, x, r, h => by
    have e9 : (none : Option (Hs)) = some r := h
    cases e9
  | n + 1, a1, a2, x, r, h => by
    have q4 := em41_4 (N := N) n
    rw [gm41_4] at h
    refine ev_run (n := 2) (u' := (0, 0)) (f' := (6, [some (.ref 130), some (.int a1), some (.int a2), none, none], [.int 5, .int a2])) (h' := hp N x) rfl ?_
    rcases ite_or h with ⟨h1, h⟩ | ⟨h1, h⟩
    · refine ev_ict rfl (decide_eq_true h1) ?_
      cases h
      exact ev_vret rfl rfl rfl
    · refine ev_icf rfl (decide_eq_false h1) ?_
      refine ev_run (n := 4) (u' := (0, 0)) (f' := (14, [some (.ref 130), some (.int a1), some (.int a2), some (.int 0), some (.int 0)], [])) (h' := hp N x) rfl ?_
      exact em41_14 (gm41_4 n) q4 FU a1 a2 0 0 x _ h
def gm41 (x : Hs) : Option (Hs) := gm41_4 FU 1 0 x
theorem em41 {N : Nat} (x : Hs) (r : Hs) (h : gm41 x = some r) : Ev 41 (0, 0) (0, aPad [.ref 130] 5, []) (hp N x) (cvMv N r) := by
  show Ev 41 (0, 0) (0, [some (.ref 130), none, none, none, none], []) (hp N x) _
  unfold gm41 at h
  refine ev_run (n := 4) (u' := (0, 0)) (f' := (4, [some (.ref 130), some (.int 1), some (.int 0), none, none], [])) (h' := hp N x) rfl ?_
  exact em41_4 FU 1 0 x _ h
def gm42_41 (k7 : Int32 → Hs → Option (Hs)) (a1 : Int32) (x : Hs) : Option (Hs) := k7 (a1 + 1) x
theorem em42_41 {N : Nat} (k7 : Int32 → Hs → Option (Hs)) (q7 : ∀ (a1 : Int32) (x : Hs) (r : Hs), k7 a1 x = some r → Ev 42 (0, 0) (7, [some (.ref 130), some (.int a1)], []) (hp N x) (cvMv N r)) (a1 : Int32) (x : Hs) (r : Hs) (h : gm42_41 k7 a1 x = some r) : Ev 42 (0, 0) (41, [some (.ref 130), some (.int a1)], []) (hp N x) (cvMv N r) := by
  unfold gm42_41 at h
  refine ev_run (n := 2) (u' := (0, 0)) (f' := (7, [some (.ref 130), some (.int (a1 + 1))], [])) (h' := hp N x) rfl ?_
  exact q7 (a1 + 1) x _ h
def gm42_7 : Nat → Int32 → Hs → Option (Hs)
  | 0, _, _ => none
  | n + 1, a1, x => if a1 ≥ x.1 2 1 then (some x) else ((gm12 a1 x).bind fun w1 => (if w1 = 0 then (gm42_41 (gm42_7 n) a1 x) else (gm42_41 (gm42_7 n) a1 (wI x 130 9 (x.1 130 9 ||| (1 <<< (a1 &&& 31)))))))
theorem em42_7 {N : Nat} : ∀ (n : Nat) (a1 : Int32) (x : Hs) (r : Hs), gm42_7 n a1 x = some r → Ev 42 (0, 0) (7, [some (.ref 130), some (.int a1)], []) (hp N x) (cvMv N r)
  | 0, a1, x, r, h => by
    have e9 : (none : Option (Hs)) = some r := h
    cases e9
  | n + 1, a1, x, r, h => by
    have q7 := em42_7 (N := N) n
    rw [gm42_7] at h
    refine ev_run (n := 4) (u' := (0, 0)) (f' := (15, [some (.ref 130), some (.int a1)], [.int (x.1 2 1), .int a1])) (h' := hp N x) rfl ?_
    rcases ite_or h with ⟨h4, h⟩ | ⟨h4, h⟩
    · refine ev_ict rfl (decide_eq_true h4) ?_
      cases h
      exact ev_vret rfl rfl rfl
    · refine ev_icf rfl (decide_eq_false h4) ?_
      refine ev_run (n := 3) (u' := (0, 0)) (f' := (23, [some (.ref 130), some (.int a1)], [.int a1, .ref 2])) (h' := hp N x) rfl ?_
      obtain ⟨w1, h2, h⟩ := bind_ok h
      refine ev_call (v := some (.int w1)) (h1 := hp N x) rfl rfl rfl rfl (em12 a1 x _ h2) ?_
      show Ev 42 (0, 0) (26, [some (.ref 130), some (.int a1)], [.int w1]) (hp N x) _
      rcases ite_or h with ⟨h3, h⟩ | ⟨h3, h⟩
      · refine ev_ift rfl (decide_eq_true h3) ?_
        exact em42_41 (gm42_7 n) q7 a1 x _ h
      · refine ev_iff rfl (decide_eq_false h3) ?_
        refine ev_run (n := 8) (u' := (0, 0)) (f' := (41, [some (.ref 130), some (.int a1)], [])) (h' := hp N (wI x 130 9 (x.1 130 9 ||| (1 <<< (a1 &&& 31))))) rfl ?_
        exact em42_41 (gm42_7 n) q7 a1 (wI x 130 9 (x.1 130 9 ||| (1 <<< (a1 &&& 31)))) _ h
def gm42 (x : Hs) : Option (Hs) := gm42_7 FU 0 (wI x 130 9 0)
theorem em42 {N : Nat} (x : Hs) (r : Hs) (h : gm42 x = some r) : Ev 42 (0, 0) (0, aPad [.ref 130] 2, []) (hp N x) (cvMv N r) := by
  show Ev 42 (0, 0) (0, [some (.ref 130), none], []) (hp N x) _
  unfold gm42 at h
  refine ev_run (n := 5) (u' := (0, 0)) (f' := (7, [some (.ref 130), some (.int 0)], [])) (h' := hp N (wI x 130 9 0)) rfl ?_
  exact em42_7 FU 0 (wI x 130 9 0) _ h
def gm43 (a1 : Int32) (a2 : Int32) (a3 : Int32) (x : Hs) : Option (Hs) := if x.1 130 10 ≥ 6480 then (some x) else (cond (aIn (x.1 130 10) 6480) (cond (aIn ((wI x 133 (xi (x.1 130 10)) a1).1 130 10) 6480) (cond (aIn ((wI (wI x 133 (xi (x.1 130 10)) a1) 134 (xi ((wI x 133 (xi (x.1 130 10)) a1).1 130 10)) a2).1 130 10) 6480) (some (wI (wI (wI (wI x 133 (xi (x.1 130 10)) a1) 134 (xi ((wI x 133 (xi (x.1 130 10)) a1).1 130 10)) a2) 135 (xi ((wI (wI x 133 (xi (x.1 130 10)) a1) 134 (xi ((wI x 133 (xi (x.1 130 10)) a1).1 130 10)) a2).1 130 10)) a3) 130 10 ((wI (wI (wI x 133 (xi (x.1 130 10)) a1) 134 (xi ((wI x 133 (xi (x.1 130 10)) a1).1 130 10)) a2) 135 (xi ((wI (wI x 133 (xi (x.1 130 10)) a1) 134 (xi ((wI x 133 (xi (x.1 130 10)) a1).1 130 10)) a2).1 130 10)) a3).1 130 10 + 1))) none) none) none)
theorem em43 {N : Nat} (a1 : Int32) (a2 : Int32) (a3 : Int32) (x : Hs) (r : Hs) (h : gm43 a1 a2 a3 x = some r) : Ev 43 (0, 0) (0, aPad [.ref 130, .int a1, .int a2, .int a3] 4, []) (hp N x) (cvMv N r) := by
  show Ev 43 (0, 0) (0, [some (.ref 130), some (.int a1), some (.int a2), some (.int a3)], []) (hp N x) _
  unfold gm43 at h
  refine ev_run (n := 3) (u' := (0, 0)) (f' := (7, [some (.ref 130), some (.int a1), some (.int a2), some (.int a3)], [.int 6480, .int (x.1 130 10)])) (h' := hp N x) rfl ?_
  rcases ite_or h with ⟨h4, h⟩ | ⟨h4, h⟩
  · refine ev_ict rfl (decide_eq_true h4) ?_
    cases h
    exact ev_vret rfl rfl rfl
  · refine ev_icf rfl (decide_eq_false h4) ?_
    refine ev_run (n := 5) (u' := (0, 0)) (f' := (19, [some (.ref 130), some (.int a1), some (.int a2), some (.int a3)], [.int a1, .int (x.1 130 10), .ref 133])) (h' := hp N x) rfl ?_
    obtain ⟨h1, h⟩ := cond_some h
    refine ev_iast rfl rfl h1 ?_
    show Ev 43 (0, 0) (20, [some (.ref 130), some (.int a1), some (.int a2), some (.int a3)], []) (hp N (wI x 133 (xi (x.1 130 10)) a1)) _
    refine ev_run (n := 5) (u' := (0, 0)) (f' := (29, [some (.ref 130), some (.int a1), some (.int a2), some (.int a3)], [.int a2, .int ((wI x 133 (xi (x.1 130 10)) a1).1 130 10), .ref 134])) (h' := hp N (wI x 133 (xi (x.1 130 10)) a1)) rfl ?_
    obtain ⟨h2, h⟩ := cond_some h
    refine ev_iast rfl rfl h2 ?_
    show Ev 43 (0, 0) (30, [some (.ref 130), some (.int a1), some (.int a2), some (.int a3)], []) (hp N (wI (wI x 133 (xi (x.1 130 10)) a1) 134 (xi ((wI x 133 (xi (x.1 130 10)) a1).1 130 10)) a2)) _
    refine ev_run (n := 5) (u' := (0, 0)) (f' := (39, [some (.ref 130), some (.int a1), some (.int a2), some (.int a3)], [.int a3, .int ((wI (wI x 133 (xi (x.1 130 10)) a1) 134 (xi ((wI x 133 (xi (x.1 130 10)) a1).1 130 10)) a2).1 130 10), .ref 135])) (h' := hp N (wI (wI x 133 (xi (x.1 130 10)) a1) 134 (xi ((wI x 133 (xi (x.1 130 10)) a1).1 130 10)) a2)) rfl ?_
    obtain ⟨h3, h⟩ := cond_some h
    refine ev_iast rfl rfl h3 ?_
    show Ev 43 (0, 0) (40, [some (.ref 130), some (.int a1), some (.int a2), some (.int a3)], []) (hp N (wI (wI (wI x 133 (xi (x.1 130 10)) a1) 134 (xi ((wI x 133 (xi (x.1 130 10)) a1).1 130 10)) a2) 135 (xi ((wI (wI x 133 (xi (x.1 130 10)) a1) 134 (xi ((wI x 133 (xi (x.1 130 10)) a1).1 130 10)) a2).1 130 10)) a3)) _
    refine ev_run (n := 6) (u' := (0, 0)) (f' := (50, [some (.ref 130), some (.int a1), some (.int a2), some (.int a3)], [])) (h' := hp N (wI (wI (wI (wI x 133 (xi (x.1 130 10)) a1) 134 (xi ((wI x 133 (xi (x.1 130 10)) a1).1 130 10)) a2) 135 (xi ((wI (wI x 133 (xi (x.1 130 10)) a1) 134 (xi ((wI x 133 (xi (x.1 130 10)) a1).1 130 10)) a2).1 130 10)) a3) 130 10 ((wI (wI (wI x 133 (xi (x.1 130 10)) a1) 134 (xi ((wI x 133 (xi (x.1 130 10)) a1).1 130 10)) a2) 135 (xi ((wI (wI x 133 (xi (x.1 130 10)) a1) 134 (xi ((wI x 133 (xi (x.1 130 10)) a1).1 130 10)) a2).1 130 10)) a3).1 130 10 + 1))) rfl ?_
    cases h
    exact ev_vret rfl rfl rfl
def gm45_55 (k12 : Int32 → Int32 → Int32 → Hs → Option (Int32 × Hs)) (a1 : Int32) (a2 : Int32) (a3 : Int32) (x : Hs) : Option (Int32 × Hs) := k12 a1 a2 (a3 + 1) x
theorem em45_55 {N : Nat} (k12 : Int32 → Int32 → Int32 → Hs → Option (Int32 × Hs)) (q12 : ∀ (a1 : Int32) (a2 : Int32) (a3 : Int32) (x : Hs) (r : Int32 × Hs), k12 a1 a2 a3 x = some r → Ev 45 (0, 0) (12, [some (.ref 130), some (.int a1), some (.int a2), some (.int a3)], []) (hp N x) (cvMi N r)) (a1 : Int32) (a2 : Int32) (a3 : Int32) (x : Hs) (r : Int32 × Hs) (h : gm45_55 k12 a1 a2 a3 x = some r) : Ev 45 (0, 0) (55, [some (.ref 130), some (.int a1), some (.int a2), some (.int a3)], []) (hp N x) (cvMi N r) := by
  unfold gm45_55 at h
  refine ev_run (n := 2) (u' := (0, 0)) (f' := (12, [some (.ref 130), some (.int a1), some (.int a2), some (.int (a3 + 1))], [])) (h' := hp N x) rfl ?_
  exact q12 a1 a2 (a3 + 1) x _ h
def gm45_12 : Nat → Int32 → Int32 → Int32 → Hs → Option (Int32 × Hs)
  | 0, _, _, _, _ => none
  | n + 1, a1, a2, a3, x => if a3 ≥ x.1 2 1 then (some (a2, x)) else ((gm101 a1 a3 x).bind fun w3 => (if w3 = 0 then (gm45_55 (gm45_12 n) a1 a2 a3 x) else (cond (aIn a3 24) (cond (aIn (x.1 4 (xi a3)) 5) (cond (aIn a3 24) (gm45_55 (gm45_12 n) a1 (a2 + (wI x 136 (xi (x.1 4 (xi a3))) a3).1 131 (xi a3)) a3 (wI x 136 (xi (x.1 4 (xi a3))) a3)) none) none) none)))
theorem em45_12 {N : Nat} : ∀ (n : Nat) (a1 : Int32) (a2 : Int32) (a3 : Int32) (x : Hs) (r : Int32 × Hs), gm45_12 n a1 a2 a3 x = some r → Ev 45 (0, 0) (12, [some (.ref 130), some (.int a1), some (.int a2), some (.int a3)], []) (hp N x) (cvMi N r)
  | 0, a1, a2, a3, x, r, h => by
    have e9 : (none : Option (Int32 × Hs)) = some r := h
    cases e9
  | n + 1, a1, a2, a3, x, r, h => by
    have q12 := em45_12 (N := N) n
    rw [gm45_12] at h
    refine ev_run (n := 4) (u' := (0, 0)) (f' := (20, [some (.ref 130), some (.int a1), some (.int a2), some (.int a3)], [.int (x.1 2 1), .int a3])) (h' := hp N x) rfl ?_
    rcases ite_or h with ⟨h9, h⟩ | ⟨h9, h⟩
    · refine ev_ict rfl (decide_eq_true h9) ?_
      refine ev_run (n := 1) (u' := (0, 0)) (f' := (62, [none, none, some (.int a2), none], [.int a2])) (h' := hp N x) rfl ?_
      cases h
      exact ev_iret rfl rfl rfl (Or.inl rfl)
    · refine ev_icf rfl (decide_eq_false h9) ?_
      refine ev_run (n := 2) (u' := (0, 0)) (f' := (25, [some (.ref 130), some (.int a1), some (.int a2), some (.int a3)], [.int a3, .int a1])) (h' := hp N x) rfl ?_
      obtain ⟨w3, h4, h⟩ := bind_ok h
      refine ev_call (v := some (.int w3)) (h1 := hp N x) rfl rfl rfl rfl (em101 a1 a3 x _ h4) ?_
      show Ev 45 (0, 0) (28, [some (.ref 130), some (.int a1), some (.int a2), some (.int a3)], [.int w3]) (hp N x) _
      rcases ite_or h with ⟨h8, h⟩ | ⟨h8, h⟩
      · refine ev_ift rfl (decide_eq_true h8) ?_
        exact em45_55 (gm45_12 n) q12 a1 a2 a3 x _ h
      · refine ev_iff rfl (decide_eq_false h8) ?_
        refine ev_run (n := 6) (u' := (0, 0)) (f' := (43, [some (.ref 130), some (.int a1), some (.int a2), some (.int a3)], [.int a3, .ref 4, .ref 136])) (h' := hp N x) rfl ?_
        obtain ⟨h5, h⟩ := cond_some h
        refine ev_iald rfl rfl h5 ?_
        refine ev_run (n := 1) (u' := (0, 0)) (f' := (45, [some (.ref 130), some (.int a1), some (.int a2), some (.int a3)], [.int a3, .int (x.1 4 (xi a3)), .ref 136])) (h' := hp N x) rfl ?_
        obtain ⟨h6, h⟩ := cond_some h
        refine ev_iast rfl rfl h6 ?_
        show Ev 45 (0, 0) (46, [some (.ref 130), some (.int a1), some (.int a2), some (.int a3)], []) (hp N (wI x 136 (xi (x.1 4 (xi a3))) a3)) _
        refine ev_run (n := 4) (u' := (0, 0)) (f' := (52, [some (.ref 130), some (.int a1), some (.int a2), some (.int a3)], [.int a3, .ref 131, .int a2])) (h' := hp N (wI x 136 (xi (x.1 4 (xi a3))) a3)) rfl ?_
        obtain ⟨h7, h⟩ := cond_some h
        refine ev_iald rfl rfl h7 ?_
        refine ev_run (n := 2) (u' := (0, 0)) (f' := (55, [some (.ref 130), some (.int a1), some (.int (a2 + (wI x 136 (xi (x.1 4 (xi a3))) a3).1 131 (xi a3))), some (.int a3)], [])) (h' := hp N (wI x 136 (xi (x.1 4 (xi a3))) a3)) rfl ?_
        exact em45_55 (gm45_12 n) q12 a1 (a2 + (wI x 136 (xi (x.1 4 (xi a3))) a3).1 131 (xi a3)) a3 (wI x 136 (xi (x.1 4 (xi a3))) a3) _ h
def gm45 (a1 : Int32) (x : Hs) : Option (Int32 × Hs) := (gm181 136 (-1) x).bind fun w1 => (gm45_12 FU a1 0 0 w1)
theorem em45 {N : Nat} (a1 : Int32) (x : Hs) (r : Int32 × Hs) (h : gm45 a1 x = some r) : Ev 45 (0, 0) (0, aPad [.ref 130, .int a1] 4, []) (hp N x) (cvMi N r) := by
  show Ev 45 (0, 0) (0, [some (.ref 130), some (.int a1), none, none], []) (hp N x) _
  unfold gm45 at h
  refine ev_run (n := 3) (u' := (0, 0)) (f' := (5, [some (.ref 130), some (.int a1), none, none], [.int (-1), .ref 136])) (h' := hp N x) rfl ?_
  obtain ⟨w1, h2, h⟩ := bind_ok h
  refine ev_call (v := none) (h1 := hp N w1) rfl rfl rfl rfl (em181 136 (-1) (⟨rfl, rfl⟩) x _ h2) ?_
  show Ev 45 (0, 0) (8, [some (.ref 130), some (.int a1), none, none], []) (hp N w1) _
  refine ev_run (n := 4) (u' := (0, 0)) (f' := (12, [some (.ref 130), some (.int a1), some (.int 0), some (.int 0)], [])) (h' := hp N w1) rfl ?_
  exact em45_12 FU a1 0 0 w1 _ h
def gm46_161 (a1 : Int32) (a3 : Int32) (a7 : Int32) (s0 : Int32) (x : Hs) : Option (Int32 × Hs) := (gm43 (s0 ||| (1 <<< (a3 &&& 31))) a1 a3 x).bind fun w21 => (cond (aBit a7) (some (a7, w21)) none)
theorem em46_161 {N : Nat} (a1 : Int32) (a3 : Int32) (a5 : Int32) (a7 : Int32) (s0 : Int32) (x : Hs) (r : Int32 × Hs) (h : gm46_161 a1 a3 a7 s0 x = some r) : Ev 46 (0, 0) (161, [some (.ref 130), some (.int a1), none, some (.int a3), none, some (.int a5), none, some (.int a7), none], [.int s0]) (hp N x) (cvMi N r) := by
  unfold gm46_161 at h
  refine ev_run (n := 9) (u' := (0, 0)) (f' := (172, [some (.ref 130), some (.int a1), none, some (.int a3), none, some (.int a5), none, some (.int a7), some (.int s0)], [.int a3, .int a1, .int (s0 ||| (1 <<< (a3 &&& 31))), .ref 130])) (h' := hp N x) rfl ?_
  obtain ⟨w21, h22, h⟩ := bind_ok h
  refine ev_call (v := none) (h1 := hp N w21) rfl rfl rfl rfl (em43 (s0 ||| (1 <<< (a3 &&& 31))) a1 a3 x _ h22) ?_
  show Ev 46 (0, 0) (175, [some (.ref 130), some (.int a1), none, some (.int a3), none, some (.int a5), none, some (.int a7), some (.int s0)], []) (hp N w21) _
  refine ev_run (n := 1) (u' := (0, 0)) (f' := (177, [some (.ref 130), some (.int a1), none, some (.int a3), none, some (.int a5), none, some (.int a7), some (.int s0)], [.int a7])) (h' := hp N w21) rfl ?_
  obtain ⟨h23, h⟩ := cond_some h
  cases h
  exact ev_iret rfl rfl rfl (Or.inr ⟨rfl, h23⟩)
theorem em46_161_k1 {N : Nat} (a1 : Int32) (a3 : Int32) (a7 : Int32) (s0 : Int32) (x : Hs) (r : Int32 × Hs) (h : gm46_161 a1 a3 a7 s0 x = some r) : Ev 46 (0, 0) (161, [some (.ref 130), some (.int a1), none, some (.int a3), none, none, none, some (.int a7), none], [.int s0]) (hp N x) (cvMi N r) := by
  unfold gm46_161 at h
  refine ev_run (n := 9) (u' := (0, 0)) (f' := (172, [some (.ref 130), some (.int a1), none, some (.int a3), none, none, none, some (.int a7), some (.int s0)], [.int a3, .int a1, .int (s0 ||| (1 <<< (a3 &&& 31))), .ref 130])) (h' := hp N x) rfl ?_
  obtain ⟨w24, h25, h⟩ := bind_ok h
  refine ev_call (v := none) (h1 := hp N w24) rfl rfl rfl rfl (em43 (s0 ||| (1 <<< (a3 &&& 31))) a1 a3 x _ h25) ?_
  show Ev 46 (0, 0) (175, [some (.ref 130), some (.int a1), none, some (.int a3), none, none, none, some (.int a7), some (.int s0)], []) (hp N w24) _
  refine ev_run (n := 1) (u' := (0, 0)) (f' := (177, [some (.ref 130), some (.int a1), none, some (.int a3), none, none, none, some (.int a7), some (.int s0)], [.int a7])) (h' := hp N w24) rfl ?_
  obtain ⟨h26, h⟩ := cond_some h
  cases h
  exact ev_iret rfl rfl rfl (Or.inr ⟨rfl, h26⟩)
def gm46_45 (a1 : Int32) (a3 : Int32) (a4 : Int32) (a5 : Int32) (s0 : Int32) (s1 : Int32) (x : Hs) : Option (Int32 × Hs) := if a5 = a3 then (some (0, x)) else (if (s0 - s1) < 0 then (some (0, x)) else (if (s0 - s1) ≥ 6480 then (some (0, x)) else (cond (aIn (s0 - s1) 6480) (if x.1 132 (xi (s0 - s1)) = x.1 130 8 then (some (0, x)) else (cond (aIn (s0 - s1) 6480) (cond (aIn a4 5) ((gm13 136 137 (wI (wI x 132 (xi (s0 - s1)) (x.1 130 8)) 136 (xi a4) a3)).bind fun w9 => (cond (aIn a4 5) (if w9 = 0 then (cond (aBit w9) (some (w9, (wI (wI (wI x 132 (xi (s0 - s1)) (x.1 130 8)) 136 (xi a4) a3) 136 (xi a4) a5))) none) else (if a5 = (-1) then (cond (aIn a1 6480) (gm46_161 a1 a3 w9 ((wI (wI (wI x 132 (xi (s0 - s1)) (x.1 130 8)) 136 (xi a4) a3) 136 (xi a4) a5).1 133 (xi a1)) (wI (wI (wI x 132 (xi (s0 - s1)) (x.1 130 8)) 136 (xi a4) a3) 136 (xi a4) a5)) none) else (cond (aIn a1 6480) (gm46_161 a1 a3 w9 ((wI (wI (wI x 132 (xi (s0 - s1)) (x.1 130 8)) 136 (xi a4) a3) 136 (xi a4) a5).1 133 (xi a1) &&& ((1 <<< (a5 &&& 31)) ^^^ (-1))) (wI (wI (wI x 132 (xi (s0 - s1)) (x.1 130 8)) 136 (xi a4) a3) 136 (xi a4) a5)) none))) none)) none) none)) none)))
theorem em46_45 {N : Nat} (a1 : Int32) (a3 : Int32) (a4 : Int32) (a5 : Int32) (s0 : Int32) (s1 : Int32) (x : Hs) (r : Int32 × Hs) (h : gm46_45 a1 a3 a4 a5 s0 s1 x = some r) : Ev 46 (0, 0) (45, [some (.ref 130), some (.int a1), none, some (.int a3), some (.int a4), some (.int a5), none, none, none], [.int s1, .int s0]) (hp N x) (cvMi N r) := by
  unfold gm46_45 at h
  refine ev_run (n := 4) (u' := (0, 0)) (f' := (51, [some (.ref 130), some (.int a1), none, some (.int a3), some (.int a4), some (.int a5), some (.int (s0 - s1)), none, none], [.int a3, .int a5])) (h' := hp N x) rfl ?_
  rcases ite_or h with ⟨h20, h⟩ | ⟨h20, h⟩
  · refine ev_ict rfl (decide_eq_true h20) ?_
    refine ev_run (n := 1) (u' := (0, 0)) (f' := (82, [none, none, none, none, none, none, none, none, none], [.int 0])) (h' := hp N x) rfl ?_
    cases h
    exact ev_iret rfl rfl rfl (Or.inr ⟨rfl, rfl⟩)
  · refine ev_icf rfl (decide_eq_false h20) ?_
    refine ev_run (n := 1) (u' := (0, 0)) (f' := (56, [some (.ref 130), some (.int a1), none, some (.int a3), some (.int a4), some (.int a5), some (.int (s0 - s1)), none, none], [.int (s0 - s1)])) (h' := hp N x) rfl ?_
    rcases ite_or h with ⟨h19, h⟩ | ⟨h19, h⟩
    · refine ev_ift rfl (decide_eq_true h19) ?_
      refine ev_run (n := 1) (u' := (0, 0)) (f' := (82, [none, none, none, none, none, none, none, none, none], [.int 0])) (h' := hp N x) rfl ?_
      cases h
      exact ev_iret rfl rfl rfl (Or.inr ⟨rfl, rfl⟩)
    · refine ev_iff rfl (decide_eq_false h19) ?_
      refine ev_run (n := 2) (u' := (0, 0)) (f' := (64, [some (.ref 130), some (.int a1), none, some (.int a3), some (.int a4), some (.int a5), some (.int (s0 - s1)), none, none], [.int 6480, .int (s0 - s1)])) (h' := hp N x) rfl ?_
      rcases ite_or h with ⟨h18, h⟩ | ⟨h18, h⟩
      · refine ev_ict rfl (decide_eq_true h18) ?_
        refine ev_run (n := 1) (u' := (0, 0)) (f' := (82, [none, none, none, none, none, none, none, none, none], [.int 0])) (h' := hp N x) rfl ?_
        cases h
        exact ev_iret rfl rfl rfl (Or.inr ⟨rfl, rfl⟩)
      · refine ev_icf rfl (decide_eq_false h18) ?_
        refine ev_run (n := 3) (u' := (0, 0)) (f' := (73, [some (.ref 130), some (.int a1), none, some (.int a3), some (.int a4), some (.int a5), some (.int (s0 - s1)), none, none], [.int (s0 - s1), .ref 132])) (h' := hp N x) rfl ?_
        obtain ⟨h6, h⟩ := cond_some h
        refine ev_iald rfl rfl h6 ?_
        refine ev_run (n := 2) (u' := (0, 0)) (f' := (78, [some (.ref 130), some (.int a1), none, some (.int a3), some (.int a4), some (.int a5), some (.int (s0 - s1)), none, none], [.int (x.1 130 8), .int (x.1 132 (xi (s0 - s1)))])) (h' := hp N x) rfl ?_
        rcases ite_or h with ⟨h17, h⟩ | ⟨h17, h⟩
        · refine ev_icf rfl (decide_eq_false (fun w => w h17)) ?_
          refine ev_run (n := 1) (u' := (0, 0)) (f' := (82, [some (.ref 130), some (.int a1), none, some (.int a3), some (.int a4), some (.int a5), some (.int (s0 - s1)), none, none], [.int 0])) (h' := hp N x) rfl ?_
          cases h
          exact ev_iret rfl rfl rfl (Or.inr ⟨rfl, rfl⟩)
        · refine ev_ict rfl (decide_eq_true h17) ?_
          refine ev_run (n := 5) (u' := (0, 0)) (f' := (93, [some (.ref 130), some (.int a1), none, some (.int a3), some (.int a4), some (.int a5), some (.int (s0 - s1)), none, none], [.int (x.1 130 8), .int (s0 - s1), .ref 132])) (h' := hp N x) rfl ?_
          obtain ⟨h7, h⟩ := cond_some h
          refine ev_iast rfl rfl h7 ?_
          show Ev 46 (0, 0) (94, [some (.ref 130), some (.int a1), none, some (.int a3), some (.int a4), some (.int a5), some (.int (s0 - s1)), none, none], []) (hp N (wI x 132 (xi (s0 - s1)) (x.1 130 8))) _
          refine ev_run (n := 4) (u' := (0, 0)) (f' := (101, [some (.ref 130), some (.int a1), none, some (.int a3), some (.int a4), some (.int a5), some (.int (s0 - s1)), none, none], [.int a3, .int a4, .ref 136])) (h' := hp N (wI x 132 (xi (s0 - s1)) (x.1 130 8))) rfl ?_
          obtain ⟨h8, h⟩ := cond_some h
          refine ev_iast rfl rfl h8 ?_
          show Ev 46 (0, 0) (102, [some (.ref 130), some (.int a1), none, some (.int a3), some (.int a4), some (.int a5), some (.int (s0 - s1)), none, none], []) (hp N (wI (wI x 132 (xi (s0 - s1)) (x.1 130 8)) 136 (xi a4) a3)) _
          refine ev_run (n := 6) (u' := (0, 0)) (f' := (114, [some (.ref 130), some (.int a1), none, some (.int a3), some (.int a4), some (.int a5), some (.int (s0 - s1)), none, none], [.ref 137, .ref 136, .ref 2])) (h' := hp N (wI (wI x 132 (xi (s0 - s1)) (x.1 130 8)) 136 (xi a4) a3)) rfl ?_
          obtain ⟨w9, h10, h⟩ := bind_ok h
          refine ev_call (v := some (.int w9)) (h1 := hp N (wI (wI x 132 (xi (s0 - s1)) (x.1 130 8)) 136 (xi a4) a3)) rfl rfl rfl rfl (em13 136 137 (⟨rfl, rfl⟩) (⟨rfl, rfl⟩) (wI (wI x 132 (xi (s0 - s1)) (x.1 130 8)) 136 (xi a4) a3) _ h10) ?_
          show Ev 46 (0, 0) (117, [some (.ref 130), some (.int a1), none, some (.int a3), some (.int a4), some (.int a5), some (.int (s0 - s1)), none, none], [.int w9]) (hp N (wI (wI x 132 (xi (s0 - s1)) (x.1 130 8)) 136 (xi a4) a3)) _
          refine ev_run (n := 5) (u' := (0, 0)) (f' := (127, [some (.ref 130), some (.int a1), none, some (.int a3), some (.int a4), some (.int a5), some (.int (s0 - s1)), some (.int w9), none], [.int a5, .int a4, .ref 136])) (h' := hp N (wI (wI x 132 (xi (s0 - s1)) (x.1 130 8)) 136 (xi a4) a3)) rfl ?_
          obtain ⟨h11, h⟩ := cond_some h
          refine ev_iast rfl rfl h11 ?_
          show Ev 46 (0, 0) (128, [some (.ref 130), some (.int a1), none, some (.int a3), some (.int a4), some (.int a5), some (.int (s0 - s1)), some (.int w9), none], []) (hp N (wI (wI (wI x 132 (xi (s0 - s1)) (x.1 130 8)) 136 (xi a4) a3) 136 (xi a4) a5)) _
          refine ev_run (n := 1) (u' := (0, 0)) (f' := (130, [some (.ref 130), some (.int a1), none, some (.int a3), some (.int a4), some (.int a5), some (.int (s0 - s1)), some (.int w9), none], [.int w9])) (h' := hp N (wI (wI (wI x 132 (xi (s0 - s1)) (x.1 130 8)) 136 (xi a4) a3) 136 (xi a4) a5)) rfl ?_
          rcases ite_or h with ⟨h16, h⟩ | ⟨h16, h⟩
          · refine ev_ift rfl (decide_eq_true h16) ?_
            refine ev_run (n := 1) (u' := (0, 0)) (f' := (177, [none, none, none, none, none, none, none, some (.int w9), none], [.int w9])) (h' := hp N (wI (wI (wI x 132 (xi (s0 - s1)) (x.1 130 8)) 136 (xi a4) a3) 136 (xi a4) a5)) rfl ?_
            obtain ⟨h12, h⟩ := cond_some h
            cases h
            exact ev_iret rfl rfl rfl (Or.inr ⟨rfl, h12⟩)
          · refine ev_iff rfl (decide_eq_false h16) ?_
            refine ev_run (n := 2) (u' := (0, 0)) (f' := (136, [some (.ref 130), some (.int a1), none, some (.int a3), some (.int a4), some (.int a5), some (.int (s0 - s1)), some (.int w9), none], [.int (-1), .int a5])) (h' := hp N (wI (wI (wI x 132 (xi (s0 - s1)) (x.1 130 8)) 136 (xi a4) a3) 136 (xi a4) a5)) rfl ?_
            rcases ite_or h with ⟨h15, h⟩ | ⟨h15, h⟩
            · refine ev_icf rfl (decide_eq_false (fun w => w h15)) ?_
              refine ev_run (n := 3) (u' := (0, 0)) (f' := (144, [some (.ref 130), some (.int a1), none, some (.int a3), some (.int a4), some (.int a5), some (.int (s0 - s1)), some (.int w9), none], [.int a1, .ref 133])) (h' := hp N (wI (wI (wI x 132 (xi (s0 - s1)) (x.1 130 8)) 136 (xi a4) a3) 136 (xi a4) a5)) rfl ?_
              obtain ⟨h14, h⟩ := cond_some h
              refine ev_iald rfl rfl h14 ?_
              refine ev_run (n := 1) (u' := (0, 0)) (f' := (161, [some (.ref 130), some (.int a1), none, some (.int a3), none, none, none, some (.int w9), none], [.int ((wI (wI (wI x 132 (xi (s0 - s1)) (x.1 130 8)) 136 (xi a4) a3) 136 (xi a4) a5).1 133 (xi a1))])) (h' := hp N (wI (wI (wI x 132 (xi (s0 - s1)) (x.1 130 8)) 136 (xi a4) a3) 136 (xi a4) a5)) rfl ?_
              exact em46_161_k1 a1 a3 w9 ((wI (wI (wI x 132 (xi (s0 - s1)) (x.1 130 8)) 136 (xi a4) a3) 136 (xi a4) a5).1 133 (xi a1)) (wI (wI (wI x 132 (xi (s0 - s1)) (x.1 130 8)) 136 (xi a4) a3) 136 (xi a4) a5) _ h
            · refine ev_ict rfl (decide_eq_true h15) ?_
              refine ev_run (n := 3) (u' := (0, 0)) (f' := (153, [some (.ref 130), some (.int a1), none, some (.int a3), none, some (.int a5), none, some (.int w9), none], [.int a1, .ref 133])) (h' := hp N (wI (wI (wI x 132 (xi (s0 - s1)) (x.1 130 8)) 136 (xi a4) a3) 136 (xi a4) a5)) rfl ?_
              obtain ⟨h13, h⟩ := cond_some h
              refine ev_iald rfl rfl h13 ?_
              refine ev_run (n := 6) (u' := (0, 0)) (f' := (161, [some (.ref 130), some (.int a1), none, some (.int a3), none, some (.int a5), none, some (.int w9), none], [.int ((wI (wI (wI x 132 (xi (s0 - s1)) (x.1 130 8)) 136 (xi a4) a3) 136 (xi a4) a5).1 133 (xi a1) &&& ((1 <<< (a5 &&& 31)) ^^^ (-1)))])) (h' := hp N (wI (wI (wI x 132 (xi (s0 - s1)) (x.1 130 8)) 136 (xi a4) a3) 136 (xi a4) a5)) rfl ?_
              exact em46_161 a1 a3 a5 w9 ((wI (wI (wI x 132 (xi (s0 - s1)) (x.1 130 8)) 136 (xi a4) a3) 136 (xi a4) a5).1 133 (xi a1) &&& ((1 <<< (a5 &&& 31)) ^^^ (-1))) (wI (wI (wI x 132 (xi (s0 - s1)) (x.1 130 8)) 136 (xi a4) a3) 136 (xi a4) a5) _ h
def gm46 (a1 : Int32) (a2 : Int32) (a3 : Int32) (x : Hs) : Option (Int32 × Hs) := cond (aIn a3 24) (cond (aIn (x.1 4 (xi a3)) 5) (cond (aIn a3 24) (if x.1 136 (xi (x.1 4 (xi a3))) = (-1) then (gm46_45 a1 a3 (x.1 4 (xi a3)) (x.1 136 (xi (x.1 4 (xi a3)))) (a2 + x.1 131 (xi a3)) 0 x) else (cond (aIn (x.1 136 (xi (x.1 4 (xi a3)))) 24) (gm46_45 a1 a3 (x.1 4 (xi a3)) (x.1 136 (xi (x.1 4 (xi a3)))) (a2 + x.1 131 (xi a3)) (x.1 131 (xi (x.1 136 (xi (x.1 4 (xi a3)))))) x) none)) none) none) none
theorem em46 {N : Nat} (a1 : Int32) (a2 : Int32) (a3 : Int32) (x : Hs) (r : Int32 × Hs) (h : gm46 a1 a2 a3 x = some r) : Ev 46 (0, 0) (0, aPad [.ref 130, .int a1, .int a2, .int a3] 9, []) (hp N x) (cvMi N r) := by
  show Ev 46 (0, 0) (0, [some (.ref 130), some (.int a1), some (.int a2), some (.int a3), none, none, none, none, none], []) (hp N x) _
  unfold gm46 at h
  refine ev_run (n := 4) (u' := (0, 0)) (f' := (8, [some (.ref 130), some (.int a1), some (.int a2), some (.int a3), none, none, none, none, none], [.int a3, .ref 4])) (h' := hp N x) rfl ?_
  obtain ⟨h1, h⟩ := cond_some h
  refine ev_iald rfl rfl h1 ?_
  refine ev_run (n := 4) (u' := (0, 0)) (f' := (17, [some (.ref 130), some (.int a1), some (.int a2), some (.int a3), some (.int (x.1 4 (xi a3))), none, none, none, none], [.int (x.1 4 (xi a3)), .ref 136])) (h' := hp N x) rfl ?_
  obtain ⟨h2, h⟩ := cond_some h
  refine ev_iald rfl rfl h2 ?_
  refine ev_run (n := 5) (u' := (0, 0)) (f' := (26, [some (.ref 130), some (.int a1), some (.int a2), some (.int a3), some (.int (x.1 4 (xi a3))), some (.int (x.1 136 (xi (x.1 4 (xi a3))))), none, none, none], [.int a3, .ref 131, .int a2])) (h' := hp N x) rfl ?_
  obtain ⟨h3, h⟩ := cond_some h
  refine ev_iald rfl rfl h3 ?_
  refine ev_run (n := 3) (u' := (0, 0)) (f' := (31, [some (.ref 130), some (.int a1), some (.int a2), some (.int a3), some (.int (x.1 4 (xi a3))), some (.int (x.1 136 (xi (x.1 4 (xi a3))))), none, none, none], [.int (-1), .int (x.1 136 (xi (x.1 4 (xi a3)))), .int (a2 + x.1 131 (xi a3))])) (h' := hp N x) rfl ?_
  rcases ite_or h with ⟨h5, h⟩ | ⟨h5, h⟩
  · refine ev_icf rfl (decide_eq_false (fun w => w h5)) ?_
    refine ev_run (n := 2) (u' := (0, 0)) (f' := (45, [some (.ref 130), some (.int a1), none, some (.int a3), some (.int (x.1 4 (xi a3))), some (.int (x.1 136 (xi (x.1 4 (xi a3))))), none, none, none], [.int 0, .int (a2 + x.1 131 (xi a3))])) (h' := hp N x) rfl ?_
    exact em46_45 a1 a3 (x.1 4 (xi a3)) (x.1 136 (xi (x.1 4 (xi a3)))) (a2 + x.1 131 (xi a3)) 0 x _ h
  · refine ev_ict rfl (decide_eq_true h5) ?_
    refine ev_run (n := 3) (u' := (0, 0)) (f' := (44, [some (.ref 130), some (.int a1), none, some (.int a3), some (.int (x.1 4 (xi a3))), some (.int (x.1 136 (xi (x.1 4 (xi a3))))), none, none, none], [.int (x.1 136 (xi (x.1 4 (xi a3)))), .ref 131, .int (a2 + x.1 131 (xi a3))])) (h' := hp N x) rfl ?_
    obtain ⟨h4, h⟩ := cond_some h
    refine ev_iald rfl rfl h4 ?_
    exact em46_45 a1 a3 (x.1 4 (xi a3)) (x.1 136 (xi (x.1 4 (xi a3)))) (a2 + x.1 131 (xi a3)) (x.1 131 (xi (x.1 136 (xi (x.1 4 (xi a3)))))) x _ h
def gm44_73 (k14 : Int32 → Int32 → Int32 → Int32 → Hs → Option (Hs)) (a1 : Int32) (a2 : Int32) (a3 : Int32) (a4 : Int32) (x : Hs) : Option (Hs) := k14 a1 a2 a3 (a4 + 1) x
theorem em44_73 {N : Nat} (k14 : Int32 → Int32 → Int32 → Int32 → Hs → Option (Hs)) (q14 : ∀ (a1 : Int32) (a2 : Int32) (a3 : Int32) (a4 : Int32) (x : Hs) (r : Hs), k14 a1 a2 a3 a4 x = some r → Ev 44 (0, 0) (14, [some (.ref 130), some (.int a1), some (.int a2), some (.int a3), some (.int a4)], []) (hp N x) (cvMv N r)) (a1 : Int32) (a2 : Int32) (a3 : Int32) (a4 : Int32) (x : Hs) (r : Hs) (h : gm44_73 k14 a1 a2 a3 a4 x = some r) : Ev 44 (0, 0) (73, [some (.ref 130), some (.int a1), some (.int a2), some (.int a3), some (.int a4)], []) (hp N x) (cvMv N r) := by
  unfold gm44_73 at h
  refine ev_run (n := 2) (u' := (0, 0)) (f' := (14, [some (.ref 130), some (.int a1), some (.int a2), some (.int a3), some (.int (a4 + 1))], [])) (h' := hp N x) rfl ?_
  exact q14 a1 a2 a3 (a4 + 1) x _ h
def gm44_14 : Nat → Int32 → Int32 → Int32 → Int32 → Hs → Option (Hs)
  | 0, _, _, _, _, _ => none
  | n + 1, a1, a2, a3, a4, x => if a4 ≥ x.1 2 1 then (some x) else (if x.1 130 11 = (-1) then ((gm101 (x.1 130 9) a4 x).bind fun w4 => (if w4 = 0 then (gm44_73 (gm44_14 n) a1 a2 a3 a4 x) else ((gm46 a1 a3 a4 x).bind fun w6 => (if w6.1 = 0 then (gm44_73 (gm44_14 n) a1 a2 a3 a4 w6.2) else (if a4 = a2 then (gm44_73 (gm44_14 n) a1 a2 a3 a4 (wI w6.2 130 11 (w6.2.1 130 10 - 1))) else (gm44_73 (gm44_14 n) a1 a2 a3 a4 w6.2)))))) else (some x))
theorem em44_14 {N : Nat} : ∀ (n : Nat) (a1 : Int32) (a2 : Int32) (a3 : Int32) (a4 : Int32) (x : Hs) (r : Hs), gm44_14 n a1 a2 a3 a4 x = some r → Ev 44 (0, 0) (14, [some (.ref 130), some (.int a1), some (.int a2), some (.int a3), some (.int a4)], []) (hp N x) (cvMv N r)
  | 0, a1, a2, a3, a4, x, r, h => by
    have e9 : (none : Option (Hs)) = some r := h
    cases e9
  | n + 1, a1, a2, a3, a4, x, r, h => by
    have q14 := em44_14 (N := N) n
    rw [gm44_14] at h
    refine ev_run (n := 4) (u' := (0, 0)) (f' := (23, [some (.ref 130), some (.int a1), some (.int a2), some (.int a3), some (.int a4)], [.int (x.1 2 1), .int a4])) (h' := hp N x) rfl ?_
    rcases ite_or h with ⟨h12, h⟩ | ⟨h12, h⟩
    · refine ev_ict rfl (decide_eq_true h12) ?_
      cases h
      exact ev_vret rfl rfl rfl
    · refine ev_icf rfl (decide_eq_false h12) ?_
      refine ev_run (n := 3) (u' := (0, 0)) (f' := (31, [some (.ref 130), some (.int a1), some (.int a2), some (.int a3), some (.int a4)], [.int (-1), .int (x.1 130 11)])) (h' := hp N x) rfl ?_
      rcases ite_or h with ⟨h11, h⟩ | ⟨h11, h⟩
      · refine ev_icf rfl (decide_eq_false (fun w => w h11)) ?_
        refine ev_run (n := 3) (u' := (0, 0)) (f' := (40, [some (.ref 130), some (.int a1), some (.int a2), some (.int a3), some (.int a4)], [.int a4, .int (x.1 130 9)])) (h' := hp N x) rfl ?_
        obtain ⟨w4, h5, h⟩ := bind_ok h
        refine ev_call (v := some (.int w4)) (h1 := hp N x) rfl rfl rfl rfl (em101 (x.1 130 9) a4 x _ h5) ?_
        show Ev 44 (0, 0) (43, [some (.ref 130), some (.int a1), some (.int a2), some (.int a3), some (.int a4)], [.int w4]) (hp N x) _
        rcases ite_or h with ⟨h10, h⟩ | ⟨h10, h⟩
        · refine ev_ift rfl (decide_eq_true h10) ?_
          exact em44_73 (gm44_14 n) q14 a1 a2 a3 a4 x _ h
        · refine ev_iff rfl (decide_eq_false h10) ?_
          refine ev_run (n := 4) (u' := (0, 0)) (f' := (51, [some (.ref 130), some (.int a1), some (.int a2), some (.int a3), some (.int a4)], [.int a4, .int a3, .int a1, .ref 130])) (h' := hp N x) rfl ?_
          obtain ⟨w6, h7, h⟩ := bind_ok h
          refine ev_call (v := some (.int w6.1)) (h1 := hp N w6.2) rfl rfl rfl rfl (em46 a1 a3 a4 x _ h7) ?_
          show Ev 44 (0, 0) (54, [some (.ref 130), some (.int a1), some (.int a2), some (.int a3), some (.int a4)], [.int w6.1]) (hp N w6.2) _
          rcases ite_or h with ⟨h9, h⟩ | ⟨h9, h⟩
          · refine ev_ift rfl (decide_eq_true h9) ?_
            exact em44_73 (gm44_14 n) q14 a1 a2 a3 a4 w6.2 _ h
          · refine ev_iff rfl (decide_eq_false h9) ?_
            refine ev_run (n := 2) (u' := (0, 0)) (f' := (60, [some (.ref 130), some (.int a1), some (.int a2), some (.int a3), some (.int a4)], [.int a2, .int a4])) (h' := hp N w6.2) rfl ?_
            rcases ite_or h with ⟨h8, h⟩ | ⟨h8, h⟩
            · refine ev_icf rfl (decide_eq_false (fun w => w h8)) ?_
              refine ev_run (n := 6) (u' := (0, 0)) (f' := (73, [some (.ref 130), some (.int a1), some (.int a2), some (.int a3), some (.int a4)], [])) (h' := hp N (wI w6.2 130 11 (w6.2.1 130 10 - 1))) rfl ?_
              exact em44_73 (gm44_14 n) q14 a1 a2 a3 a4 (wI w6.2 130 11 (w6.2.1 130 10 - 1)) _ h
            · refine ev_ict rfl (decide_eq_true h8) ?_
              exact em44_73 (gm44_14 n) q14 a1 a2 a3 a4 w6.2 _ h
      · refine ev_ict rfl (decide_eq_true h11) ?_
        cases h
        exact ev_vret rfl rfl rfl
def gm44 (a1 : Int32) (a2 : Int32) (x : Hs) : Option (Hs) := cond (aIn a1 6480) ((gm45 (x.1 133 (xi a1)) x).bind fun w2 => (gm44_14 FU a1 a2 w2.1 0 w2.2)) none
theorem em44 {N : Nat} (a1 : Int32) (a2 : Int32) (x : Hs) (r : Hs) (h : gm44 a1 a2 x = some r) : Ev 44 (0, 0) (0, aPad [.ref 130, .int a1, .int a2] 5, []) (hp N x) (cvMv N r) := by
  show Ev 44 (0, 0) (0, [some (.ref 130), some (.int a1), some (.int a2), none, none], []) (hp N x) _
  unfold gm44 at h
  refine ev_run (n := 4) (u' := (0, 0)) (f' := (6, [some (.ref 130), some (.int a1), some (.int a2), none, none], [.int a1, .ref 133, .ref 130])) (h' := hp N x) rfl ?_
  obtain ⟨h1, h⟩ := cond_some h
  refine ev_iald rfl rfl h1 ?_
  obtain ⟨w2, h3, h⟩ := bind_ok h
  refine ev_call (v := some (.int w2.1)) (h1 := hp N w2.2) rfl rfl rfl rfl (em45 (x.1 133 (xi a1)) x _ h3) ?_
  show Ev 44 (0, 0) (10, [some (.ref 130), some (.int a1), some (.int a2), none, none], [.int w2.1]) (hp N w2.2) _
  refine ev_run (n := 3) (u' := (0, 0)) (f' := (14, [some (.ref 130), some (.int a1), some (.int a2), some (.int w2.1), some (.int 0)], [])) (h' := hp N w2.2) rfl ?_
  exact em44_14 FU a1 a2 w2.1 0 w2.2 _ h
def gm40_7 : Nat → Int32 → Int32 → Hs → Option (Int32)
  | 0, _, _, _ => none
  | n + 1, a1, a2, x => if a2 ≤ 0 then (some a1) else (if a1 ≥ 6480 then (some a1) else (cond (aIn a2 6480) (gm40_7 n (a1 + 1) (x.1 134 (xi a2)) x) none))
theorem em40_7 {N : Nat} : ∀ (n : Nat) (a1 : Int32) (a2 : Int32) (x : Hs) (r : Int32), gm40_7 n a1 a2 x = some r → Ev 40 (0, 0) (7, [some (.ref 130), some (.int a1), some (.int a2)], []) (hp N x) (cvPi N x r)
  | 0, a1, a2, x, r, h => by
    have e9 : (none : Option (Int32)) = some r := h
    cases e9
  | n + 1, a1, a2, x, r, h => by
    have q7 := em40_7 (N := N) n
    rw [gm40_7] at h
    refine ev_run (n := 1) (u' := (0, 0)) (f' := (8, [some (.ref 130), some (.int a1), some (.int a2)], [.int a2])) (h' := hp N x) rfl ?_
    rcases ite_or h with ⟨h3, h⟩ | ⟨h3, h⟩
    · refine ev_ift rfl (decide_eq_true h3) ?_
      refine ev_run (n := 1) (u' := (0, 0)) (f' := (32, [none, some (.int a1), none], [.int a1])) (h' := hp N x) rfl ?_
      cases h
      exact ev_iret rfl rfl rfl (Or.inl rfl)
    · refine ev_iff rfl (decide_eq_false h3) ?_
      refine ev_run (n := 2) (u' := (0, 0)) (f' := (15, [some (.ref 130), some (.int a1), some (.int a2)], [.int 6480, .int a1])) (h' := hp N x) rfl ?_
      rcases ite_or h with ⟨h2, h⟩ | ⟨h2, h⟩
      · refine ev_ict rfl (decide_eq_true h2) ?_
        refine ev_run (n := 1) (u' := (0, 0)) (f' := (32, [none, some (.int a1), none], [.int a1])) (h' := hp N x) rfl ?_
        cases h
        exact ev_iret rfl rfl rfl (Or.inl rfl)
      · refine ev_icf rfl (decide_eq_false h2) ?_
        refine ev_run (n := 4) (u' := (0, 0)) (f' := (26, [some (.ref 130), some (.int (a1 + 1)), some (.int a2)], [.int a2, .ref 134])) (h' := hp N x) rfl ?_
        obtain ⟨h1, h⟩ := cond_some h
        refine ev_iald rfl rfl h1 ?_
        refine ev_run (n := 2) (u' := (0, 0)) (f' := (7, [some (.ref 130), some (.int (a1 + 1)), some (.int (x.1 134 (xi a2)))], [])) (h' := hp N x) rfl ?_
        exact q7 (a1 + 1) (x.1 134 (xi a2)) x _ h
def gm40 (x : Hs) : Option (Int32) := gm40_7 FU 0 (x.1 130 11) x
theorem em40 {N : Nat} (x : Hs) (r : Int32) (h : gm40 x = some r) : Ev 40 (0, 0) (0, aPad [.ref 130] 3, []) (hp N x) (cvPi N x r) := by
  show Ev 40 (0, 0) (0, [some (.ref 130), none, none], []) (hp N x) _
  unfold gm40 at h
  refine ev_run (n := 5) (u' := (0, 0)) (f' := (7, [some (.ref 130), some (.int 0), some (.int (x.1 130 11))], [])) (h' := hp N x) rfl ?_
  exact em40_7 FU 0 (x.1 130 11) x _ h
def gm38_58 (k33 : Nat → Int32 → Int32 → Int32 → Hs → Option (Int32 × Hs)) (a1 : Nat) (a2 : Int32) (a4 : Int32) (s0 : Int32) (s1 : Int32) (x : Hs) : Option (Int32 × Hs) := k33 a1 a2 (s0 ||| s1) (a4 + 1) x
theorem em38_58 {N : Nat} (k33 : Nat → Int32 → Int32 → Int32 → Hs → Option (Int32 × Hs)) (q33 : ∀ (a1 : Nat) (a2 : Int32) (a3 : Int32) (a4 : Int32) (fa1 : A5 N a1) (x : Hs) (r : Int32 × Hs), k33 a1 a2 a3 a4 x = some r → Ev 38 (0, 0) (33, [some (.ref 130), some (.ref a1), some (.int a2), some (.int a3), some (.int a4), none], []) (hp N x) (cvMi N r)) (a1 : Nat) (a2 : Int32) (a4 : Int32) (s0 : Int32) (s1 : Int32) (fa1 : A5 N a1) (x : Hs) (r : Int32 × Hs) (h : gm38_58 k33 a1 a2 a4 s0 s1 x = some r) : Ev 38 (0, 0) (58, [some (.ref 130), some (.ref a1), some (.int a2), none, some (.int a4), none], [.int s1, .int s0]) (hp N x) (cvMi N r) := by
  unfold gm38_58 at h
  refine ev_run (n := 4) (u' := (0, 0)) (f' := (33, [some (.ref 130), some (.ref a1), some (.int a2), some (.int (s0 ||| s1)), some (.int (a4 + 1)), none], [])) (h' := hp N x) rfl ?_
  exact q33 a1 a2 (s0 ||| s1) (a4 + 1) fa1 x _ h
def gm38_158 (x : Hs) : Option (Int32 × Hs) := (gm40 x).bind fun w27 => (if (wI x 130 12 w27).1 130 11 = (-1) then (some ((-1), (wI x 130 12 w27))) else (some ((wI x 130 12 w27).1 130 12, (wI x 130 12 w27))))
theorem em38_158 {N : Nat} (x : Hs) (r : Int32 × Hs) (h : gm38_158 x = some r) : Ev 38 (0, 0) (158, [some (.ref 130), none, none, none, none, none], []) (hp N x) (cvMi N r) := by
  unfold gm38_158 at h
  refine ev_run (n := 2) (u' := (0, 0)) (f' := (160, [some (.ref 130), none, none, none, none, none], [.ref 130, .ref 130])) (h' := hp N x) rfl ?_
  obtain ⟨w27, h28, h⟩ := bind_ok h
  refine ev_call (v := some (.int w27)) (h1 := hp N x) rfl rfl rfl rfl (em40 x _ h28) ?_
  show Ev 38 (0, 0) (163, [some (.ref 130), none, none, none, none, none], [.int w27, .ref 130]) (hp N x) _
  refine ev_run (n := 4) (u' := (0, 0)) (f' := (171, [some (.ref 130), none, none, none, none, none], [.int (-1), .int ((wI x 130 12 w27).1 130 11)])) (h' := hp N (wI x 130 12 w27)) rfl ?_
  rcases ite_or h with ⟨h29, h⟩ | ⟨h29, h⟩
  · refine ev_icf rfl (decide_eq_false (fun w => w h29)) ?_
    refine ev_run (n := 2) (u' := (0, 0)) (f' := (182, [none, none, none, none, none, none], [.int (-1)])) (h' := hp N (wI x 130 12 w27)) rfl ?_
    cases h
    exact ev_iret rfl rfl rfl (Or.inl rfl)
  · refine ev_ict rfl (decide_eq_true h29) ?_
    refine ev_run (n := 2) (u' := (0, 0)) (f' := (182, [some (.ref 130), none, none, none, none, none], [.int ((wI x 130 12 w27).1 130 12)])) (h' := hp N (wI x 130 12 w27)) rfl ?_
    cases h
    exact ev_iret rfl rfl rfl (Or.inl rfl)
def gm38_120 : Nat → Int32 → Int32 → Hs → Option (Int32 × Hs)
  | 0, _, _, _ => none
  | n + 1, a2, a5, x => if a5 ≥ 6480 then (gm38_158 x) else (if a5 ≥ x.1 130 10 then (gm38_158 x) else (if x.1 130 11 = (-1) then ((gm44 a5 a2 x).bind fun w22 => (gm38_120 n a2 (a5 + 1) w22)) else (gm38_158 x)))
theorem em38_120 {N : Nat} : ∀ (n : Nat) (a2 : Int32) (a5 : Int32) (x : Hs) (r : Int32 × Hs), gm38_120 n a2 a5 x = some r → Ev 38 (0, 0) (120, [some (.ref 130), none, some (.int a2), none, none, some (.int a5)], []) (hp N x) (cvMi N r)
  | 0, a2, a5, x, r, h => by
    have e9 : (none : Option (Int32 × Hs)) = some r := h
    cases e9
  | n + 1, a2, a5, x, r, h => by
    have q120 := em38_120 (N := N) n
    rw [gm38_120] at h
    refine ev_run (n := 2) (u' := (0, 0)) (f' := (125, [some (.ref 130), none, some (.int a2), none, none, some (.int a5)], [.int 6480, .int a5])) (h' := hp N x) rfl ?_
    rcases ite_or h with ⟨h26, h⟩ | ⟨h26, h⟩
    · refine ev_ict rfl (decide_eq_true h26) ?_
      exact em38_158 x _ h
    · refine ev_icf rfl (decide_eq_false h26) ?_
      refine ev_run (n := 3) (u' := (0, 0)) (f' := (134, [some (.ref 130), none, some (.int a2), none, none, some (.int a5)], [.int (x.1 130 10), .int a5])) (h' := hp N x) rfl ?_
      rcases ite_or h with ⟨h25, h⟩ | ⟨h25, h⟩
      · refine ev_ict rfl (decide_eq_true h25) ?_
        exact em38_158 x _ h
      · refine ev_icf rfl (decide_eq_false h25) ?_
        refine ev_run (n := 3) (u' := (0, 0)) (f' := (142, [some (.ref 130), none, some (.int a2), none, none, some (.int a5)], [.int (-1), .int (x.1 130 11)])) (h' := hp N x) rfl ?_
        rcases ite_or h with ⟨h24, h⟩ | ⟨h24, h⟩
        · refine ev_icf rfl (decide_eq_false (fun w => w h24)) ?_
          refine ev_run (n := 3) (u' := (0, 0)) (f' := (149, [some (.ref 130), none, some (.int a2), none, none, some (.int a5)], [.int a2, .int a5, .ref 130])) (h' := hp N x) rfl ?_
          obtain ⟨w22, h23, h⟩ := bind_ok h
          refine ev_call (v := none) (h1 := hp N w22) rfl rfl rfl rfl (em44 a5 a2 x _ h23) ?_
          show Ev 38 (0, 0) (152, [some (.ref 130), none, some (.int a2), none, none, some (.int a5)], []) (hp N w22) _
          refine ev_run (n := 2) (u' := (0, 0)) (f' := (120, [some (.ref 130), none, some (.int a2), none, none, some (.int (a5 + 1))], [])) (h' := hp N w22) rfl ?_
          exact q120 a2 (a5 + 1) w22 _ h
        · refine ev_ict rfl (decide_eq_true h24) ?_
          exact em38_158 x _ h
