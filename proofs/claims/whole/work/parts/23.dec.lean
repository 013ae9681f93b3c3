/-! The methods as functions; printed by dec.py -/
def g7 (a1 : Int32) (a2 : Int32) (x : Hs) : Option (Int32) := cond (aIn a1 5) (if (x.1 3 (xi a1) &&& (1 <<< (a2 &&& 31))) = 0 then (some 0) else (some 1)) none
theorem e7 {N : Nat} (a1 : Int32) (a2 : Int32) (x : Hs) (r : Int32) (h : g7 a1 a2 x = some r) : Ev 7 (0, 0) (0, aPad [.ref 2, .int a1, .int a2] 3, []) (hp N x) (cvPi N x r) := by
  show Ev 7 (0, 0) (0, [some (.ref 2), some (.int a1), some (.int a2)], []) (hp N x) _
  unfold g7 at h
  refine ev_run (n := 3) (u' := (0, 0)) (f' := (5, [some (.ref 2), some (.int a1), some (.int a2)], [.int a1, .ref 3])) (h' := hp N x) rfl ?_
  obtain ⟨h1, h⟩ := cond_some h
  refine ev_iald rfl rfl h1 ?_
  refine ev_run (n := 4) (u' := (0, 0)) (f' := (10, [some (.ref 2), some (.int a1), some (.int a2)], [.int (x.1 3 (xi a1) &&& (1 <<< (a2 &&& 31)))])) (h' := hp N x) rfl ?_
  rcases ite_or h with ⟨h2, h⟩ | ⟨h2, h⟩
  · refine ev_ift rfl (decide_eq_true h2) ?_
    refine ev_run (n := 1) (u' := (0, 0)) (f' := (18, [none, none, none], [.int 0])) (h' := hp N x) rfl ?_
    cases h
    exact ev_iret rfl rfl rfl (Or.inr ⟨rfl, rfl⟩)
  · refine ev_iff rfl (decide_eq_false h2) ?_
    refine ev_run (n := 2) (u' := (0, 0)) (f' := (18, [none, none, none], [.int 1])) (h' := hp N x) rfl ?_
    cases h
    exact ev_iret rfl rfl rfl (Or.inr ⟨rfl, rfl⟩)
def g9_2 : Nat → Int32 → Int32 → Hs → Option (Int32)
  | 0, _, _, _ => none
  | n + 1, a1, a2, x => if a2 ≥ x.1 2 1 then (some 0) else (cond (aIn a2 24) (if x.1 4 (xi a2) = a1 then (some 1) else (g9_2 n a1 (a2 + 1) x)) none)
theorem e9_2 {N : Nat} : ∀ (n : Nat) (a1 : Int32) (a2 : Int32) (x : Hs) (r : Int32), g9_2 n a1 a2 x = some r → Ev 9 (0, 0) (2, [some (.ref 2), some (.int a1), some (.int a2)], []) (hp N x) (cvPi N x r)
  | 0, a1, a2, x, r, h => by
    have e9 : (none : Option (Int32)) = some r := h
    cases e9
  | n + 1, a1, a2, x, r, h => by
    have q2 := e9_2 (N := N) n
    rw [g9_2] at h
    refine ev_run (n := 3) (u' := (0, 0)) (f' := (7, [some (.ref 2), some (.int a1), some (.int a2)], [.int (x.1 2 1), .int a2])) (h' := hp N x) rfl ?_
    rcases ite_or h with ⟨h3, h⟩ | ⟨h3, h⟩
    · refine ev_ict rfl (decide_eq_true h3) ?_
      refine ev_run (n := 1) (u' := (0, 0)) (f' := (29, [none, none, none], [.int 0])) (h' := hp N x) rfl ?_
      cases h
      exact ev_iret rfl rfl rfl (Or.inr ⟨rfl, rfl⟩)
    · refine ev_icf rfl (decide_eq_false h3) ?_
      refine ev_run (n := 3) (u' := (0, 0)) (f' := (15, [some (.ref 2), some (.int a1), some (.int a2)], [.int a2, .ref 4])) (h' := hp N x) rfl ?_
      obtain ⟨h1, h⟩ := cond_some h
      refine ev_iald rfl rfl h1 ?_
      refine ev_run (n := 1) (u' := (0, 0)) (f' := (17, [some (.ref 2), some (.int a1), some (.int a2)], [.int a1, .int (x.1 4 (xi a2))])) (h' := hp N x) rfl ?_
      rcases ite_or h with ⟨h2, h⟩ | ⟨h2, h⟩
      · refine ev_icf rfl (decide_eq_false (fun w => w h2)) ?_
        refine ev_run (n := 1) (u' := (0, 0)) (f' := (21, [some (.ref 2), some (.int a1), some (.int a2)], [.int 1])) (h' := hp N x) rfl ?_
        cases h
        exact ev_iret rfl rfl rfl (Or.inr ⟨rfl, rfl⟩)
      · refine ev_ict rfl (decide_eq_true h2) ?_
        refine ev_run (n := 2) (u' := (0, 0)) (f' := (2, [some (.ref 2), some (.int a1), some (.int (a2 + 1))], [])) (h' := hp N x) rfl ?_
        exact q2 a1 (a2 + 1) x _ h
def g9 (a1 : Int32) (x : Hs) : Option (Int32) := g9_2 FU a1 0 x
theorem e9 {N : Nat} (a1 : Int32) (x : Hs) (r : Int32) (h : g9 a1 x = some r) : Ev 9 (0, 0) (0, aPad [.ref 2, .int a1] 3, []) (hp N x) (cvPi N x r) := by
  show Ev 9 (0, 0) (0, [some (.ref 2), some (.int a1), none], []) (hp N x) _
  unfold g9 at h
  refine ev_run (n := 2) (u' := (0, 0)) (f' := (2, [some (.ref 2), some (.int a1), some (.int 0)], [])) (h' := hp N x) rfl ?_
  exact e9_2 FU a1 0 x _ h
def g101 (a0 : Int32) (a1 : Int32) (x : Hs) : Option (Int32) := if (a0 &&& (1 <<< (a1 &&& 31))) = 0 then (some 0) else (some 1)
theorem e101 {N : Nat} (a0 : Int32) (a1 : Int32) (x : Hs) (r : Int32) (h : g101 a0 a1 x = some r) : Ev 101 (0, 0) (0, aPad [.int a0, .int a1] 2, []) (hp N x) (cvPi N x r) := by
  show Ev 101 (0, 0) (0, [some (.int a0), some (.int a1)], []) (hp N x) _
  unfold g101 at h
  refine ev_run (n := 5) (u' := (0, 0)) (f' := (5, [some (.int a0), some (.int a1)], [.int (a0 &&& (1 <<< (a1 &&& 31)))])) (h' := hp N x) rfl ?_
  rcases ite_or h with ⟨h1, h⟩ | ⟨h1, h⟩
  · refine ev_ift rfl (decide_eq_true h1) ?_
    refine ev_run (n := 1) (u' := (0, 0)) (f' := (13, [none, none], [.int 0])) (h' := hp N x) rfl ?_
    cases h
    exact ev_iret rfl rfl rfl (Or.inr ⟨rfl, rfl⟩)
  · refine ev_iff rfl (decide_eq_false h1) ?_
    refine ev_run (n := 2) (u' := (0, 0)) (f' := (13, [none, none], [.int 1])) (h' := hp N x) rfl ?_
    cases h
    exact ev_iret rfl rfl rfl (Or.inr ⟨rfl, rfl⟩)
def g11 (a1 : Int32) (a2 : Int32) (x : Hs) : Option (Int32) := cond (aIn a1 24) ((g101 (x.1 56 (xi a1)) a2 x).bind fun w2 => (cond (aBit w2) (some w2) none)) none
theorem e11 {N : Nat} (a1 : Int32) (a2 : Int32) (x : Hs) (r : Int32) (h : g11 a1 a2 x = some r) : Ev 11 (0, 0) (0, aPad [.ref 2, .int a1, .int a2] 3, []) (hp N x) (cvPi N x r) := by
  show Ev 11 (0, 0) (0, [some (.ref 2), some (.int a1), some (.int a2)], []) (hp N x) _
  unfold g11 at h
  refine ev_run (n := 3) (u' := (0, 0)) (f' := (5, [some (.ref 2), some (.int a1), some (.int a2)], [.int a1, .ref 56])) (h' := hp N x) rfl ?_
  obtain ⟨h1, h⟩ := cond_some h
  refine ev_iald rfl rfl h1 ?_
  refine ev_run (n := 1) (u' := (0, 0)) (f' := (7, [some (.ref 2), some (.int a1), some (.int a2)], [.int a2, .int (x.1 56 (xi a1))])) (h' := hp N x) rfl ?_
  obtain ⟨w2, h3, h⟩ := bind_ok h
  refine ev_call (v := some (.int w2)) (h1 := hp N x) rfl rfl rfl rfl (e101 (x.1 56 (xi a1)) a2 x _ h3) ?_
  show Ev 11 (0, 0) (10, [some (.ref 2), some (.int a1), some (.int a2)], [.int w2]) (hp N x) _
  obtain ⟨h4, h⟩ := cond_some h
  cases h
  exact ev_iret rfl rfl rfl (Or.inr ⟨rfl, h4⟩)
def g12_29 (k2 : Int32 → Int32 → Hs → Option (Int32)) (a1 : Int32) (a2 : Int32) (x : Hs) : Option (Int32) := k2 a1 (a2 + 1) x
theorem e12_29 {N : Nat} (k2 : Int32 → Int32 → Hs → Option (Int32)) (q2 : ∀ (a1 : Int32) (a2 : Int32) (x : Hs) (r : Int32), k2 a1 a2 x = some r → Ev 12 (0, 0) (2, [some (.ref 2), some (.int a1), some (.int a2)], []) (hp N x) (cvPi N x r)) (a1 : Int32) (a2 : Int32) (x : Hs) (r : Int32) (h : g12_29 k2 a1 a2 x = some r) : Ev 12 (0, 0) (29, [some (.ref 2), some (.int a1), some (.int a2)], []) (hp N x) (cvPi N x r) := by
  unfold g12_29 at h
  refine ev_run (n := 2) (u' := (0, 0)) (f' := (2, [some (.ref 2), some (.int a1), some (.int (a2 + 1))], [])) (h' := hp N x) rfl ?_
  exact q2 a1 (a2 + 1) x _ h
def g12_35 (a1 : Int32) (x : Hs) : Option (Int32) := cond (aIn a1 24) (if x.1 57 (xi a1) = 0 then (some 1) else (some 0)) none
theorem e12_35 {N : Nat} (a1 : Int32) (x : Hs) (r : Int32) (h : g12_35 a1 x = some r) : Ev 12 (0, 0) (35, [some (.ref 2), some (.int a1), none], []) (hp N x) (cvPi N x r) := by
  unfold g12_35 at h
  refine ev_run (n := 3) (u' := (0, 0)) (f' := (40, [some (.ref 2), some (.int a1), none], [.int a1, .ref 57])) (h' := hp N x) rfl ?_
  obtain ⟨h7, h⟩ := cond_some h
  refine ev_bald rfl rfl h7 ?_
  rcases ite_or h with ⟨h8, h⟩ | ⟨h8, h⟩
  · refine ev_iff rfl (decide_eq_false (fun w => w h8)) ?_
    refine ev_run (n := 2) (u' := (0, 0)) (f' := (49, [none, none, none], [.int 1])) (h' := hp N x) rfl ?_
    cases h
    exact ev_iret rfl rfl rfl (Or.inr ⟨rfl, rfl⟩)
  · refine ev_ift rfl (decide_eq_true h8) ?_
    refine ev_run (n := 1) (u' := (0, 0)) (f' := (49, [none, none, none], [.int 0])) (h' := hp N x) rfl ?_
    cases h
    exact ev_iret rfl rfl rfl (Or.inr ⟨rfl, rfl⟩)
def g12_2 : Nat → Int32 → Int32 → Hs → Option (Int32)
  | 0, _, _, _ => none
  | n + 1, a1, a2, x => if a2 ≥ 5 then (g12_35 a1 x) else ((g11 a1 a2 x).bind fun w1 => (if w1 = 0 then (g12_29 (g12_2 n) a1 a2 x) else (cond (aIn a2 5) (if x.1 58 (xi a2) = 100 then (g12_29 (g12_2 n) a1 a2 x) else (some 0)) none)))
theorem e12_2 {N : Nat} : ∀ (n : Nat) (a1 : Int32) (a2 : Int32) (x : Hs) (r : Int32), g12_2 n a1 a2 x = some r → Ev 12 (0, 0) (2, [some (.ref 2), some (.int a1), some (.int a2)], []) (hp N x) (cvPi N x r)
  | 0, a1, a2, x, r, h => by
    have e9 : (none : Option (Int32)) = some r := h
    cases e9
  | n + 1, a1, a2, x, r, h => by
    have q2 := e12_2 (N := N) n
    rw [g12_2] at h
    refine ev_run (n := 2) (u' := (0, 0)) (f' := (4, [some (.ref 2), some (.int a1), some (.int a2)], [.int 5, .int a2])) (h' := hp N x) rfl ?_
    rcases ite_or h with ⟨h6, h⟩ | ⟨h6, h⟩
    · refine ev_ict rfl (decide_eq_true h6) ?_
      exact e12_35 a1 x _ h
    · refine ev_icf rfl (decide_eq_false h6) ?_
      refine ev_run (n := 3) (u' := (0, 0)) (f' := (10, [some (.ref 2), some (.int a1), some (.int a2)], [.int a2, .int a1, .ref 2])) (h' := hp N x) rfl ?_
      obtain ⟨w1, h2, h⟩ := bind_ok h
      refine ev_call (v := some (.int w1)) (h1 := hp N x) rfl rfl rfl rfl (e11 a1 a2 x _ h2) ?_
      show Ev 12 (0, 0) (13, [some (.ref 2), some (.int a1), some (.int a2)], [.int w1]) (hp N x) _
      rcases ite_or h with ⟨h5, h⟩ | ⟨h5, h⟩
      · refine ev_ift rfl (decide_eq_true h5) ?_
        exact e12_29 (g12_2 n) q2 a1 a2 x _ h
      · refine ev_iff rfl (decide_eq_false h5) ?_
        refine ev_run (n := 3) (u' := (0, 0)) (f' := (21, [some (.ref 2), some (.int a1), some (.int a2)], [.int a2, .ref 58])) (h' := hp N x) rfl ?_
        obtain ⟨h3, h⟩ := cond_some h
        refine ev_iald rfl rfl h3 ?_
        refine ev_run (n := 1) (u' := (0, 0)) (f' := (24, [some (.ref 2), some (.int a1), some (.int a2)], [.int 100, .int (x.1 58 (xi a2))])) (h' := hp N x) rfl ?_
        rcases ite_or h with ⟨h4, h⟩ | ⟨h4, h⟩
        · refine ev_ict rfl (decide_eq_true h4) ?_
          exact e12_29 (g12_2 n) q2 a1 a2 x _ h
        · refine ev_icf rfl (decide_eq_false h4) ?_
          refine ev_run (n := 1) (u' := (0, 0)) (f' := (28, [some (.ref 2), some (.int a1), some (.int a2)], [.int 0])) (h' := hp N x) rfl ?_
          cases h
          exact ev_iret rfl rfl rfl (Or.inr ⟨rfl, rfl⟩)
def g12 (a1 : Int32) (x : Hs) : Option (Int32) := g12_2 FU a1 0 x
theorem e12 {N : Nat} (a1 : Int32) (x : Hs) (r : Int32) (h : g12 a1 x = some r) : Ev 12 (0, 0) (0, aPad [.ref 2, .int a1] 3, []) (hp N x) (cvPi N x r) := by
  show Ev 12 (0, 0) (0, [some (.ref 2), some (.int a1), none], []) (hp N x) _
  unfold g12 at h
  refine ev_run (n := 2) (u' := (0, 0)) (f' := (2, [some (.ref 2), some (.int a1), some (.int 0)], [])) (h' := hp N x) rfl ?_
  exact e12_2 FU a1 0 x _ h
def g36 (a0 : Nat) (a1 : Int32) (x : Hs) : Option (Hs) := some (wI (wI (wI x a0 3 a1) a0 4 ((wI x a0 3 a1).1 a0 4 ||| (1 <<< (a1 &&& 31)))) a0 7 ((wI (wI x a0 3 a1) a0 4 ((wI x a0 3 a1).1 a0 4 ||| (1 <<< (a1 &&& 31)))).1 a0 7 + 10))
theorem e36 {N : Nat} (a0 : Nat) (a1 : Int32) (fa0 : IN N a0) (x : Hs) (r : Hs) (h : g36 a0 a1 x = some r) : Ev 36 (0, 0) (0, aPad [.ref a0, .int a1] 2, []) (hp N x) (cvMv N r) := by
  show Ev 36 (0, 0) (0, [some (.ref a0), some (.int a1)], []) (hp N x) _
  unfold g36 at h
  refine ev_run (n := 2) (u' := (0, 0)) (f' := (2, [some (.ref a0), some (.int a1)], [.int a1, .ref a0])) (h' := hp N x) rfl ?_
  refine ev_pfi rfl fa0 rfl ?_
  show Ev 36 (0, 0) (5, [some (.ref a0), some (.int a1)], []) (hp N (wI x a0 3 a1)) _
  refine ev_run (n := 2) (u' := (0, 0)) (f' := (7, [some (.ref a0), some (.int a1)], [.ref a0, .ref a0])) (h' := hp N (wI x a0 3 a1)) rfl ?_
  refine ev_gfi rfl rfl fa0 ?_
  refine ev_run (n := 4) (u' := (0, 0)) (f' := (14, [some (.ref a0), some (.int a1)], [.int ((wI x a0 3 a1).1 a0 4 ||| (1 <<< (a1 &&& 31))), .ref a0])) (h' := hp N (wI x a0 3 a1)) rfl ?_
  refine ev_pfi rfl fa0 rfl ?_
  show Ev 36 (0, 0) (17, [some (.ref a0), some (.int a1)], []) (hp N (wI (wI x a0 3 a1) a0 4 ((wI x a0 3 a1).1 a0 4 ||| (1 <<< (a1 &&& 31))))) _
  refine ev_run (n := 2) (u' := (0, 0)) (f' := (19, [some (.ref a0), some (.int a1)], [.ref a0, .ref a0])) (h' := hp N (wI (wI x a0 3 a1) a0 4 ((wI x a0 3 a1).1 a0 4 ||| (1 <<< (a1 &&& 31))))) rfl ?_
  refine ev_gfi rfl rfl fa0 ?_
  refine ev_run (n := 2) (u' := (0, 0)) (f' := (25, [some (.ref a0), some (.int a1)], [.int ((wI (wI x a0 3 a1) a0 4 ((wI x a0 3 a1).1 a0 4 ||| (1 <<< (a1 &&& 31)))).1 a0 7 + 10), .ref a0])) (h' := hp N (wI (wI x a0 3 a1) a0 4 ((wI x a0 3 a1).1 a0 4 ||| (1 <<< (a1 &&& 31))))) rfl ?_
  refine ev_pfi rfl fa0 rfl ?_
  show Ev 36 (0, 0) (28, [some (.ref a0), some (.int a1)], []) (hp N (wI (wI (wI x a0 3 a1) a0 4 ((wI x a0 3 a1).1 a0 4 ||| (1 <<< (a1 &&& 31)))) a0 7 ((wI (wI x a0 3 a1) a0 4 ((wI x a0 3 a1).1 a0 4 ||| (1 <<< (a1 &&& 31)))).1 a0 7 + 10))) _
  cases h
  exact ev_vret rfl rfl rfl
def g93 (a0 : Int32) (x : Hs) : Option ((Unit ⊕ Nat) × Hs) := if a0 = 0 then (some (.inr 2, x)) else (some (.inl (), x))
theorem e93 {N : Nat} {u1 u2 : Nat} (a0 : Int32) (hu1 : u1 + 1 ≤ 1) (hu2 : u2 + 6 ≤ 6) (x : Hs) (r : (Unit ⊕ Nat) × Hs) (h : g93 a0 x = some r) : Ev 93 (u1, u2) (0, aPad [.int a0] 1, []) (hp N x) (cvXv N r) := by
  show Ev 93 (u1, u2) (0, [some (.int a0)], []) (hp N x) _
  unfold g93 at h
  refine ev_run (n := 1) (u' := (u1, u2)) (f' := (1, [some (.int a0)], [.int a0])) (h' := hp N x) rfl ?_
  rcases ite_or h with ⟨h1, h⟩ | ⟨h1, h⟩
  · refine ev_iff rfl (decide_eq_false (fun w => w h1)) ?_
    cases h
    exact ev_thr rfl rfl rfl (by show _ ≤ 1; omega) (by show _ ≤ 6; omega) rfl
  · refine ev_ift rfl (decide_eq_true h1) ?_
    cases h
    exact ev_vret rfl (end_u (by show _ ≤ 1; omega) (by show _ ≤ 6; omega)) rfl
def g91_9 (x : Hs) : Option ((Unit ⊕ Nat) × Hs) := some (.inr 0, x)
theorem e91_9 {N : Nat} {u1 u2 : Nat} (hu1 : u1 + 1 ≤ 1) (hu2 : u2 + 6 ≤ 6) (x : Hs) (r : (Unit ⊕ Nat) × Hs) (h : g91_9 x = some r) : Ev 91 (u1, u2) (9, [none, none], []) (hp N x) (cvXv N r) := by
  unfold g91_9 at h
  cases h
  exact ev_thr rfl rfl rfl (by show _ ≤ 1; omega) (by show _ ≤ 6; omega) rfl
theorem e91_9_k1 {N : Nat} {u1 u2 : Nat} (a0 : Int32) (a1 : Int32) (hu1 : u1 + 1 ≤ 1) (hu2 : u2 + 6 ≤ 6) (x : Hs) (r : (Unit ⊕ Nat) × Hs) (h : g91_9 x = some r) : Ev 91 (u1, u2) (9, [some (.int a0), some (.int a1)], []) (hp N x) (cvXv N r) := by
  unfold g91_9 at h
  cases h
  exact ev_thr rfl rfl rfl (by show _ ≤ 1; omega) (by show _ ≤ 6; omega) rfl
def g91 (a0 : Int32) (a1 : Int32) (x : Hs) : Option ((Unit ⊕ Nat) × Hs) := if a0 < 0 then (g91_9 x) else (if a0 < a1 then (some (.inl (), x)) else (g91_9 x))
theorem e91 {N : Nat} {u1 u2 : Nat} (a0 : Int32) (a1 : Int32) (hu1 : u1 + 1 ≤ 1) (hu2 : u2 + 6 ≤ 6) (x : Hs) (r : (Unit ⊕ Nat) × Hs) (h : g91 a0 a1 x = some r) : Ev 91 (u1, u2) (0, aPad [.int a0, .int a1] 2, []) (hp N x) (cvXv N r) := by
  show Ev 91 (u1, u2) (0, [some (.int a0), some (.int a1)], []) (hp N x) _
  unfold g91 at h
  refine ev_run (n := 1) (u' := (u1, u2)) (f' := (1, [some (.int a0), some (.int a1)], [.int a0])) (h' := hp N x) rfl ?_
  rcases ite_or h with ⟨h2, h⟩ | ⟨h2, h⟩
  · refine ev_ift rfl (decide_eq_true h2) ?_
    exact e91_9 (by omega) (by omega) x _ h
  · refine ev_iff rfl (decide_eq_false h2) ?_
    refine ev_run (n := 2) (u' := (u1, u2)) (f' := (6, [some (.int a0), some (.int a1)], [.int a1, .int a0])) (h' := hp N x) rfl ?_
    rcases ite_or h with ⟨h1, h⟩ | ⟨h1, h⟩
    · refine ev_ict rfl (decide_eq_true h1) ?_
      cases h
      exact ev_vret rfl (end_u (by show _ ≤ 1; omega) (by show _ ≤ 6; omega)) rfl
    · refine ev_icf rfl (decide_eq_false h1) ?_
      exact e91_9_k1 a0 a1 (by omega) (by omega) x _ h
def g94 (a1 : Int32) (x : Hs) : Option ((Unit ⊕ Nat) × Hs) := (g91 a1 (x.1 2 0) x).bind fun w1 => match w1 with | (.inl _, x5) => (some (.inl (), x5)) | (.inr k4, x5) => (cond (Nat.blt k4 3) (some (.inr k4, x5)) none)
theorem e94 {N : Nat} {u1 u2 : Nat} (a1 : Int32) (hu1 : u1 + 1 ≤ 1) (hu2 : u2 + 6 ≤ 6) (x : Hs) (r : (Unit ⊕ Nat) × Hs) (h : g94 a1 x = some r) : Ev 94 (u1, u2) (0, aPad [.ref 1, .int a1] 2, []) (hp N x) (cvXv N r) := by
  show Ev 94 (u1, u2) (0, [some (.ref 1), some (.int a1)], []) (hp N x) _
  unfold g94 at h
  refine ev_run (n := 4) (u' := (u1, u2)) (f' := (8, [some (.ref 1), some (.int a1)], [.int (x.1 2 0), .int a1])) (h' := hp N x) rfl ?_
  obtain ⟨w1, h2, h⟩ := bind_ok h
  obtain ⟨w1, x5⟩ := w1
  cases w1 with
  | inl v3 =>
    refine ev_call (v := none) (h1 := hp N x5) rfl rfl rfl (ok_u rfl (by show u1 + 1 ≤ 1; omega) (by show u2 + 6 ≤ 6; omega)) (e91 a1 (x.1 2 0) (by decide) (by decide) x _ h2) ?_
    show Ev 94 (u1 + 1, u2 + 6) (11, [some (.ref 1), some (.int a1)], []) (hp N x5) _
    cases h
    exact ev_vret rfl (end_u (by show _ ≤ 1; omega) (by show _ ≤ 6; omega)) rfl
  | inr k4 =>
    obtain ⟨h6, h⟩ := cond_some h
    cases h
    exact ev_callX (h1 := hp N x5) rfl rfl rfl (ok_u rfl (by show u1 + 1 ≤ 1; omega) (by show u2 + 6 ≤ 6; omega)) h6 rfl (e91 a1 (x.1 2 0) (by decide) (by decide) x _ h2)
def g99 (a0 : Int32) (a1 : Int32) (a2 : Int32) (x : Hs) : Option (Int32) := if a0 < a1 then (some 0) else (if a0 > a2 then (some 0) else (some 1))
theorem e99 {N : Nat} (a0 : Int32) (a1 : Int32) (a2 : Int32) (x : Hs) (r : Int32) (h : g99 a0 a1 a2 x = some r) : Ev 99 (0, 0) (0, aPad [.int a0, .int a1, .int a2] 3, []) (hp N x) (cvPi N x r) := by
  show Ev 99 (0, 0) (0, [some (.int a0), some (.int a1), some (.int a2)], []) (hp N x) _
  unfold g99 at h
  refine ev_run (n := 2) (u' := (0, 0)) (f' := (2, [some (.int a0), some (.int a1), some (.int a2)], [.int a1, .int a0])) (h' := hp N x) rfl ?_
  rcases ite_or h with ⟨h2, h⟩ | ⟨h2, h⟩
  · refine ev_ict rfl (decide_eq_true h2) ?_
    refine ev_run (n := 1) (u' := (0, 0)) (f' := (15, [none, none, none], [.int 0])) (h' := hp N x) rfl ?_
    cases h
    exact ev_iret rfl rfl rfl (Or.inr ⟨rfl, rfl⟩)
  · refine ev_icf rfl (decide_eq_false h2) ?_
    refine ev_run (n := 2) (u' := (0, 0)) (f' := (7, [some (.int a0), some (.int a1), some (.int a2)], [.int a2, .int a0])) (h' := hp N x) rfl ?_
    rcases ite_or h with ⟨h1, h⟩ | ⟨h1, h⟩
    · refine ev_ict rfl (decide_eq_true h1) ?_
      refine ev_run (n := 1) (u' := (0, 0)) (f' := (15, [none, none, none], [.int 0])) (h' := hp N x) rfl ?_
      cases h
      exact ev_iret rfl rfl rfl (Or.inr ⟨rfl, rfl⟩)
    · refine ev_icf rfl (decide_eq_false h1) ?_
      refine ev_run (n := 2) (u' := (0, 0)) (f' := (15, [none, none, none], [.int 1])) (h' := hp N x) rfl ?_
      cases h
      exact ev_iret rfl rfl rfl (Or.inr ⟨rfl, rfl⟩)
def g6 (x : Hs) : Option (Int32 × Hs) := some (((wI x 2 0 (x.1 2 0 + 1)).1 2 0 - 1), (wI x 2 0 (x.1 2 0 + 1)))
theorem e6 {N : Nat} (x : Hs) (r : Int32 × Hs) (h : g6 x = some r) : Ev 6 (0, 0) (0, aPad [.ref 2] 1, []) (hp N x) (cvMi N r) := by
  show Ev 6 (0, 0) (0, [some (.ref 2)], []) (hp N x) _
  unfold g6 at h
  refine ev_run (n := 10) (u' := (0, 0)) (f' := (16, [some (.ref 2)], [.int ((wI x 2 0 (x.1 2 0 + 1)).1 2 0 - 1)])) (h' := hp N (wI x 2 0 (x.1 2 0 + 1))) rfl ?_
  cases h
  exact ev_iret rfl rfl rfl (Or.inl rfl)
def g59_16 (s0 : Int32) (x : Hs) : Option ((Int32 ⊕ Nat) × Hs) := (g93 s0 x).bind fun w2 => match w2 with | (.inl _, x6) => ((g6 x6).bind fun w7 => (some (.inl w7.1, w7.2))) | (.inr k5, x6) => (cond (Nat.blt k5 3) (some (.inr k5, x6)) none)
theorem e59_16 {N : Nat} {u1 u2 : Nat} (s0 : Int32) (hu1 : u1 + 1 ≤ 1) (hu2 : u2 + 6 ≤ 6) (x : Hs) (r : (Int32 ⊕ Nat) × Hs) (h : g59_16 s0 x = some r) : Ev 59 (u1, u2) (16, [some (.ref 1)], [.int s0]) (hp N x) (cvXi N r) := by
  unfold g59_16 at h
  obtain ⟨w2, h3, h⟩ := bind_ok h
  obtain ⟨w2, x6⟩ := w2
  cases w2 with
  | inl v4 =>
    refine ev_call (v := none) (h1 := hp N x6) rfl rfl rfl (ok_u rfl (by show u1 + 1 ≤ 1; omega) (by show u2 + 6 ≤ 6; omega)) (e93 s0 (by decide) (by decide) x _ h3) ?_
    show Ev 59 (u1 + 1, u2 + 6) (19, [some (.ref 1)], []) (hp N x6) _
    refine ev_run (n := 2) (u' := (u1 + 1, u2 + 6)) (f' := (23, [some (.ref 1)], [.ref 2])) (h' := hp N x6) rfl ?_
    obtain ⟨w7, h8, h⟩ := bind_ok h
    refine ev_call (v := some (.int w7.1)) (h1 := hp N w7.2) rfl rfl rfl (ok_u rfl (by show u1 + 1 + 0 ≤ 1; omega) (by show u2 + 6 + 0 ≤ 6; omega)) (e6 x6 _ h8) ?_
    show Ev 59 (u1 + 1, u2 + 6) (26, [some (.ref 1)], [.int w7.1]) (hp N w7.2) _
    cases h
    exact ev_iret rfl (end_u (by show _ ≤ 1; omega) (by show _ ≤ 6; omega)) rfl (Or.inl rfl)
  | inr k5 =>
    obtain ⟨h9, h⟩ := cond_some h
    cases h
    exact ev_callX (h1 := hp N x6) rfl rfl rfl (ok_u rfl (by show u1 + 1 ≤ 1; omega) (by show u2 + 6 ≤ 6; omega)) h9 rfl (e93 s0 (by decide) (by decide) x _ h3)
def g59 (x : Hs) : Option ((Int32 ⊕ Nat) × Hs) := if x.1 2 0 ≥ 5 then (g59_16 0 x) else (g59_16 1 x)
theorem e59 {N : Nat} {u1 u2 : Nat} (hu1 : u1 + 1 ≤ 1) (hu2 : u2 + 6 ≤ 6) (x : Hs) (r : (Int32 ⊕ Nat) × Hs) (h : g59 x = some r) : Ev 59 (u1, u2) (0, aPad [.ref 1] 1, []) (hp N x) (cvXi N r) := by
  show Ev 59 (u1, u2) (0, [some (.ref 1)], []) (hp N x) _
  unfold g59 at h
  refine ev_run (n := 4) (u' := (u1, u2)) (f' := (8, [some (.ref 1)], [.int 5, .int (x.1 2 0)])) (h' := hp N x) rfl ?_
  rcases ite_or h with ⟨h1, h⟩ | ⟨h1, h⟩
  · refine ev_ict rfl (decide_eq_true h1) ?_
    refine ev_run (n := 1) (u' := (u1, u2)) (f' := (16, [some (.ref 1)], [.int 0])) (h' := hp N x) rfl ?_
    exact e59_16 0 (by omega) (by omega) x _ h
  · refine ev_icf rfl (decide_eq_false h1) ?_
    refine ev_run (n := 2) (u' := (u1, u2)) (f' := (16, [some (.ref 1)], [.int 1])) (h' := hp N x) rfl ?_
    exact e59_16 1 (by omega) (by omega) x _ h
def g182 (x : Hs) : Option (Int32 × Hs) := (g59 x).bind fun w1 => match w1 with | (.inl v3, x5) => (cond (aIn 0 1) (some (0, (wJ x5 187 (xi 0) (Int32.toInt64 v3)))) none) | (.inr k4, x5) => (if k4 = 2 then (some (1, x5)) else (none))
theorem e182 {N : Nat} {u1 u2 : Nat} (hu1 : u1 + 1 ≤ 1) (hu2 : u2 + 6 ≤ 6) (x : Hs) (r : Int32 × Hs) (h : g182 x = some r) : Ev 182 (u1, u2) (0, aPad [.ref 1, .ref 187] 3, []) (hp N x) (cvMi N r) := by
  show Ev 182 (u1, u2) (0, [some (.ref 1), some (.ref 187), none], []) (hp N x) _
  unfold g182 at h
  refine ev_run (n := 3) (u' := (u1, u2)) (f' := (3, [some (.ref 1), some (.ref 187), none], [.ref 1, .int 0, .ref 187])) (h' := hp N x) rfl ?_
  obtain ⟨w1, h2, h⟩ := bind_ok h
  obtain ⟨w1, x5⟩ := w1
  cases w1 with
  | inl v3 =>
    refine ev_call (v := some (.int v3)) (h1 := hp N x5) rfl rfl rfl (ok_u rfl (by show u1 + 1 ≤ 1; omega) (by show u2 + 6 ≤ 6; omega)) (e59 (by decide) (by decide) x _ h2) ?_
    show Ev 182 (u1 + 1, u2 + 6) (6, [some (.ref 1), some (.ref 187), none], [.int v3, .int 0, .ref 187]) (hp N x5) _
    refine ev_run (n := 1) (u' := (u1 + 1, u2 + 6)) (f' := (7, [some (.ref 1), some (.ref 187), none], [.long (Int32.toInt64 v3), .int 0, .ref 187])) (h' := hp N x5) rfl ?_
    obtain ⟨h6, h⟩ := cond_some h
    refine ev_last rfl rfl h6 ?_
    show Ev 182 (u1 + 1, u2 + 6) (8, [some (.ref 1), some (.ref 187), none], []) (hp N (wJ x5 187 (xi 0) (Int32.toInt64 v3))) _
    refine ev_run (n := 2) (u' := (u1 + 1, u2 + 6)) (f' := (15, [none, none, none], [.int 0])) (h' := hp N (wJ x5 187 (xi 0) (Int32.toInt64 v3))) rfl ?_
    cases h
    exact ev_iret rfl (end_u (by show _ ≤ 1; omega) (by show _ ≤ 6; omega)) rfl (Or.inl rfl)
  | inr k4 =>
    rcases ite_or h with ⟨h7, h⟩ | ⟨-, h⟩
    · subst h7
      refine ev_callH (h1 := hp N x5) (t0 := 11) (t := 12) (a := 2) rfl rfl rfl (ok_u rfl (by show u1 + 1 ≤ 1; omega) (by show u2 + 6 ≤ 6; omega)) rfl rfl rfl (e59 (by decide) (by decide) x _ h2) ?_
      show Ev 182 (u1 + 1, u2 + 6) (12, [some (.ref 1), some (.ref 187), none], []) (hp N x5) _
      refine ev_run (n := 1) (u' := (u1 + 1, u2 + 6)) (f' := (13, [some (.ref 1), some (.ref 187), none], [.int 1])) (h' := hp N x5) rfl ?_
      cases h
      exact ev_iret rfl (end_u (by show _ ≤ 1; omega) (by show _ ≤ 6; omega)) rfl (Or.inl rfl)
    cases h
