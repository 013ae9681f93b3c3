/-! The law's loop as functions; printed by dec_law.py -/
def gm214_1732 (N : Nat) (k28 : Int32 → Hs → Option (Int32 × Hs)) (a5 : Int32) (x : Hs) : Option (Int32 × Hs) := gm214_2306 N k28 a5 x
theorem em214_1732 {N n : Nat} (k28 : Int32 → Hs → Option (Int32 × Hs)) (q28 : ∀ {u1 u2 : Nat} (a5 : Int32) (hu1 : u1 + (0 + 4 * n) ≤ 601024) (hu2 : u2 + (0 + 24 * n) ≤ 7293034) (x : Hs) (r : Int32 × Hs), k28 a5 x = some r → Ev 214 (u1, u2) (28, [some (.ref 0), some (.ref 1), some (.ref 138), some (.ref 187), some (.ref 188), some (.int a5), none, none], []) (hp N x) (cvMi N r)) {u1 u2 : Nat} (a5 : Int32) (hu1 : u1 + (0 + 4 * n) ≤ 601024) (hu2 : u2 + (0 + 24 * n) ≤ 7293034) (x : Hs) (r : Int32 × Hs) (h : gm214_1732 N k28 a5 x = some r) : Ev 214 (u1, u2) (1732, [some (.ref 0), some (.ref 1), some (.ref 138), some (.ref 187), some (.ref 188), some (.int a5), none, none], []) (hp N x) (cvMi N r) := by
  unfold gm214_1732 at h
  refine ev_run (n := 1) (u' := (u1, u2)) (f' := (2306, [some (.ref 0), some (.ref 1), some (.ref 138), some (.ref 187), some (.ref 188), some (.int a5), none, none], [])) (h' := hp N x) rfl ?_
  exact em214_2306 k28 q28 a5 (by omega) (by omega) x _ h
def gm214_1667 (N : Nat) (k28 : Int32 → Hs → Option (Int32 × Hs)) (a5 : Int32) (x : Hs) : Option (Int32 × Hs) := cond (aIn (a5 + 1) N) (cond (aIn (a5 + 2) N) ((gm204 (x.1 0 (xi (a5 + 1))) (x.1 0 (xi (a5 + 2))) x).bind fun w322 => (cond (aIn (a5 + 1) N) (cond (aIn (a5 + 2) N) ((gm162 (w322.2.1 0 (xi (a5 + 1))) (w322.2.1 0 (xi (a5 + 2))) w322.2).bind fun w326 => ((gm112 w326.2).bind fun w328 => (if w328 = w322.1 then (if w322.1 = 0 then (cond (aIn 0 1) (if (lg_cmp (w326.2.2.1 187 (xi 0)) (Int32.toInt64 w326.1)) = 0 then (gm214_1732 N k28 a5 w326.2) else (some (0, w326.2))) none) else (gm214_1732 N k28 a5 w326.2)) else (some (0, w326.2))))) none) none)) none) none
theorem em214_1667 {N n : Nat} (k28 : Int32 → Hs → Option (Int32 × Hs)) (q28 : ∀ {u1 u2 : Nat} (a5 : Int32) (hu1 : u1 + (0 + 4 * n) ≤ 601024) (hu2 : u2 + (0 + 24 * n) ≤ 7293034) (x : Hs) (r : Int32 × Hs), k28 a5 x = some r → Ev 214 (u1, u2) (28, [some (.ref 0), some (.ref 1), some (.ref 138), some (.ref 187), some (.ref 188), some (.int a5), none, none], []) (hp N x) (cvMi N r)) {u1 u2 : Nat} (a5 : Int32) (hu1 : u1 + (3 + 4 * n) ≤ 601024) (hu2 : u2 + (18 + 24 * n) ≤ 7293034) (x : Hs) (r : Int32 × Hs) (h : gm214_1667 N k28 a5 x = some r) : Ev 214 (u1, u2) (1667, [some (.ref 0), some (.ref 1), some (.ref 138), some (.ref 187), some (.ref 188), some (.int a5), none, none], []) (hp N x) (cvMi N r) := by
  unfold gm214_1667 at h
  refine ev_run (n := 5) (u' := (u1, u2)) (f' := (1673, [some (.ref 0), some (.ref 1), some (.ref 138), some (.ref 187), some (.ref 188), some (.int a5), none, none], [.int (a5 + 1), .ref 0, .ref 1])) (h' := hp N x) rfl ?_
  obtain ⟨h320, h⟩ := cond_some h
  refine ev_iald rfl rfl h320 ?_
  refine ev_run (n := 4) (u' := (u1, u2)) (f' := (1679, [some (.ref 0), some (.ref 1), some (.ref 138), some (.ref 187), some (.ref 188), some (.int a5), none, none], [.int (a5 + 2), .ref 0, .int (x.1 0 (xi (a5 + 1))), .ref 1])) (h' := hp N x) rfl ?_
  obtain ⟨h321, h⟩ := cond_some h
  refine ev_iald rfl rfl h321 ?_
  refine ev_run (n := 1) (u' := (u1, u2)) (f' := (1681, [some (.ref 0), some (.ref 1), some (.ref 138), some (.ref 187), some (.ref 188), some (.int a5), none, none], [.ref 187, .int (x.1 0 (xi (a5 + 2))), .int (x.1 0 (xi (a5 + 1))), .ref 1])) (h' := hp N x) rfl ?_
  obtain ⟨w322, h323, h⟩ := bind_ok h
  refine ev_call (v := some (.int w322.1)) (h1 := hp N w322.2) rfl rfl rfl (ok_u rfl (by show u1 + 3 ≤ 601024; omega) (by show u2 + 18 ≤ 7293034; omega)) (em204 (x.1 0 (xi (a5 + 1))) (x.1 0 (xi (a5 + 2))) (by decide) (by decide) x _ h323) ?_
  show Ev 214 (u1 + 3, u2 + 18) (1684, [some (.ref 0), some (.ref 1), some (.ref 138), some (.ref 187), some (.ref 188), some (.int a5), none, none], [.int w322.1]) (hp N w322.2) _
  refine ev_run (n := 6) (u' := (u1 + 3, u2 + 18)) (f' := (1692, [some (.ref 0), some (.ref 1), some (.ref 138), some (.ref 187), some (.ref 188), some (.int a5), some (.int w322.1), none], [.int (a5 + 1), .ref 0, .ref 138])) (h' := hp N w322.2) rfl ?_
  obtain ⟨h324, h⟩ := cond_some h
  refine ev_iald rfl rfl h324 ?_
  refine ev_run (n := 4) (u' := (u1 + 3, u2 + 18)) (f' := (1698, [some (.ref 0), some (.ref 1), some (.ref 138), some (.ref 187), some (.ref 188), some (.int a5), some (.int w322.1), none], [.int (a5 + 2), .ref 0, .int (w322.2.1 0 (xi (a5 + 1))), .ref 138])) (h' := hp N w322.2) rfl ?_
  obtain ⟨h325, h⟩ := cond_some h
  refine ev_iald rfl rfl h325 ?_
  obtain ⟨w326, h327, h⟩ := bind_ok h
  refine ev_call (v := some (.int w326.1)) (h1 := hp N w326.2) rfl rfl rfl (ok_u rfl (by show u1 + 3 + 0 ≤ 601024; omega) (by show u2 + 18 + 0 ≤ 7293034; omega)) (em162 (w322.2.1 0 (xi (a5 + 1))) (w322.2.1 0 (xi (a5 + 2))) w322.2 _ h327) ?_
  show Ev 214 (u1 + 3, u2 + 18) (1702, [some (.ref 0), some (.ref 1), some (.ref 138), some (.ref 187), some (.ref 188), some (.int a5), some (.int w322.1), none], [.int w326.1]) (hp N w326.2) _
  refine ev_run (n := 2) (u' := (u1 + 3, u2 + 18)) (f' := (1705, [some (.ref 0), some (.ref 1), some (.ref 138), some (.ref 187), some (.ref 188), some (.int a5), some (.int w322.1), some (.int w326.1)], [.ref 138])) (h' := hp N w326.2) rfl ?_
  obtain ⟨w328, h329, h⟩ := bind_ok h
  refine ev_call (v := some (.int w328)) (h1 := hp N w326.2) rfl rfl rfl (ok_u rfl (by show u1 + 3 + 0 ≤ 601024; omega) (by show u2 + 18 + 0 ≤ 7293034; omega)) (em112 w326.2 _ h329) ?_
  show Ev 214 (u1 + 3, u2 + 18) (1708, [some (.ref 0), some (.ref 1), some (.ref 138), some (.ref 187), some (.ref 188), some (.int a5), some (.int w322.1), some (.int w326.1)], [.int w328]) (hp N w326.2) _
  refine ev_run (n := 1) (u' := (u1 + 3, u2 + 18)) (f' := (1710, [some (.ref 0), some (.ref 1), some (.ref 138), some (.ref 187), some (.ref 188), some (.int a5), some (.int w322.1), some (.int w326.1)], [.int w322.1, .int w328])) (h' := hp N w326.2) rfl ?_
  rcases ite_or h with ⟨h333, h⟩ | ⟨h333, h⟩
  · refine ev_ict rfl (decide_eq_true h333) ?_
    refine ev_run (n := 1) (u' := (u1 + 3, u2 + 18)) (f' := (1717, [some (.ref 0), some (.ref 1), some (.ref 138), some (.ref 187), some (.ref 188), some (.int a5), some (.int w322.1), some (.int w326.1)], [.int w322.1])) (h' := hp N w326.2) rfl ?_
    rcases ite_or h with ⟨h332, h⟩ | ⟨h332, h⟩
    · refine ev_iff rfl (decide_eq_false (fun w => w h332)) ?_
      refine ev_run (n := 2) (u' := (u1 + 3, u2 + 18)) (f' := (1722, [some (.ref 0), some (.ref 1), some (.ref 138), some (.ref 187), some (.ref 188), some (.int a5), some (.int w322.1), some (.int w326.1)], [.int 0, .ref 187])) (h' := hp N w326.2) rfl ?_
      obtain ⟨h330, h⟩ := cond_some h
      refine ev_lald rfl rfl h330 ?_
      refine ev_run (n := 3) (u' := (u1 + 3, u2 + 18)) (f' := (1727, [some (.ref 0), some (.ref 1), some (.ref 138), some (.ref 187), some (.ref 188), some (.int a5), some (.int w322.1), some (.int w326.1)], [.int (lg_cmp (w326.2.2.1 187 (xi 0)) (Int32.toInt64 w326.1))])) (h' := hp N w326.2) rfl ?_
      rcases ite_or h with ⟨h331, h⟩ | ⟨h331, h⟩
      · refine ev_ift rfl (decide_eq_true h331) ?_
        exact em214_1732 k28 q28 a5 (by omega) (by omega) w326.2 _ h
      · refine ev_iff rfl (decide_eq_false h331) ?_
        refine ev_run (n := 1) (u' := (u1 + 3, u2 + 18)) (f' := (1731, [some (.ref 0), some (.ref 1), some (.ref 138), some (.ref 187), some (.ref 188), some (.int a5), some (.int w322.1), some (.int w326.1)], [.int 0])) (h' := hp N w326.2) rfl ?_
        cases h
        exact ev_iret rfl (end_u (by show _ ≤ 601024; omega) (by show _ ≤ 7293034; omega)) rfl (Or.inr ⟨rfl, rfl⟩)
    · refine ev_ift rfl (decide_eq_true h332) ?_
      exact em214_1732 k28 q28 a5 (by omega) (by omega) w326.2 _ h
  · refine ev_icf rfl (decide_eq_false h333) ?_
    refine ev_run (n := 1) (u' := (u1 + 3, u2 + 18)) (f' := (1714, [some (.ref 0), some (.ref 1), some (.ref 138), some (.ref 187), some (.ref 188), some (.int a5), some (.int w322.1), some (.int w326.1)], [.int 0])) (h' := hp N w326.2) rfl ?_
    cases h
    exact ev_iret rfl (end_u (by show _ ≤ 601024; omega) (by show _ ≤ 7293034; omega)) rfl (Or.inr ⟨rfl, rfl⟩)
def gm214_1800 (N : Nat) (k28 : Int32 → Hs → Option (Int32 × Hs)) (a5 : Int32) (x : Hs) : Option (Int32 × Hs) := gm214_2306 N k28 a5 x
theorem em214_1800 {N n : Nat} (k28 : Int32 → Hs → Option (Int32 × Hs)) (q28 : ∀ {u1 u2 : Nat} (a5 : Int32) (hu1 : u1 + (0 + 4 * n) ≤ 601024) (hu2 : u2 + (0 + 24 * n) ≤ 7293034) (x : Hs) (r : Int32 × Hs), k28 a5 x = some r → Ev 214 (u1, u2) (28, [some (.ref 0), some (.ref 1), some (.ref 138), some (.ref 187), some (.ref 188), some (.int a5), none, none], []) (hp N x) (cvMi N r)) {u1 u2 : Nat} (a5 : Int32) (hu1 : u1 + (0 + 4 * n) ≤ 601024) (hu2 : u2 + (0 + 24 * n) ≤ 7293034) (x : Hs) (r : Int32 × Hs) (h : gm214_1800 N k28 a5 x = some r) : Ev 214 (u1, u2) (1800, [some (.ref 0), some (.ref 1), some (.ref 138), some (.ref 187), some (.ref 188), some (.int a5), none, none], []) (hp N x) (cvMi N r) := by
  unfold gm214_1800 at h
  refine ev_run (n := 1) (u' := (u1, u2)) (f' := (2306, [some (.ref 0), some (.ref 1), some (.ref 138), some (.ref 187), some (.ref 188), some (.int a5), none, none], [])) (h' := hp N x) rfl ?_
  exact em214_2306 k28 q28 a5 (by omega) (by omega) x _ h
def gm214_1735 (N : Nat) (k28 : Int32 → Hs → Option (Int32 × Hs)) (a5 : Int32) (x : Hs) : Option (Int32 × Hs) := cond (aIn (a5 + 1) N) (cond (aIn (a5 + 2) N) ((gm205 (x.1 0 (xi (a5 + 1))) (x.1 0 (xi (a5 + 2))) x).bind fun w336 => (cond (aIn (a5 + 1) N) (cond (aIn (a5 + 2) N) ((gm164 (w336.2.1 0 (xi (a5 + 1))) (w336.2.1 0 (xi (a5 + 2))) w336.2).bind fun w340 => ((gm112 w340.2).bind fun w342 => (if w342 = w336.1 then (if w336.1 = 0 then (cond (aIn 0 1) (if (lg_cmp (w340.2.2.1 187 (xi 0)) (Int32.toInt64 w340.1)) = 0 then (gm214_1800 N k28 a5 w340.2) else (some (0, w340.2))) none) else (gm214_1800 N k28 a5 w340.2)) else (some (0, w340.2))))) none) none)) none) none
theorem em214_1735 {N n : Nat} (k28 : Int32 → Hs → Option (Int32 × Hs)) (q28 : ∀ {u1 u2 : Nat} (a5 : Int32) (hu1 : u1 + (0 + 4 * n) ≤ 601024) (hu2 : u2 + (0 + 24 * n) ≤ 7293034) (x : Hs) (r : Int32 × Hs), k28 a5 x = some r → Ev 214 (u1, u2) (28, [some (.ref 0), some (.ref 1), some (.ref 138), some (.ref 187), some (.ref 188), some (.int a5), none, none], []) (hp N x) (cvMi N r)) {u1 u2 : Nat} (a5 : Int32) (hu1 : u1 + (3 + 4 * n) ≤ 601024) (hu2 : u2 + (18 + 24 * n) ≤ 7293034) (x : Hs) (r : Int32 × Hs) (h : gm214_1735 N k28 a5 x = some r) : Ev 214 (u1, u2) (1735, [some (.ref 0), some (.ref 1), some (.ref 138), some (.ref 187), some (.ref 188), some (.int a5), none, none], []) (hp N x) (cvMi N r) := by
  unfold gm214_1735 at h
  refine ev_run (n := 5) (u' := (u1, u2)) (f' := (1741, [some (.ref 0), some (.ref 1), some (.ref 138), some (.ref 187), some (.ref 188), some (.int a5), none, none], [.int (a5 + 1), .ref 0, .ref 1])) (h' := hp N x) rfl ?_
  obtain ⟨h334, h⟩ := cond_some h
  refine ev_iald rfl rfl h334 ?_
  refine ev_run (n := 4) (u' := (u1, u2)) (f' := (1747, [some (.ref 0), some (.ref 1), some (.ref 138), some (.ref 187), some (.ref 188), some (.int a5), none, none], [.int (a5 + 2), .ref 0, .int (x.1 0 (xi (a5 + 1))), .ref 1])) (h' := hp N x) rfl ?_
  obtain ⟨h335, h⟩ := cond_some h
  refine ev_iald rfl rfl h335 ?_
  refine ev_run (n := 1) (u' := (u1, u2)) (f' := (1749, [some (.ref 0), some (.ref 1), some (.ref 138), some (.ref 187), some (.ref 188), some (.int a5), none, none], [.ref 187, .int (x.1 0 (xi (a5 + 2))), .int (x.1 0 (xi (a5 + 1))), .ref 1])) (h' := hp N x) rfl ?_
  obtain ⟨w336, h337, h⟩ := bind_ok h
  refine ev_call (v := some (.int w336.1)) (h1 := hp N w336.2) rfl rfl rfl (ok_u rfl (by show u1 + 3 ≤ 601024; omega) (by show u2 + 18 ≤ 7293034; omega)) (em205 (x.1 0 (xi (a5 + 1))) (x.1 0 (xi (a5 + 2))) (by decide) (by decide) x _ h337) ?_
  show Ev 214 (u1 + 3, u2 + 18) (1752, [some (.ref 0), some (.ref 1), some (.ref 138), some (.ref 187), some (.ref 188), some (.int a5), none, none], [.int w336.1]) (hp N w336.2) _
  refine ev_run (n := 6) (u' := (u1 + 3, u2 + 18)) (f' := (1760, [some (.ref 0), some (.ref 1), some (.ref 138), some (.ref 187), some (.ref 188), some (.int a5), some (.int w336.1), none], [.int (a5 + 1), .ref 0, .ref 138])) (h' := hp N w336.2) rfl ?_
  obtain ⟨h338, h⟩ := cond_some h
  refine ev_iald rfl rfl h338 ?_
  refine ev_run (n := 4) (u' := (u1 + 3, u2 + 18)) (f' := (1766, [some (.ref 0), some (.ref 1), some (.ref 138), some (.ref 187), some (.ref 188), some (.int a5), some (.int w336.1), none], [.int (a5 + 2), .ref 0, .int (w336.2.1 0 (xi (a5 + 1))), .ref 138])) (h' := hp N w336.2) rfl ?_
  obtain ⟨h339, h⟩ := cond_some h
  refine ev_iald rfl rfl h339 ?_
  obtain ⟨w340, h341, h⟩ := bind_ok h
  refine ev_call (v := some (.int w340.1)) (h1 := hp N w340.2) rfl rfl rfl (ok_u rfl (by show u1 + 3 + 0 ≤ 601024; omega) (by show u2 + 18 + 0 ≤ 7293034; omega)) (em164 (w336.2.1 0 (xi (a5 + 1))) (w336.2.1 0 (xi (a5 + 2))) w336.2 _ h341) ?_
  show Ev 214 (u1 + 3, u2 + 18) (1770, [some (.ref 0), some (.ref 1), some (.ref 138), some (.ref 187), some (.ref 188), some (.int a5), some (.int w336.1), none], [.int w340.1]) (hp N w340.2) _
  refine ev_run (n := 2) (u' := (u1 + 3, u2 + 18)) (f' := (1773, [some (.ref 0), some (.ref 1), some (.ref 138), some (.ref 187), some (.ref 188), some (.int a5), some (.int w336.1), some (.int w340.1)], [.ref 138])) (h' := hp N w340.2) rfl ?_
  obtain ⟨w342, h343, h⟩ := bind_ok h
  refine ev_call (v := some (.int w342)) (h1 := hp N w340.2) rfl rfl rfl (ok_u rfl (by show u1 + 3 + 0 ≤ 601024; omega) (by show u2 + 18 + 0 ≤ 7293034; omega)) (em112 w340.2 _ h343) ?_
  show Ev 214 (u1 + 3, u2 + 18) (1776, [some (.ref 0), some (.ref 1), some (.ref 138), some (.ref 187), some (.ref 188), some (.int a5), some (.int w336.1), some (.int w340.1)], [.int w342]) (hp N w340.2) _
  refine ev_run (n := 1) (u' := (u1 + 3, u2 + 18)) (f' := (1778, [some (.ref 0), some (.ref 1), some (.ref 138), some (.ref 187), some (.ref 188), some (.int a5), some (.int w336.1), some (.int w340.1)], [.int w336.1, .int w342])) (h' := hp N w340.2) rfl ?_
  rcases ite_or h with ⟨h347, h⟩ | ⟨h347, h⟩
  · refine ev_ict rfl (decide_eq_true h347) ?_
    refine ev_run (n := 1) (u' := (u1 + 3, u2 + 18)) (f' := (1785, [some (.ref 0), some (.ref 1), some (.ref 138), some (.ref 187), some (.ref 188), some (.int a5), some (.int w336.1), some (.int w340.1)], [.int w336.1])) (h' := hp N w340.2) rfl ?_
    rcases ite_or h with ⟨h346, h⟩ | ⟨h346, h⟩
    · refine ev_iff rfl (decide_eq_false (fun w => w h346)) ?_
      refine ev_run (n := 2) (u' := (u1 + 3, u2 + 18)) (f' := (1790, [some (.ref 0), some (.ref 1), some (.ref 138), some (.ref 187), some (.ref 188), some (.int a5), some (.int w336.1), some (.int w340.1)], [.int 0, .ref 187])) (h' := hp N w340.2) rfl ?_
      obtain ⟨h344, h⟩ := cond_some h
      refine ev_lald rfl rfl h344 ?_
      refine ev_run (n := 3) (u' := (u1 + 3, u2 + 18)) (f' := (1795, [some (.ref 0), some (.ref 1), some (.ref 138), some (.ref 187), some (.ref 188), some (.int a5), some (.int w336.1), some (.int w340.1)], [.int (lg_cmp (w340.2.2.1 187 (xi 0)) (Int32.toInt64 w340.1))])) (h' := hp N w340.2) rfl ?_
      rcases ite_or h with ⟨h345, h⟩ | ⟨h345, h⟩
      · refine ev_ift rfl (decide_eq_true h345) ?_
        exact em214_1800 k28 q28 a5 (by omega) (by omega) w340.2 _ h
      · refine ev_iff rfl (decide_eq_false h345) ?_
        refine ev_run (n := 1) (u' := (u1 + 3, u2 + 18)) (f' := (1799, [some (.ref 0), some (.ref 1), some (.ref 138), some (.ref 187), some (.ref 188), some (.int a5), some (.int w336.1), some (.int w340.1)], [.int 0])) (h' := hp N w340.2) rfl ?_
        cases h
        exact ev_iret rfl (end_u (by show _ ≤ 601024; omega) (by show _ ≤ 7293034; omega)) rfl (Or.inr ⟨rfl, rfl⟩)
    · refine ev_ift rfl (decide_eq_true h346) ?_
      exact em214_1800 k28 q28 a5 (by omega) (by omega) w340.2 _ h
  · refine ev_icf rfl (decide_eq_false h347) ?_
    refine ev_run (n := 1) (u' := (u1 + 3, u2 + 18)) (f' := (1782, [some (.ref 0), some (.ref 1), some (.ref 138), some (.ref 187), some (.ref 188), some (.int a5), some (.int w336.1), some (.int w340.1)], [.int 0])) (h' := hp N w340.2) rfl ?_
    cases h
    exact ev_iret rfl (end_u (by show _ ≤ 601024; omega) (by show _ ≤ 7293034; omega)) rfl (Or.inr ⟨rfl, rfl⟩)
def gm214_1856 (N : Nat) (k28 : Int32 → Hs → Option (Int32 × Hs)) (a5 : Int32) (x : Hs) : Option (Int32 × Hs) := gm214_2306 N k28 a5 x
theorem em214_1856 {N n : Nat} (k28 : Int32 → Hs → Option (Int32 × Hs)) (q28 : ∀ {u1 u2 : Nat} (a5 : Int32) (hu1 : u1 + (0 + 4 * n) ≤ 601024) (hu2 : u2 + (0 + 24 * n) ≤ 7293034) (x : Hs) (r : Int32 × Hs), k28 a5 x = some r → Ev 214 (u1, u2) (28, [some (.ref 0), some (.ref 1), some (.ref 138), some (.ref 187), some (.ref 188), some (.int a5), none, none], []) (hp N x) (cvMi N r)) {u1 u2 : Nat} (a5 : Int32) (hu1 : u1 + (0 + 4 * n) ≤ 601024) (hu2 : u2 + (0 + 24 * n) ≤ 7293034) (x : Hs) (r : Int32 × Hs) (h : gm214_1856 N k28 a5 x = some r) : Ev 214 (u1, u2) (1856, [some (.ref 0), some (.ref 1), some (.ref 138), some (.ref 187), some (.ref 188), some (.int a5), none, none], []) (hp N x) (cvMi N r) := by
  unfold gm214_1856 at h
  refine ev_run (n := 1) (u' := (u1, u2)) (f' := (2306, [some (.ref 0), some (.ref 1), some (.ref 138), some (.ref 187), some (.ref 188), some (.int a5), none, none], [])) (h' := hp N x) rfl ?_
  exact em214_2306 k28 q28 a5 (by omega) (by omega) x _ h
def gm214_1803 (N : Nat) (k28 : Int32 → Hs → Option (Int32 × Hs)) (a5 : Int32) (x : Hs) : Option (Int32 × Hs) := cond (aIn (a5 + 1) N) ((gm206 (x.1 0 (xi (a5 + 1))) x).bind fun w349 => (cond (aIn (a5 + 1) N) ((gm165 (w349.2.1 0 (xi (a5 + 1))) w349.2).bind fun w352 => ((gm112 w352.2).bind fun w354 => (if w354 = w349.1 then (if w349.1 = 0 then (cond (aIn 0 1) (if (lg_cmp (w352.2.2.1 187 (xi 0)) (Int32.toInt64 w352.1)) = 0 then (gm214_1856 N k28 a5 w352.2) else (some (0, w352.2))) none) else (gm214_1856 N k28 a5 w352.2)) else (some (0, w352.2))))) none)) none
theorem em214_1803 {N n : Nat} (k28 : Int32 → Hs → Option (Int32 × Hs)) (q28 : ∀ {u1 u2 : Nat} (a5 : Int32) (hu1 : u1 + (0 + 4 * n) ≤ 601024) (hu2 : u2 + (0 + 24 * n) ≤ 7293034) (x : Hs) (r : Int32 × Hs), k28 a5 x = some r → Ev 214 (u1, u2) (28, [some (.ref 0), some (.ref 1), some (.ref 138), some (.ref 187), some (.ref 188), some (.int a5), none, none], []) (hp N x) (cvMi N r)) {u1 u2 : Nat} (a5 : Int32) (hu1 : u1 + (2 + 4 * n) ≤ 601024) (hu2 : u2 + (12 + 24 * n) ≤ 7293034) (x : Hs) (r : Int32 × Hs) (h : gm214_1803 N k28 a5 x = some r) : Ev 214 (u1, u2) (1803, [some (.ref 0), some (.ref 1), some (.ref 138), some (.ref 187), some (.ref 188), some (.int a5), none, none], []) (hp N x) (cvMi N r) := by
  unfold gm214_1803 at h
  refine ev_run (n := 5) (u' := (u1, u2)) (f' := (1809, [some (.ref 0), some (.ref 1), some (.ref 138), some (.ref 187), some (.ref 188), some (.int a5), none, none], [.int (a5 + 1), .ref 0, .ref 1])) (h' := hp N x) rfl ?_
  obtain ⟨h348, h⟩ := cond_some h
  refine ev_iald rfl rfl h348 ?_
  refine ev_run (n := 1) (u' := (u1, u2)) (f' := (1811, [some (.ref 0), some (.ref 1), some (.ref 138), some (.ref 187), some (.ref 188), some (.int a5), none, none], [.ref 187, .int (x.1 0 (xi (a5 + 1))), .ref 1])) (h' := hp N x) rfl ?_
  obtain ⟨w349, h350, h⟩ := bind_ok h
  refine ev_call (v := some (.int w349.1)) (h1 := hp N w349.2) rfl rfl rfl (ok_u rfl (by show u1 + 2 ≤ 601024; omega) (by show u2 + 12 ≤ 7293034; omega)) (em206 (x.1 0 (xi (a5 + 1))) (by decide) (by decide) x _ h350) ?_
  show Ev 214 (u1 + 2, u2 + 12) (1814, [some (.ref 0), some (.ref 1), some (.ref 138), some (.ref 187), some (.ref 188), some (.int a5), none, none], [.int w349.1]) (hp N w349.2) _
  refine ev_run (n := 6) (u' := (u1 + 2, u2 + 12)) (f' := (1822, [some (.ref 0), some (.ref 1), some (.ref 138), some (.ref 187), some (.ref 188), some (.int a5), some (.int w349.1), none], [.int (a5 + 1), .ref 0, .ref 138])) (h' := hp N w349.2) rfl ?_
  obtain ⟨h351, h⟩ := cond_some h
  refine ev_iald rfl rfl h351 ?_
  obtain ⟨w352, h353, h⟩ := bind_ok h
  refine ev_call (v := some (.int w352.1)) (h1 := hp N w352.2) rfl rfl rfl (ok_u rfl (by show u1 + 2 + 0 ≤ 601024; omega) (by show u2 + 12 + 0 ≤ 7293034; omega)) (em165 (w349.2.1 0 (xi (a5 + 1))) w349.2 _ h353) ?_
  show Ev 214 (u1 + 2, u2 + 12) (1826, [some (.ref 0), some (.ref 1), some (.ref 138), some (.ref 187), some (.ref 188), some (.int a5), some (.int w349.1), none], [.int w352.1]) (hp N w352.2) _
  refine ev_run (n := 2) (u' := (u1 + 2, u2 + 12)) (f' := (1829, [some (.ref 0), some (.ref 1), some (.ref 138), some (.ref 187), some (.ref 188), some (.int a5), some (.int w349.1), some (.int w352.1)], [.ref 138])) (h' := hp N w352.2) rfl ?_
  obtain ⟨w354, h355, h⟩ := bind_ok h
  refine ev_call (v := some (.int w354)) (h1 := hp N w352.2) rfl rfl rfl (ok_u rfl (by show u1 + 2 + 0 ≤ 601024; omega) (by show u2 + 12 + 0 ≤ 7293034; omega)) (em112 w352.2 _ h355) ?_
  show Ev 214 (u1 + 2, u2 + 12) (1832, [some (.ref 0), some (.ref 1), some (.ref 138), some (.ref 187), some (.ref 188), some (.int a5), some (.int w349.1), some (.int w352.1)], [.int w354]) (hp N w352.2) _
  refine ev_run (n := 1) (u' := (u1 + 2, u2 + 12)) (f' := (1834, [some (.ref 0), some (.ref 1), some (.ref 138), some (.ref 187), some (.ref 188), some (.int a5), some (.int w349.1), some (.int w352.1)], [.int w349.1, .int w354])) (h' := hp N w352.2) rfl ?_
  rcases ite_or h with ⟨h359, h⟩ | ⟨h359, h⟩
  · refine ev_ict rfl (decide_eq_true h359) ?_
    refine ev_run (n := 1) (u' := (u1 + 2, u2 + 12)) (f' := (1841, [some (.ref 0), some (.ref 1), some (.ref 138), some (.ref 187), some (.ref 188), some (.int a5), some (.int w349.1), some (.int w352.1)], [.int w349.1])) (h' := hp N w352.2) rfl ?_
    rcases ite_or h with ⟨h358, h⟩ | ⟨h358, h⟩
    · refine ev_iff rfl (decide_eq_false (fun w => w h358)) ?_
      refine ev_run (n := 2) (u' := (u1 + 2, u2 + 12)) (f' := (1846, [some (.ref 0), some (.ref 1), some (.ref 138), some (.ref 187), some (.ref 188), some (.int a5), some (.int w349.1), some (.int w352.1)], [.int 0, .ref 187])) (h' := hp N w352.2) rfl ?_
      obtain ⟨h356, h⟩ := cond_some h
      refine ev_lald rfl rfl h356 ?_
      refine ev_run (n := 3) (u' := (u1 + 2, u2 + 12)) (f' := (1851, [some (.ref 0), some (.ref 1), some (.ref 138), some (.ref 187), some (.ref 188), some (.int a5), some (.int w349.1), some (.int w352.1)], [.int (lg_cmp (w352.2.2.1 187 (xi 0)) (Int32.toInt64 w352.1))])) (h' := hp N w352.2) rfl ?_
      rcases ite_or h with ⟨h357, h⟩ | ⟨h357, h⟩
      · refine ev_ift rfl (decide_eq_true h357) ?_
        exact em214_1856 k28 q28 a5 (by omega) (by omega) w352.2 _ h
      · refine ev_iff rfl (decide_eq_false h357) ?_
        refine ev_run (n := 1) (u' := (u1 + 2, u2 + 12)) (f' := (1855, [some (.ref 0), some (.ref 1), some (.ref 138), some (.ref 187), some (.ref 188), some (.int a5), some (.int w349.1), some (.int w352.1)], [.int 0])) (h' := hp N w352.2) rfl ?_
        cases h
        exact ev_iret rfl (end_u (by show _ ≤ 601024; omega) (by show _ ≤ 7293034; omega)) rfl (Or.inr ⟨rfl, rfl⟩)
    · refine ev_ift rfl (decide_eq_true h358) ?_
      exact em214_1856 k28 q28 a5 (by omega) (by omega) w352.2 _ h
  · refine ev_icf rfl (decide_eq_false h359) ?_
    refine ev_run (n := 1) (u' := (u1 + 2, u2 + 12)) (f' := (1838, [some (.ref 0), some (.ref 1), some (.ref 138), some (.ref 187), some (.ref 188), some (.int a5), some (.int w349.1), some (.int w352.1)], [.int 0])) (h' := hp N w352.2) rfl ?_
    cases h
    exact ev_iret rfl (end_u (by show _ ≤ 601024; omega) (by show _ ≤ 7293034; omega)) rfl (Or.inr ⟨rfl, rfl⟩)
def gm214_1924 (N : Nat) (k28 : Int32 → Hs → Option (Int32 × Hs)) (a5 : Int32) (x : Hs) : Option (Int32 × Hs) := gm214_2306 N k28 a5 x
theorem em214_1924 {N n : Nat} (k28 : Int32 → Hs → Option (Int32 × Hs)) (q28 : ∀ {u1 u2 : Nat} (a5 : Int32) (hu1 : u1 + (0 + 4 * n) ≤ 601024) (hu2 : u2 + (0 + 24 * n) ≤ 7293034) (x : Hs) (r : Int32 × Hs), k28 a5 x = some r → Ev 214 (u1, u2) (28, [some (.ref 0), some (.ref 1), some (.ref 138), some (.ref 187), some (.ref 188), some (.int a5), none, none], []) (hp N x) (cvMi N r)) {u1 u2 : Nat} (a5 : Int32) (hu1 : u1 + (0 + 4 * n) ≤ 601024) (hu2 : u2 + (0 + 24 * n) ≤ 7293034) (x : Hs) (r : Int32 × Hs) (h : gm214_1924 N k28 a5 x = some r) : Ev 214 (u1, u2) (1924, [some (.ref 0), some (.ref 1), some (.ref 138), some (.ref 187), some (.ref 188), some (.int a5), none, none], []) (hp N x) (cvMi N r) := by
  unfold gm214_1924 at h
  refine ev_run (n := 1) (u' := (u1, u2)) (f' := (2306, [some (.ref 0), some (.ref 1), some (.ref 138), some (.ref 187), some (.ref 188), some (.int a5), none, none], [])) (h' := hp N x) rfl ?_
  exact em214_2306 k28 q28 a5 (by omega) (by omega) x _ h
def gm214_1859 (N : Nat) (k28 : Int32 → Hs → Option (Int32 × Hs)) (a5 : Int32) (x : Hs) : Option (Int32 × Hs) := cond (aIn (a5 + 1) N) (cond (aIn (a5 + 2) N) ((gm207 (x.1 0 (xi (a5 + 1))) (x.1 0 (xi (a5 + 2))) x).bind fun w362 => (cond (aIn (a5 + 1) N) (cond (aIn (a5 + 2) N) ((gm166 (w362.2.1 0 (xi (a5 + 1))) (w362.2.1 0 (xi (a5 + 2))) w362.2).bind fun w366 => ((gm112 w366.2).bind fun w368 => (if w368 = w362.1 then (if w362.1 = 0 then (cond (aIn 0 1) (if (lg_cmp (w366.2.2.1 187 (xi 0)) (Int32.toInt64 w366.1)) = 0 then (gm214_1924 N k28 a5 w366.2) else (some (0, w366.2))) none) else (gm214_1924 N k28 a5 w366.2)) else (some (0, w366.2))))) none) none)) none) none
theorem em214_1859 {N n : Nat} (k28 : Int32 → Hs → Option (Int32 × Hs)) (q28 : ∀ {u1 u2 : Nat} (a5 : Int32) (hu1 : u1 + (0 + 4 * n) ≤ 601024) (hu2 : u2 + (0 + 24 * n) ≤ 7293034) (x : Hs) (r : Int32 × Hs), k28 a5 x = some r → Ev 214 (u1, u2) (28, [some (.ref 0), some (.ref 1), some (.ref 138), some (.ref 187), some (.ref 188), some (.int a5), none, none], []) (hp N x) (cvMi N r)) {u1 u2 : Nat} (a5 : Int32) (hu1 : u1 + (2 + 4 * n) ≤ 601024) (hu2 : u2 + (12 + 24 * n) ≤ 7293034) (x : Hs) (r : Int32 × Hs) (h : gm214_1859 N k28 a5 x = some r) : Ev 214 (u1, u2) (1859, [some (.ref 0), some (.ref 1), some (.ref 138), some (.ref 187), some (.ref 188), some (.int a5), none, none], []) (hp N x) (cvMi N r) := by
  unfold gm214_1859 at h
  refine ev_run (n := 5) (u' := (u1, u2)) (f' := (1865, [some (.ref 0), some (.ref 1), some (.ref 138), some (.ref 187), some (.ref 188), some (.int a5), none, none], [.int (a5 + 1), .ref 0, .ref 1])) (h' := hp N x) rfl ?_
  obtain ⟨h360, h⟩ := cond_some h
  refine ev_iald rfl rfl h360 ?_
  refine ev_run (n := 4) (u' := (u1, u2)) (f' := (1871, [some (.ref 0), some (.ref 1), some (.ref 138), some (.ref 187), some (.ref 188), some (.int a5), none, none], [.int (a5 + 2), .ref 0, .int (x.1 0 (xi (a5 + 1))), .ref 1])) (h' := hp N x) rfl ?_
  obtain ⟨h361, h⟩ := cond_some h
  refine ev_iald rfl rfl h361 ?_
  refine ev_run (n := 1) (u' := (u1, u2)) (f' := (1873, [some (.ref 0), some (.ref 1), some (.ref 138), some (.ref 187), some (.ref 188), some (.int a5), none, none], [.ref 187, .int (x.1 0 (xi (a5 + 2))), .int (x.1 0 (xi (a5 + 1))), .ref 1])) (h' := hp N x) rfl ?_
  obtain ⟨w362, h363, h⟩ := bind_ok h
  refine ev_call (v := some (.int w362.1)) (h1 := hp N w362.2) rfl rfl rfl (ok_u rfl (by show u1 + 2 ≤ 601024; omega) (by show u2 + 12 ≤ 7293034; omega)) (em207 (x.1 0 (xi (a5 + 1))) (x.1 0 (xi (a5 + 2))) (by decide) (by decide) x _ h363) ?_
  show Ev 214 (u1 + 2, u2 + 12) (1876, [some (.ref 0), some (.ref 1), some (.ref 138), some (.ref 187), some (.ref 188), some (.int a5), none, none], [.int w362.1]) (hp N w362.2) _
  refine ev_run (n := 6) (u' := (u1 + 2, u2 + 12)) (f' := (1884, [some (.ref 0), some (.ref 1), some (.ref 138), some (.ref 187), some (.ref 188), some (.int a5), some (.int w362.1), none], [.int (a5 + 1), .ref 0, .ref 138])) (h' := hp N w362.2) rfl ?_
  obtain ⟨h364, h⟩ := cond_some h
  refine ev_iald rfl rfl h364 ?_
  refine ev_run (n := 4) (u' := (u1 + 2, u2 + 12)) (f' := (1890, [some (.ref 0), some (.ref 1), some (.ref 138), some (.ref 187), some (.ref 188), some (.int a5), some (.int w362.1), none], [.int (a5 + 2), .ref 0, .int (w362.2.1 0 (xi (a5 + 1))), .ref 138])) (h' := hp N w362.2) rfl ?_
  obtain ⟨h365, h⟩ := cond_some h
  refine ev_iald rfl rfl h365 ?_
  obtain ⟨w366, h367, h⟩ := bind_ok h
  refine ev_call (v := some (.int w366.1)) (h1 := hp N w366.2) rfl rfl rfl (ok_u rfl (by show u1 + 2 + 0 ≤ 601024; omega) (by show u2 + 12 + 0 ≤ 7293034; omega)) (em166 (w362.2.1 0 (xi (a5 + 1))) (w362.2.1 0 (xi (a5 + 2))) w362.2 _ h367) ?_
  show Ev 214 (u1 + 2, u2 + 12) (1894, [some (.ref 0), some (.ref 1), some (.ref 138), some (.ref 187), some (.ref 188), some (.int a5), some (.int w362.1), none], [.int w366.1]) (hp N w366.2) _
  refine ev_run (n := 2) (u' := (u1 + 2, u2 + 12)) (f' := (1897, [some (.ref 0), some (.ref 1), some (.ref 138), some (.ref 187), some (.ref 188), some (.int a5), some (.int w362.1), some (.int w366.1)], [.ref 138])) (h' := hp N w366.2) rfl ?_
  obtain ⟨w368, h369, h⟩ := bind_ok h
  refine ev_call (v := some (.int w368)) (h1 := hp N w366.2) rfl rfl rfl (ok_u rfl (by show u1 + 2 + 0 ≤ 601024; omega) (by show u2 + 12 + 0 ≤ 7293034; omega)) (em112 w366.2 _ h369) ?_
  show Ev 214 (u1 + 2, u2 + 12) (1900, [some (.ref 0), some (.ref 1), some (.ref 138), some (.ref 187), some (.ref 188), some (.int a5), some (.int w362.1), some (.int w366.1)], [.int w368]) (hp N w366.2) _
  refine ev_run (n := 1) (u' := (u1 + 2, u2 + 12)) (f' := (1902, [some (.ref 0), some (.ref 1), some (.ref 138), some (.ref 187), some (.ref 188), some (.int a5), some (.int w362.1), some (.int w366.1)], [.int w362.1, .int w368])) (h' := hp N w366.2) rfl ?_
  rcases ite_or h with ⟨h373, h⟩ | ⟨h373, h⟩
  · refine ev_ict rfl (decide_eq_true h373) ?_
    refine ev_run (n := 1) (u' := (u1 + 2, u2 + 12)) (f' := (1909, [some (.ref 0), some (.ref 1), some (.ref 138), some (.ref 187), some (.ref 188), some (.int a5), some (.int w362.1), some (.int w366.1)], [.int w362.1])) (h' := hp N w366.2) rfl ?_
    rcases ite_or h with ⟨h372, h⟩ | ⟨h372, h⟩
    · refine ev_iff rfl (decide_eq_false (fun w => w h372)) ?_
      refine ev_run (n := 2) (u' := (u1 + 2, u2 + 12)) (f' := (1914, [some (.ref 0), some (.ref 1), some (.ref 138), some (.ref 187), some (.ref 188), some (.int a5), some (.int w362.1), some (.int w366.1)], [.int 0, .ref 187])) (h' := hp N w366.2) rfl ?_
      obtain ⟨h370, h⟩ := cond_some h
      refine ev_lald rfl rfl h370 ?_
      refine ev_run (n := 3) (u' := (u1 + 2, u2 + 12)) (f' := (1919, [some (.ref 0), some (.ref 1), some (.ref 138), some (.ref 187), some (.ref 188), some (.int a5), some (.int w362.1), some (.int w366.1)], [.int (lg_cmp (w366.2.2.1 187 (xi 0)) (Int32.toInt64 w366.1))])) (h' := hp N w366.2) rfl ?_
      rcases ite_or h with ⟨h371, h⟩ | ⟨h371, h⟩
      · refine ev_ift rfl (decide_eq_true h371) ?_
        exact em214_1924 k28 q28 a5 (by omega) (by omega) w366.2 _ h
      · refine ev_iff rfl (decide_eq_false h371) ?_
        refine ev_run (n := 1) (u' := (u1 + 2, u2 + 12)) (f' := (1923, [some (.ref 0), some (.ref 1), some (.ref 138), some (.ref 187), some (.ref 188), some (.int a5), some (.int w362.1), some (.int w366.1)], [.int 0])) (h' := hp N w366.2) rfl ?_
        cases h
        exact ev_iret rfl (end_u (by show _ ≤ 601024; omega) (by show _ ≤ 7293034; omega)) rfl (Or.inr ⟨rfl, rfl⟩)
    · refine ev_ift rfl (decide_eq_true h372) ?_
      exact em214_1924 k28 q28 a5 (by omega) (by omega) w366.2 _ h
  · refine ev_icf rfl (decide_eq_false h373) ?_
    refine ev_run (n := 1) (u' := (u1 + 2, u2 + 12)) (f' := (1906, [some (.ref 0), some (.ref 1), some (.ref 138), some (.ref 187), some (.ref 188), some (.int a5), some (.int w362.1), some (.int w366.1)], [.int 0])) (h' := hp N w366.2) rfl ?_
    cases h
    exact ev_iret rfl (end_u (by show _ ≤ 601024; omega) (by show _ ≤ 7293034; omega)) rfl (Or.inr ⟨rfl, rfl⟩)
def gm214_1980 (N : Nat) (k28 : Int32 → Hs → Option (Int32 × Hs)) (a5 : Int32) (x : Hs) : Option (Int32 × Hs) := gm214_2306 N k28 a5 x
theorem em214_1980 {N n : Nat} (k28 : Int32 → Hs → Option (Int32 × Hs)) (q28 : ∀ {u1 u2 : Nat} (a5 : Int32) (hu1 : u1 + (0 + 4 * n) ≤ 601024) (hu2 : u2 + (0 + 24 * n) ≤ 7293034) (x : Hs) (r : Int32 × Hs), k28 a5 x = some r → Ev 214 (u1, u2) (28, [some (.ref 0), some (.ref 1), some (.ref 138), some (.ref 187), some (.ref 188), some (.int a5), none, none], []) (hp N x) (cvMi N r)) {u1 u2 : Nat} (a5 : Int32) (hu1 : u1 + (0 + 4 * n) ≤ 601024) (hu2 : u2 + (0 + 24 * n) ≤ 7293034) (x : Hs) (r : Int32 × Hs) (h : gm214_1980 N k28 a5 x = some r) : Ev 214 (u1, u2) (1980, [some (.ref 0), some (.ref 1), some (.ref 138), some (.ref 187), some (.ref 188), some (.int a5), none, none], []) (hp N x) (cvMi N r) := by
  unfold gm214_1980 at h
  refine ev_run (n := 1) (u' := (u1, u2)) (f' := (2306, [some (.ref 0), some (.ref 1), some (.ref 138), some (.ref 187), some (.ref 188), some (.int a5), none, none], [])) (h' := hp N x) rfl ?_
  exact em214_2306 k28 q28 a5 (by omega) (by omega) x _ h
def gm214_1927 (N : Nat) (k28 : Int32 → Hs → Option (Int32 × Hs)) (a5 : Int32) (x : Hs) : Option (Int32 × Hs) := cond (aIn (a5 + 1) N) ((gm208 (x.1 0 (xi (a5 + 1))) x).bind fun w375 => (cond (aIn (a5 + 1) N) ((gm167 (w375.2.1 0 (xi (a5 + 1))) w375.2).bind fun w378 => ((gm112 w378.2).bind fun w380 => (if w380 = w375.1 then (if w375.1 = 0 then (cond (aIn 0 1) (if (lg_cmp (w378.2.2.1 187 (xi 0)) (Int32.toInt64 w378.1)) = 0 then (gm214_1980 N k28 a5 w378.2) else (some (0, w378.2))) none) else (gm214_1980 N k28 a5 w378.2)) else (some (0, w378.2))))) none)) none
theorem em214_1927 {N n : Nat} (k28 : Int32 → Hs → Option (Int32 × Hs)) (q28 : ∀ {u1 u2 : Nat} (a5 : Int32) (hu1 : u1 + (0 + 4 * n) ≤ 601024) (hu2 : u2 + (0 + 24 * n) ≤ 7293034) (x : Hs) (r : Int32 × Hs), k28 a5 x = some r → Ev 214 (u1, u2) (28, [some (.ref 0), some (.ref 1), some (.ref 138), some (.ref 187), some (.ref 188), some (.int a5), none, none], []) (hp N x) (cvMi N r)) {u1 u2 : Nat} (a5 : Int32) (hu1 : u1 + (2 + 4 * n) ≤ 601024) (hu2 : u2 + (12 + 24 * n) ≤ 7293034) (x : Hs) (r : Int32 × Hs) (h : gm214_1927 N k28 a5 x = some r) : Ev 214 (u1, u2) (1927, [some (.ref 0), some (.ref 1), some (.ref 138), some (.ref 187), some (.ref 188), some (.int a5), none, none], []) (hp N x) (cvMi N r) := by
  unfold gm214_1927 at h
  refine ev_run (n := 5) (u' := (u1, u2)) (f' := (1933, [some (.ref 0), some (.ref 1), some (.ref 138), some (.ref 187), some (.ref 188), some (.int a5), none, none], [.int (a5 + 1), .ref 0, .ref 1])) (h' := hp N x) rfl ?_
  obtain ⟨h374, h⟩ := cond_some h
  refine ev_iald rfl rfl h374 ?_
  refine ev_run (n := 1) (u' := (u1, u2)) (f' := (1935, [some (.ref 0), some (.ref 1), some (.ref 138), some (.ref 187), some (.ref 188), some (.int a5), none, none], [.ref 187, .int (x.1 0 (xi (a5 + 1))), .ref 1])) (h' := hp N x) rfl ?_
  obtain ⟨w375, h376, h⟩ := bind_ok h
  refine ev_call (v := some (.int w375.1)) (h1 := hp N w375.2) rfl rfl rfl (ok_u rfl (by show u1 + 2 ≤ 601024; omega) (by show u2 + 12 ≤ 7293034; omega)) (em208 (x.1 0 (xi (a5 + 1))) (by decide) (by decide) x _ h376) ?_
  show Ev 214 (u1 + 2, u2 + 12) (1938, [some (.ref 0), some (.ref 1), some (.ref 138), some (.ref 187), some (.ref 188), some (.int a5), none, none], [.int w375.1]) (hp N w375.2) _
  refine ev_run (n := 6) (u' := (u1 + 2, u2 + 12)) (f' := (1946, [some (.ref 0), some (.ref 1), some (.ref 138), some (.ref 187), some (.ref 188), some (.int a5), some (.int w375.1), none], [.int (a5 + 1), .ref 0, .ref 138])) (h' := hp N w375.2) rfl ?_
  obtain ⟨h377, h⟩ := cond_some h
  refine ev_iald rfl rfl h377 ?_
  obtain ⟨w378, h379, h⟩ := bind_ok h
  refine ev_call (v := some (.int w378.1)) (h1 := hp N w378.2) rfl rfl rfl (ok_u rfl (by show u1 + 2 + 0 ≤ 601024; omega) (by show u2 + 12 + 0 ≤ 7293034; omega)) (em167 (w375.2.1 0 (xi (a5 + 1))) w375.2 _ h379) ?_
  show Ev 214 (u1 + 2, u2 + 12) (1950, [some (.ref 0), some (.ref 1), some (.ref 138), some (.ref 187), some (.ref 188), some (.int a5), some (.int w375.1), none], [.int w378.1]) (hp N w378.2) _
  refine ev_run (n := 2) (u' := (u1 + 2, u2 + 12)) (f' := (1953, [some (.ref 0), some (.ref 1), some (.ref 138), some (.ref 187), some (.ref 188), some (.int a5), some (.int w375.1), some (.int w378.1)], [.ref 138])) (h' := hp N w378.2) rfl ?_
  obtain ⟨w380, h381, h⟩ := bind_ok h
  refine ev_call (v := some (.int w380)) (h1 := hp N w378.2) rfl rfl rfl (ok_u rfl (by show u1 + 2 + 0 ≤ 601024; omega) (by show u2 + 12 + 0 ≤ 7293034; omega)) (em112 w378.2 _ h381) ?_
  show Ev 214 (u1 + 2, u2 + 12) (1956, [some (.ref 0), some (.ref 1), some (.ref 138), some (.ref 187), some (.ref 188), some (.int a5), some (.int w375.1), some (.int w378.1)], [.int w380]) (hp N w378.2) _
  refine ev_run (n := 1) (u' := (u1 + 2, u2 + 12)) (f' := (1958, [some (.ref 0), some (.ref 1), some (.ref 138), some (.ref 187), some (.ref 188), some (.int a5), some (.int w375.1), some (.int w378.1)], [.int w375.1, .int w380])) (h' := hp N w378.2) rfl ?_
  rcases ite_or h with ⟨h385, h⟩ | ⟨h385, h⟩
  · refine ev_ict rfl (decide_eq_true h385) ?_
    refine ev_run (n := 1) (u' := (u1 + 2, u2 + 12)) (f' := (1965, [some (.ref 0), some (.ref 1), some (.ref 138), some (.ref 187), some (.ref 188), some (.int a5), some (.int w375.1), some (.int w378.1)], [.int w375.1])) (h' := hp N w378.2) rfl ?_
    rcases ite_or h with ⟨h384, h⟩ | ⟨h384, h⟩
    · refine ev_iff rfl (decide_eq_false (fun w => w h384)) ?_
      refine ev_run (n := 2) (u' := (u1 + 2, u2 + 12)) (f' := (1970, [some (.ref 0), some (.ref 1), some (.ref 138), some (.ref 187), some (.ref 188), some (.int a5), some (.int w375.1), some (.int w378.1)], [.int 0, .ref 187])) (h' := hp N w378.2) rfl ?_
      obtain ⟨h382, h⟩ := cond_some h
      refine ev_lald rfl rfl h382 ?_
      refine ev_run (n := 3) (u' := (u1 + 2, u2 + 12)) (f' := (1975, [some (.ref 0), some (.ref 1), some (.ref 138), some (.ref 187), some (.ref 188), some (.int a5), some (.int w375.1), some (.int w378.1)], [.int (lg_cmp (w378.2.2.1 187 (xi 0)) (Int32.toInt64 w378.1))])) (h' := hp N w378.2) rfl ?_
      rcases ite_or h with ⟨h383, h⟩ | ⟨h383, h⟩
      · refine ev_ift rfl (decide_eq_true h383) ?_
        exact em214_1980 k28 q28 a5 (by omega) (by omega) w378.2 _ h
      · refine ev_iff rfl (decide_eq_false h383) ?_
        refine ev_run (n := 1) (u' := (u1 + 2, u2 + 12)) (f' := (1979, [some (.ref 0), some (.ref 1), some (.ref 138), some (.ref 187), some (.ref 188), some (.int a5), some (.int w375.1), some (.int w378.1)], [.int 0])) (h' := hp N w378.2) rfl ?_
        cases h
        exact ev_iret rfl (end_u (by show _ ≤ 601024; omega) (by show _ ≤ 7293034; omega)) rfl (Or.inr ⟨rfl, rfl⟩)
    · refine ev_ift rfl (decide_eq_true h384) ?_
      exact em214_1980 k28 q28 a5 (by omega) (by omega) w378.2 _ h
  · refine ev_icf rfl (decide_eq_false h385) ?_
    refine ev_run (n := 1) (u' := (u1 + 2, u2 + 12)) (f' := (1962, [some (.ref 0), some (.ref 1), some (.ref 138), some (.ref 187), some (.ref 188), some (.int a5), some (.int w375.1), some (.int w378.1)], [.int 0])) (h' := hp N w378.2) rfl ?_
    cases h
    exact ev_iret rfl (end_u (by show _ ≤ 601024; omega) (by show _ ≤ 7293034; omega)) rfl (Or.inr ⟨rfl, rfl⟩)
def gm214_2060 (N : Nat) (k28 : Int32 → Hs → Option (Int32 × Hs)) (a5 : Int32) (x : Hs) : Option (Int32 × Hs) := gm214_2306 N k28 a5 x
theorem em214_2060 {N n : Nat} (k28 : Int32 → Hs → Option (Int32 × Hs)) (q28 : ∀ {u1 u2 : Nat} (a5 : Int32) (hu1 : u1 + (0 + 4 * n) ≤ 601024) (hu2 : u2 + (0 + 24 * n) ≤ 7293034) (x : Hs) (r : Int32 × Hs), k28 a5 x = some r → Ev 214 (u1, u2) (28, [some (.ref 0), some (.ref 1), some (.ref 138), some (.ref 187), some (.ref 188), some (.int a5), none, none], []) (hp N x) (cvMi N r)) {u1 u2 : Nat} (a5 : Int32) (hu1 : u1 + (0 + 4 * n) ≤ 601024) (hu2 : u2 + (0 + 24 * n) ≤ 7293034) (x : Hs) (r : Int32 × Hs) (h : gm214_2060 N k28 a5 x = some r) : Ev 214 (u1, u2) (2060, [some (.ref 0), some (.ref 1), some (.ref 138), some (.ref 187), some (.ref 188), some (.int a5), none, none], []) (hp N x) (cvMi N r) := by
  unfold gm214_2060 at h
  refine ev_run (n := 1) (u' := (u1, u2)) (f' := (2306, [some (.ref 0), some (.ref 1), some (.ref 138), some (.ref 187), some (.ref 188), some (.int a5), none, none], [])) (h' := hp N x) rfl ?_
  exact em214_2306 k28 q28 a5 (by omega) (by omega) x _ h
def gm214_1983 (N : Nat) (k28 : Int32 → Hs → Option (Int32 × Hs)) (a5 : Int32) (x : Hs) : Option (Int32 × Hs) := cond (aIn (a5 + 1) N) (cond (aIn (a5 + 2) N) (cond (aIn (a5 + 3) N) ((gm209 (x.1 0 (xi (a5 + 1))) (x.1 0 (xi (a5 + 2))) (x.1 0 (xi (a5 + 3))) x).bind fun w389 => (cond (aIn (a5 + 1) N) (cond (aIn (a5 + 2) N) (cond (aIn (a5 + 3) N) ((gm168 (w389.2.1 0 (xi (a5 + 1))) (w389.2.1 0 (xi (a5 + 2))) (w389.2.1 0 (xi (a5 + 3))) w389.2).bind fun w394 => ((gm112 w394.2).bind fun w396 => (if w396 = w389.1 then (if w389.1 = 0 then (cond (aIn 0 1) (if (lg_cmp (w394.2.2.1 187 (xi 0)) (Int32.toInt64 w394.1)) = 0 then (gm214_2060 N k28 a5 w394.2) else (some (0, w394.2))) none) else (gm214_2060 N k28 a5 w394.2)) else (some (0, w394.2))))) none) none) none)) none) none) none
theorem em214_1983 {N n : Nat} (k28 : Int32 → Hs → Option (Int32 × Hs)) (q28 : ∀ {u1 u2 : Nat} (a5 : Int32) (hu1 : u1 + (0 + 4 * n) ≤ 601024) (hu2 : u2 + (0 + 24 * n) ≤ 7293034) (x : Hs) (r : Int32 × Hs), k28 a5 x = some r → Ev 214 (u1, u2) (28, [some (.ref 0), some (.ref 1), some (.ref 138), some (.ref 187), some (.ref 188), some (.int a5), none, none], []) (hp N x) (cvMi N r)) {u1 u2 : Nat} (a5 : Int32) (hu1 : u1 + (3 + 4 * n) ≤ 601024) (hu2 : u2 + (18 + 24 * n) ≤ 7293034) (x : Hs) (r : Int32 × Hs) (h : gm214_1983 N k28 a5 x = some r) : Ev 214 (u1, u2) (1983, [some (.ref 0), some (.ref 1), some (.ref 138), some (.ref 187), some (.ref 188), some (.int a5), none, none], []) (hp N x) (cvMi N r) := by
  unfold gm214_1983 at h
  refine ev_run (n := 5) (u' := (u1, u2)) (f' := (1989, [some (.ref 0), some (.ref 1), some (.ref 138), some (.ref 187), some (.ref 188), some (.int a5), none, none], [.int (a5 + 1), .ref 0, .ref 1])) (h' := hp N x) rfl ?_
  obtain ⟨h386, h⟩ := cond_some h
  refine ev_iald rfl rfl h386 ?_
  refine ev_run (n := 4) (u' := (u1, u2)) (f' := (1995, [some (.ref 0), some (.ref 1), some (.ref 138), some (.ref 187), some (.ref 188), some (.int a5), none, none], [.int (a5 + 2), .ref 0, .int (x.1 0 (xi (a5 + 1))), .ref 1])) (h' := hp N x) rfl ?_
  obtain ⟨h387, h⟩ := cond_some h
  refine ev_iald rfl rfl h387 ?_
  refine ev_run (n := 4) (u' := (u1, u2)) (f' := (2001, [some (.ref 0), some (.ref 1), some (.ref 138), some (.ref 187), some (.ref 188), some (.int a5), none, none], [.int (a5 + 3), .ref 0, .int (x.1 0 (xi (a5 + 2))), .int (x.1 0 (xi (a5 + 1))), .ref 1])) (h' := hp N x) rfl ?_
  obtain ⟨h388, h⟩ := cond_some h
  refine ev_iald rfl rfl h388 ?_
  refine ev_run (n := 1) (u' := (u1, u2)) (f' := (2003, [some (.ref 0), some (.ref 1), some (.ref 138), some (.ref 187), some (.ref 188), some (.int a5), none, none], [.ref 187, .int (x.1 0 (xi (a5 + 3))), .int (x.1 0 (xi (a5 + 2))), .int (x.1 0 (xi (a5 + 1))), .ref 1])) (h' := hp N x) rfl ?_
  obtain ⟨w389, h390, h⟩ := bind_ok h
  refine ev_call (v := some (.int w389.1)) (h1 := hp N w389.2) rfl rfl rfl (ok_u rfl (by show u1 + 3 ≤ 601024; omega) (by show u2 + 18 ≤ 7293034; omega)) (em209 (x.1 0 (xi (a5 + 1))) (x.1 0 (xi (a5 + 2))) (x.1 0 (xi (a5 + 3))) (by decide) (by decide) x _ h390) ?_
  show Ev 214 (u1 + 3, u2 + 18) (2006, [some (.ref 0), some (.ref 1), some (.ref 138), some (.ref 187), some (.ref 188), some (.int a5), none, none], [.int w389.1]) (hp N w389.2) _
  refine ev_run (n := 6) (u' := (u1 + 3, u2 + 18)) (f' := (2014, [some (.ref 0), some (.ref 1), some (.ref 138), some (.ref 187), some (.ref 188), some (.int a5), some (.int w389.1), none], [.int (a5 + 1), .ref 0, .ref 138])) (h' := hp N w389.2) rfl ?_
  obtain ⟨h391, h⟩ := cond_some h
  refine ev_iald rfl rfl h391 ?_
  refine ev_run (n := 4) (u' := (u1 + 3, u2 + 18)) (f' := (2020, [some (.ref 0), some (.ref 1), some (.ref 138), some (.ref 187), some (.ref 188), some (.int a5), some (.int w389.1), none], [.int (a5 + 2), .ref 0, .int (w389.2.1 0 (xi (a5 + 1))), .ref 138])) (h' := hp N w389.2) rfl ?_
  obtain ⟨h392, h⟩ := cond_some h
  refine ev_iald rfl rfl h392 ?_
  refine ev_run (n := 4) (u' := (u1 + 3, u2 + 18)) (f' := (2026, [some (.ref 0), some (.ref 1), some (.ref 138), some (.ref 187), some (.ref 188), some (.int a5), some (.int w389.1), none], [.int (a5 + 3), .ref 0, .int (w389.2.1 0 (xi (a5 + 2))), .int (w389.2.1 0 (xi (a5 + 1))), .ref 138])) (h' := hp N w389.2) rfl ?_
  obtain ⟨h393, h⟩ := cond_some h
  refine ev_iald rfl rfl h393 ?_
  obtain ⟨w394, h395, h⟩ := bind_ok h
  refine ev_call (v := some (.int w394.1)) (h1 := hp N w394.2) rfl rfl rfl (ok_u rfl (by show u1 + 3 + 0 ≤ 601024; omega) (by show u2 + 18 + 0 ≤ 7293034; omega)) (em168 (w389.2.1 0 (xi (a5 + 1))) (w389.2.1 0 (xi (a5 + 2))) (w389.2.1 0 (xi (a5 + 3))) w389.2 _ h395) ?_
  show Ev 214 (u1 + 3, u2 + 18) (2030, [some (.ref 0), some (.ref 1), some (.ref 138), some (.ref 187), some (.ref 188), some (.int a5), some (.int w389.1), none], [.int w394.1]) (hp N w394.2) _
  refine ev_run (n := 2) (u' := (u1 + 3, u2 + 18)) (f' := (2033, [some (.ref 0), some (.ref 1), some (.ref 138), some (.ref 187), some (.ref 188), some (.int a5), some (.int w389.1), some (.int w394.1)], [.ref 138])) (h' := hp N w394.2) rfl ?_
  obtain ⟨w396, h397, h⟩ := bind_ok h
  refine ev_call (v := some (.int w396)) (h1 := hp N w394.2) rfl rfl rfl (ok_u rfl (by show u1 + 3 + 0 ≤ 601024; omega) (by show u2 + 18 + 0 ≤ 7293034; omega)) (em112 w394.2 _ h397) ?_
  show Ev 214 (u1 + 3, u2 + 18) (2036, [some (.ref 0), some (.ref 1), some (.ref 138), some (.ref 187), some (.ref 188), some (.int a5), some (.int w389.1), some (.int w394.1)], [.int w396]) (hp N w394.2) _
  refine ev_run (n := 1) (u' := (u1 + 3, u2 + 18)) (f' := (2038, [some (.ref 0), some (.ref 1), some (.ref 138), some (.ref 187), some (.ref 188), some (.int a5), some (.int w389.1), some (.int w394.1)], [.int w389.1, .int w396])) (h' := hp N w394.2) rfl ?_
  rcases ite_or h with ⟨h401, h⟩ | ⟨h401, h⟩
  · refine ev_ict rfl (decide_eq_true h401) ?_
    refine ev_run (n := 1) (u' := (u1 + 3, u2 + 18)) (f' := (2045, [some (.ref 0), some (.ref 1), some (.ref 138), some (.ref 187), some (.ref 188), some (.int a5), some (.int w389.1), some (.int w394.1)], [.int w389.1])) (h' := hp N w394.2) rfl ?_
    rcases ite_or h with ⟨h400, h⟩ | ⟨h400, h⟩
    · refine ev_iff rfl (decide_eq_false (fun w => w h400)) ?_
      refine ev_run (n := 2) (u' := (u1 + 3, u2 + 18)) (f' := (2050, [some (.ref 0), some (.ref 1), some (.ref 138), some (.ref 187), some (.ref 188), some (.int a5), some (.int w389.1), some (.int w394.1)], [.int 0, .ref 187])) (h' := hp N w394.2) rfl ?_
      obtain ⟨h398, h⟩ := cond_some h
      refine ev_lald rfl rfl h398 ?_
      refine ev_run (n := 3) (u' := (u1 + 3, u2 + 18)) (f' := (2055, [some (.ref 0), some (.ref 1), some (.ref 138), some (.ref 187), some (.ref 188), some (.int a5), some (.int w389.1), some (.int w394.1)], [.int (lg_cmp (w394.2.2.1 187 (xi 0)) (Int32.toInt64 w394.1))])) (h' := hp N w394.2) rfl ?_
      rcases ite_or h with ⟨h399, h⟩ | ⟨h399, h⟩
      · refine ev_ift rfl (decide_eq_true h399) ?_
        exact em214_2060 k28 q28 a5 (by omega) (by omega) w394.2 _ h
      · refine ev_iff rfl (decide_eq_false h399) ?_
        refine ev_run (n := 1) (u' := (u1 + 3, u2 + 18)) (f' := (2059, [some (.ref 0), some (.ref 1), some (.ref 138), some (.ref 187), some (.ref 188), some (.int a5), some (.int w389.1), some (.int w394.1)], [.int 0])) (h' := hp N w394.2) rfl ?_
        cases h
        exact ev_iret rfl (end_u (by show _ ≤ 601024; omega) (by show _ ≤ 7293034; omega)) rfl (Or.inr ⟨rfl, rfl⟩)
    · refine ev_ift rfl (decide_eq_true h400) ?_
      exact em214_2060 k28 q28 a5 (by omega) (by omega) w394.2 _ h
  · refine ev_icf rfl (decide_eq_false h401) ?_
    refine ev_run (n := 1) (u' := (u1 + 3, u2 + 18)) (f' := (2042, [some (.ref 0), some (.ref 1), some (.ref 138), some (.ref 187), some (.ref 188), some (.int a5), some (.int w389.1), some (.int w394.1)], [.int 0])) (h' := hp N w394.2) rfl ?_
    cases h
    exact ev_iret rfl (end_u (by show _ ≤ 601024; omega) (by show _ ≤ 7293034; omega)) rfl (Or.inr ⟨rfl, rfl⟩)
def gm214_2123 (N : Nat) (k28 : Int32 → Hs → Option (Int32 × Hs)) (a5 : Int32) (x : Hs) : Option (Int32 × Hs) := gm214_2306 N k28 a5 x
theorem em214_2123 {N n : Nat} (k28 : Int32 → Hs → Option (Int32 × Hs)) (q28 : ∀ {u1 u2 : Nat} (a5 : Int32) (hu1 : u1 + (0 + 4 * n) ≤ 601024) (hu2 : u2 + (0 + 24 * n) ≤ 7293034) (x : Hs) (r : Int32 × Hs), k28 a5 x = some r → Ev 214 (u1, u2) (28, [some (.ref 0), some (.ref 1), some (.ref 138), some (.ref 187), some (.ref 188), some (.int a5), none, none], []) (hp N x) (cvMi N r)) {u1 u2 : Nat} (a5 : Int32) (hu1 : u1 + (0 + 4 * n) ≤ 601024) (hu2 : u2 + (0 + 24 * n) ≤ 7293034) (x : Hs) (r : Int32 × Hs) (h : gm214_2123 N k28 a5 x = some r) : Ev 214 (u1, u2) (2123, [some (.ref 0), some (.ref 1), some (.ref 138), some (.ref 187), some (.ref 188), some (.int a5), none, none], []) (hp N x) (cvMi N r) := by
  unfold gm214_2123 at h
  refine ev_run (n := 1) (u' := (u1, u2)) (f' := (2306, [some (.ref 0), some (.ref 1), some (.ref 138), some (.ref 187), some (.ref 188), some (.int a5), none, none], [])) (h' := hp N x) rfl ?_
  exact em214_2306 k28 q28 a5 (by omega) (by omega) x _ h
def gm214_2117 (N : Nat) (k28 : Int32 → Hs → Option (Int32 × Hs)) (a5 : Int32) (s0 : Int64) (s1 : Int64) (x : Hs) : Option (Int32 × Hs) := if (lg_cmp s0 s1) = 0 then (gm214_2123 N k28 a5 x) else (some (0, x))
theorem em214_2117 {N n : Nat} (k28 : Int32 → Hs → Option (Int32 × Hs)) (q28 : ∀ {u1 u2 : Nat} (a5 : Int32) (hu1 : u1 + (0 + 4 * n) ≤ 601024) (hu2 : u2 + (0 + 24 * n) ≤ 7293034) (x : Hs) (r : Int32 × Hs), k28 a5 x = some r → Ev 214 (u1, u2) (28, [some (.ref 0), some (.ref 1), some (.ref 138), some (.ref 187), some (.ref 188), some (.int a5), none, none], []) (hp N x) (cvMi N r)) {u1 u2 : Nat} (a5 : Int32) (s0 : Int64) (s1 : Int64) (hu1 : u1 + (0 + 4 * n) ≤ 601024) (hu2 : u2 + (0 + 24 * n) ≤ 7293034) (x : Hs) (r : Int32 × Hs) (h : gm214_2117 N k28 a5 s0 s1 x = some r) : Ev 214 (u1, u2) (2117, [some (.ref 0), some (.ref 1), some (.ref 138), some (.ref 187), some (.ref 188), some (.int a5), none, none], [.long s1, .long s0]) (hp N x) (cvMi N r) := by
  unfold gm214_2117 at h
  refine ev_run (n := 1) (u' := (u1, u2)) (f' := (2118, [some (.ref 0), some (.ref 1), some (.ref 138), some (.ref 187), some (.ref 188), some (.int a5), none, none], [.int (lg_cmp s0 s1)])) (h' := hp N x) rfl ?_
  rcases ite_or h with ⟨h463, h⟩ | ⟨h463, h⟩
  · refine ev_ift rfl (decide_eq_true h463) ?_
    exact em214_2123 k28 q28 a5 (by omega) (by omega) x _ h
  · refine ev_iff rfl (decide_eq_false h463) ?_
    refine ev_run (n := 1) (u' := (u1, u2)) (f' := (2122, [some (.ref 0), some (.ref 1), some (.ref 138), some (.ref 187), some (.ref 188), some (.int a5), none, none], [.int 0])) (h' := hp N x) rfl ?_
    cases h
    exact ev_iret rfl (end_u (by show _ ≤ 601024; omega) (by show _ ≤ 7293034; omega)) rfl (Or.inr ⟨rfl, rfl⟩)
def gm214_2063 (N : Nat) (k28 : Int32 → Hs → Option (Int32 × Hs)) (a5 : Int32) (x : Hs) : Option (Int32 × Hs) := cond (aIn (a5 + 1) N) ((gm210 (x.1 0 (xi (a5 + 1))) x).bind fun w403 => (cond (aIn (a5 + 1) N) ((gm169 (w403.2.1 0 (xi (a5 + 1))) w403.2).bind fun w406 => ((gm112 w406.2).bind fun w408 => (if w408 = w403.1 then (if w403.1 = 0 then (cond (aIn 0 1) (if w406.1 = 0 then (gm214_2117 N k28 a5 (w406.2.2.1 187 (xi 0)) 0 w406.2) else (gm214_2117 N k28 a5 (w406.2.2.1 187 (xi 0)) 1 w406.2)) none) else (gm214_2123 N k28 a5 w406.2)) else (some (0, w406.2))))) none)) none
theorem em214_2063 {N n : Nat} (k28 : Int32 → Hs → Option (Int32 × Hs)) (q28 : ∀ {u1 u2 : Nat} (a5 : Int32) (hu1 : u1 + (0 + 4 * n) ≤ 601024) (hu2 : u2 + (0 + 24 * n) ≤ 7293034) (x : Hs) (r : Int32 × Hs), k28 a5 x = some r → Ev 214 (u1, u2) (28, [some (.ref 0), some (.ref 1), some (.ref 138), some (.ref 187), some (.ref 188), some (.int a5), none, none], []) (hp N x) (cvMi N r)) {u1 u2 : Nat} (a5 : Int32) (hu1 : u1 + (1 + 4 * n) ≤ 601024) (hu2 : u2 + (6 + 24 * n) ≤ 7293034) (x : Hs) (r : Int32 × Hs) (h : gm214_2063 N k28 a5 x = some r) : Ev 214 (u1, u2) (2063, [some (.ref 0), some (.ref 1), some (.ref 138), some (.ref 187), some (.ref 188), some (.int a5), none, none], []) (hp N x) (cvMi N r) := by
  unfold gm214_2063 at h
  refine ev_run (n := 5) (u' := (u1, u2)) (f' := (2069, [some (.ref 0), some (.ref 1), some (.ref 138), some (.ref 187), some (.ref 188), some (.int a5), none, none], [.int (a5 + 1), .ref 0, .ref 1])) (h' := hp N x) rfl ?_
  obtain ⟨h402, h⟩ := cond_some h
  refine ev_iald rfl rfl h402 ?_
  refine ev_run (n := 1) (u' := (u1, u2)) (f' := (2071, [some (.ref 0), some (.ref 1), some (.ref 138), some (.ref 187), some (.ref 188), some (.int a5), none, none], [.ref 187, .int (x.1 0 (xi (a5 + 1))), .ref 1])) (h' := hp N x) rfl ?_
  obtain ⟨w403, h404, h⟩ := bind_ok h
  refine ev_call (v := some (.int w403.1)) (h1 := hp N w403.2) rfl rfl rfl (ok_u rfl (by show u1 + 1 ≤ 601024; omega) (by show u2 + 6 ≤ 7293034; omega)) (em210 (x.1 0 (xi (a5 + 1))) (by decide) (by decide) x _ h404) ?_
  show Ev 214 (u1 + 1, u2 + 6) (2074, [some (.ref 0), some (.ref 1), some (.ref 138), some (.ref 187), some (.ref 188), some (.int a5), none, none], [.int w403.1]) (hp N w403.2) _
  refine ev_run (n := 6) (u' := (u1 + 1, u2 + 6)) (f' := (2082, [some (.ref 0), some (.ref 1), some (.ref 138), some (.ref 187), some (.ref 188), some (.int a5), some (.int w403.1), none], [.int (a5 + 1), .ref 0, .ref 138])) (h' := hp N w403.2) rfl ?_
  obtain ⟨h405, h⟩ := cond_some h
  refine ev_iald rfl rfl h405 ?_
  obtain ⟨w406, h407, h⟩ := bind_ok h
  refine ev_call (v := some (.int w406.1)) (h1 := hp N w406.2) rfl rfl rfl (ok_u rfl (by show u1 + 1 + 0 ≤ 601024; omega) (by show u2 + 6 + 0 ≤ 7293034; omega)) (em169 (w403.2.1 0 (xi (a5 + 1))) w403.2 _ h407) ?_
  show Ev 214 (u1 + 1, u2 + 6) (2086, [some (.ref 0), some (.ref 1), some (.ref 138), some (.ref 187), some (.ref 188), some (.int a5), some (.int w403.1), none], [.int w406.1]) (hp N w406.2) _
  refine ev_run (n := 2) (u' := (u1 + 1, u2 + 6)) (f' := (2089, [some (.ref 0), some (.ref 1), some (.ref 138), some (.ref 187), some (.ref 188), some (.int a5), some (.int w403.1), some (.int w406.1)], [.ref 138])) (h' := hp N w406.2) rfl ?_
  obtain ⟨w408, h409, h⟩ := bind_ok h
  refine ev_call (v := some (.int w408)) (h1 := hp N w406.2) rfl rfl rfl (ok_u rfl (by show u1 + 1 + 0 ≤ 601024; omega) (by show u2 + 6 + 0 ≤ 7293034; omega)) (em112 w406.2 _ h409) ?_
  show Ev 214 (u1 + 1, u2 + 6) (2092, [some (.ref 0), some (.ref 1), some (.ref 138), some (.ref 187), some (.ref 188), some (.int a5), some (.int w403.1), some (.int w406.1)], [.int w408]) (hp N w406.2) _
  refine ev_run (n := 1) (u' := (u1 + 1, u2 + 6)) (f' := (2094, [some (.ref 0), some (.ref 1), some (.ref 138), some (.ref 187), some (.ref 188), some (.int a5), some (.int w403.1), some (.int w406.1)], [.int w403.1, .int w408])) (h' := hp N w406.2) rfl ?_
  rcases ite_or h with ⟨h413, h⟩ | ⟨h413, h⟩
  · refine ev_ict rfl (decide_eq_true h413) ?_
    refine ev_run (n := 1) (u' := (u1 + 1, u2 + 6)) (f' := (2101, [some (.ref 0), some (.ref 1), some (.ref 138), some (.ref 187), some (.ref 188), some (.int a5), some (.int w403.1), some (.int w406.1)], [.int w403.1])) (h' := hp N w406.2) rfl ?_
    rcases ite_or h with ⟨h412, h⟩ | ⟨h412, h⟩
    · refine ev_iff rfl (decide_eq_false (fun w => w h412)) ?_
      refine ev_run (n := 2) (u' := (u1 + 1, u2 + 6)) (f' := (2106, [some (.ref 0), some (.ref 1), some (.ref 138), some (.ref 187), some (.ref 188), some (.int a5), some (.int w403.1), some (.int w406.1)], [.int 0, .ref 187])) (h' := hp N w406.2) rfl ?_
      obtain ⟨h410, h⟩ := cond_some h
      refine ev_lald rfl rfl h410 ?_
      refine ev_run (n := 1) (u' := (u1 + 1, u2 + 6)) (f' := (2109, [some (.ref 0), some (.ref 1), some (.ref 138), some (.ref 187), some (.ref 188), some (.int a5), some (.int w403.1), some (.int w406.1)], [.int w406.1, .long (w406.2.2.1 187 (xi 0))])) (h' := hp N w406.2) rfl ?_
      rcases ite_or h with ⟨h411, h⟩ | ⟨h411, h⟩
      · refine ev_ift rfl (decide_eq_true h411) ?_
        refine ev_run (n := 1) (u' := (u1 + 1, u2 + 6)) (f' := (2117, [some (.ref 0), some (.ref 1), some (.ref 138), some (.ref 187), some (.ref 188), some (.int a5), none, none], [.long 0, .long (w406.2.2.1 187 (xi 0))])) (h' := hp N w406.2) rfl ?_
        exact em214_2117 k28 q28 a5 (w406.2.2.1 187 (xi 0)) 0 (by omega) (by omega) w406.2 _ h
      · refine ev_iff rfl (decide_eq_false h411) ?_
        refine ev_run (n := 2) (u' := (u1 + 1, u2 + 6)) (f' := (2117, [some (.ref 0), some (.ref 1), some (.ref 138), some (.ref 187), some (.ref 188), some (.int a5), none, none], [.long 1, .long (w406.2.2.1 187 (xi 0))])) (h' := hp N w406.2) rfl ?_
        exact em214_2117 k28 q28 a5 (w406.2.2.1 187 (xi 0)) 1 (by omega) (by omega) w406.2 _ h
    · refine ev_ift rfl (decide_eq_true h412) ?_
      exact em214_2123 k28 q28 a5 (by omega) (by omega) w406.2 _ h
  · refine ev_icf rfl (decide_eq_false h413) ?_
    refine ev_run (n := 1) (u' := (u1 + 1, u2 + 6)) (f' := (2098, [some (.ref 0), some (.ref 1), some (.ref 138), some (.ref 187), some (.ref 188), some (.int a5), some (.int w403.1), some (.int w406.1)], [.int 0])) (h' := hp N w406.2) rfl ?_
    cases h
    exact ev_iret rfl (end_u (by show _ ≤ 601024; omega) (by show _ ≤ 7293034; omega)) rfl (Or.inr ⟨rfl, rfl⟩)
def gm214_2179 (N : Nat) (k28 : Int32 → Hs → Option (Int32 × Hs)) (a5 : Int32) (x : Hs) : Option (Int32 × Hs) := gm214_2306 N k28 a5 x
theorem em214_2179 {N n : Nat} (k28 : Int32 → Hs → Option (Int32 × Hs)) (q28 : ∀ {u1 u2 : Nat} (a5 : Int32) (hu1 : u1 + (0 + 4 * n) ≤ 601024) (hu2 : u2 + (0 + 24 * n) ≤ 7293034) (x : Hs) (r : Int32 × Hs), k28 a5 x = some r → Ev 214 (u1, u2) (28, [some (.ref 0), some (.ref 1), some (.ref 138), some (.ref 187), some (.ref 188), some (.int a5), none, none], []) (hp N x) (cvMi N r)) {u1 u2 : Nat} (a5 : Int32) (hu1 : u1 + (0 + 4 * n) ≤ 601024) (hu2 : u2 + (0 + 24 * n) ≤ 7293034) (x : Hs) (r : Int32 × Hs) (h : gm214_2179 N k28 a5 x = some r) : Ev 214 (u1, u2) (2179, [some (.ref 0), some (.ref 1), some (.ref 138), some (.ref 187), some (.ref 188), some (.int a5), none, none], []) (hp N x) (cvMi N r) := by
  unfold gm214_2179 at h
  refine ev_run (n := 1) (u' := (u1, u2)) (f' := (2306, [some (.ref 0), some (.ref 1), some (.ref 138), some (.ref 187), some (.ref 188), some (.int a5), none, none], [])) (h' := hp N x) rfl ?_
  exact em214_2306 k28 q28 a5 (by omega) (by omega) x _ h
def gm214_2126 (N : Nat) (k28 : Int32 → Hs → Option (Int32 × Hs)) (a5 : Int32) (x : Hs) : Option (Int32 × Hs) := cond (aIn (a5 + 1) N) ((gm211 (x.1 0 (xi (a5 + 1))) x).bind fun w415 => (cond (aIn (a5 + 1) N) ((gm170 (w415.2.1 0 (xi (a5 + 1))) w415.2).bind fun w418 => ((gm112 w418.2).bind fun w420 => (if w420 = w415.1 then (if w415.1 = 0 then (cond (aIn 0 1) (if (lg_cmp (w418.2.2.1 187 (xi 0)) (Int32.toInt64 w418.1)) = 0 then (gm214_2179 N k28 a5 w418.2) else (some (0, w418.2))) none) else (gm214_2179 N k28 a5 w418.2)) else (some (0, w418.2))))) none)) none
theorem em214_2126 {N n : Nat} (k28 : Int32 → Hs → Option (Int32 × Hs)) (q28 : ∀ {u1 u2 : Nat} (a5 : Int32) (hu1 : u1 + (0 + 4 * n) ≤ 601024) (hu2 : u2 + (0 + 24 * n) ≤ 7293034) (x : Hs) (r : Int32 × Hs), k28 a5 x = some r → Ev 214 (u1, u2) (28, [some (.ref 0), some (.ref 1), some (.ref 138), some (.ref 187), some (.ref 188), some (.int a5), none, none], []) (hp N x) (cvMi N r)) {u1 u2 : Nat} (a5 : Int32) (hu1 : u1 + (1 + 4 * n) ≤ 601024) (hu2 : u2 + (6 + 24 * n) ≤ 7293034) (x : Hs) (r : Int32 × Hs) (h : gm214_2126 N k28 a5 x = some r) : Ev 214 (u1, u2) (2126, [some (.ref 0), some (.ref 1), some (.ref 138), some (.ref 187), some (.ref 188), some (.int a5), none, none], []) (hp N x) (cvMi N r) := by
  unfold gm214_2126 at h
  refine ev_run (n := 5) (u' := (u1, u2)) (f' := (2132, [some (.ref 0), some (.ref 1), some (.ref 138), some (.ref 187), some (.ref 188), some (.int a5), none, none], [.int (a5 + 1), .ref 0, .ref 1])) (h' := hp N x) rfl ?_
  obtain ⟨h414, h⟩ := cond_some h
  refine ev_iald rfl rfl h414 ?_
  refine ev_run (n := 1) (u' := (u1, u2)) (f' := (2134, [some (.ref 0), some (.ref 1), some (.ref 138), some (.ref 187), some (.ref 188), some (.int a5), none, none], [.ref 187, .int (x.1 0 (xi (a5 + 1))), .ref 1])) (h' := hp N x) rfl ?_
  obtain ⟨w415, h416, h⟩ := bind_ok h
  refine ev_call (v := some (.int w415.1)) (h1 := hp N w415.2) rfl rfl rfl (ok_u rfl (by show u1 + 1 ≤ 601024; omega) (by show u2 + 6 ≤ 7293034; omega)) (em211 (x.1 0 (xi (a5 + 1))) (by decide) (by decide) x _ h416) ?_
  show Ev 214 (u1 + 1, u2 + 6) (2137, [some (.ref 0), some (.ref 1), some (.ref 138), some (.ref 187), some (.ref 188), some (.int a5), none, none], [.int w415.1]) (hp N w415.2) _
  refine ev_run (n := 6) (u' := (u1 + 1, u2 + 6)) (f' := (2145, [some (.ref 0), some (.ref 1), some (.ref 138), some (.ref 187), some (.ref 188), some (.int a5), some (.int w415.1), none], [.int (a5 + 1), .ref 0, .ref 138])) (h' := hp N w415.2) rfl ?_
  obtain ⟨h417, h⟩ := cond_some h
  refine ev_iald rfl rfl h417 ?_
  obtain ⟨w418, h419, h⟩ := bind_ok h
  refine ev_call (v := some (.int w418.1)) (h1 := hp N w418.2) rfl rfl rfl (ok_u rfl (by show u1 + 1 + 0 ≤ 601024; omega) (by show u2 + 6 + 0 ≤ 7293034; omega)) (em170 (w415.2.1 0 (xi (a5 + 1))) w415.2 _ h419) ?_
  show Ev 214 (u1 + 1, u2 + 6) (2149, [some (.ref 0), some (.ref 1), some (.ref 138), some (.ref 187), some (.ref 188), some (.int a5), some (.int w415.1), none], [.int w418.1]) (hp N w418.2) _
  refine ev_run (n := 2) (u' := (u1 + 1, u2 + 6)) (f' := (2152, [some (.ref 0), some (.ref 1), some (.ref 138), some (.ref 187), some (.ref 188), some (.int a5), some (.int w415.1), some (.int w418.1)], [.ref 138])) (h' := hp N w418.2) rfl ?_
  obtain ⟨w420, h421, h⟩ := bind_ok h
  refine ev_call (v := some (.int w420)) (h1 := hp N w418.2) rfl rfl rfl (ok_u rfl (by show u1 + 1 + 0 ≤ 601024; omega) (by show u2 + 6 + 0 ≤ 7293034; omega)) (em112 w418.2 _ h421) ?_
  show Ev 214 (u1 + 1, u2 + 6) (2155, [some (.ref 0), some (.ref 1), some (.ref 138), some (.ref 187), some (.ref 188), some (.int a5), some (.int w415.1), some (.int w418.1)], [.int w420]) (hp N w418.2) _
  refine ev_run (n := 1) (u' := (u1 + 1, u2 + 6)) (f' := (2157, [some (.ref 0), some (.ref 1), some (.ref 138), some (.ref 187), some (.ref 188), some (.int a5), some (.int w415.1), some (.int w418.1)], [.int w415.1, .int w420])) (h' := hp N w418.2) rfl ?_
  rcases ite_or h with ⟨h425, h⟩ | ⟨h425, h⟩
  · refine ev_ict rfl (decide_eq_true h425) ?_
    refine ev_run (n := 1) (u' := (u1 + 1, u2 + 6)) (f' := (2164, [some (.ref 0), some (.ref 1), some (.ref 138), some (.ref 187), some (.ref 188), some (.int a5), some (.int w415.1), some (.int w418.1)], [.int w415.1])) (h' := hp N w418.2) rfl ?_
    rcases ite_or h with ⟨h424, h⟩ | ⟨h424, h⟩
    · refine ev_iff rfl (decide_eq_false (fun w => w h424)) ?_
      refine ev_run (n := 2) (u' := (u1 + 1, u2 + 6)) (f' := (2169, [some (.ref 0), some (.ref 1), some (.ref 138), some (.ref 187), some (.ref 188), some (.int a5), some (.int w415.1), some (.int w418.1)], [.int 0, .ref 187])) (h' := hp N w418.2) rfl ?_
      obtain ⟨h422, h⟩ := cond_some h
      refine ev_lald rfl rfl h422 ?_
      refine ev_run (n := 3) (u' := (u1 + 1, u2 + 6)) (f' := (2174, [some (.ref 0), some (.ref 1), some (.ref 138), some (.ref 187), some (.ref 188), some (.int a5), some (.int w415.1), some (.int w418.1)], [.int (lg_cmp (w418.2.2.1 187 (xi 0)) (Int32.toInt64 w418.1))])) (h' := hp N w418.2) rfl ?_
      rcases ite_or h with ⟨h423, h⟩ | ⟨h423, h⟩
      · refine ev_ift rfl (decide_eq_true h423) ?_
        exact em214_2179 k28 q28 a5 (by omega) (by omega) w418.2 _ h
      · refine ev_iff rfl (decide_eq_false h423) ?_
        refine ev_run (n := 1) (u' := (u1 + 1, u2 + 6)) (f' := (2178, [some (.ref 0), some (.ref 1), some (.ref 138), some (.ref 187), some (.ref 188), some (.int a5), some (.int w415.1), some (.int w418.1)], [.int 0])) (h' := hp N w418.2) rfl ?_
        cases h
        exact ev_iret rfl (end_u (by show _ ≤ 601024; omega) (by show _ ≤ 7293034; omega)) rfl (Or.inr ⟨rfl, rfl⟩)
    · refine ev_ift rfl (decide_eq_true h424) ?_
      exact em214_2179 k28 q28 a5 (by omega) (by omega) w418.2 _ h
  · refine ev_icf rfl (decide_eq_false h425) ?_
    refine ev_run (n := 1) (u' := (u1 + 1, u2 + 6)) (f' := (2161, [some (.ref 0), some (.ref 1), some (.ref 138), some (.ref 187), some (.ref 188), some (.int a5), some (.int w415.1), some (.int w418.1)], [.int 0])) (h' := hp N w418.2) rfl ?_
    cases h
    exact ev_iret rfl (end_u (by show _ ≤ 601024; omega) (by show _ ≤ 7293034; omega)) rfl (Or.inr ⟨rfl, rfl⟩)
