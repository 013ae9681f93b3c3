/-! The law's loop as functions; printed by dec_law.py -/
def gm214_2247 (N : Nat) (k28 : Int32 → Hs → Option (Int32 × Hs)) (a5 : Int32) (x : Hs) : Option (Int32 × Hs) := gm214_2306 N k28 a5 x
theorem em214_2247 {N n : Nat} (k28 : Int32 → Hs → Option (Int32 × Hs)) (q28 : ∀ {u1 u2 : Nat} (a5 : Int32) (hu1 : u1 + (0 + 4 * n) ≤ 601024) (hu2 : u2 + (0 + 24 * n) ≤ 7293034) (x : Hs) (r : Int32 × Hs), k28 a5 x = some r → Ev 214 (u1, u2) (28, [some (.ref 0), some (.ref 1), some (.ref 138), some (.ref 187), some (.ref 188), some (.int a5), none, none], []) (hp N x) (cvMi N r)) {u1 u2 : Nat} (a5 : Int32) (hu1 : u1 + (0 + 4 * n) ≤ 601024) (hu2 : u2 + (0 + 24 * n) ≤ 7293034) (x : Hs) (r : Int32 × Hs) (h : gm214_2247 N k28 a5 x = some r) : Ev 214 (u1, u2) (2247, [some (.ref 0), some (.ref 1), some (.ref 138), some (.ref 187), some (.ref 188), some (.int a5), none, none], []) (hp N x) (cvMi N r) := by
  unfold gm214_2247 at h
  refine ev_run (n := 1) (u' := (u1, u2)) (f' := (2306, [some (.ref 0), some (.ref 1), some (.ref 138), some (.ref 187), some (.ref 188), some (.int a5), none, none], [])) (h' := hp N x) rfl ?_
  exact em214_2306 k28 q28 a5 (by omega) (by omega) x _ h
def gm214_2182 (N : Nat) (k28 : Int32 → Hs → Option (Int32 × Hs)) (a5 : Int32) (x : Hs) : Option (Int32 × Hs) := cond (aIn (a5 + 1) N) (cond (aIn (a5 + 2) N) ((gm212 (x.1 0 (xi (a5 + 1))) (x.1 0 (xi (a5 + 2))) x).bind fun w428 => (cond (aIn (a5 + 1) N) (cond (aIn (a5 + 2) N) ((gm177 (w428.2.1 0 (xi (a5 + 1))) (w428.2.1 0 (xi (a5 + 2))) w428.2).bind fun w432 => ((gm112 w432.2).bind fun w434 => (if w434 = w428.1 then (if w428.1 = 0 then (cond (aIn 0 1) (if (lg_cmp (w432.2.2.1 187 (xi 0)) (Int32.toInt64 w432.1)) = 0 then (gm214_2247 N k28 a5 w432.2) else (some (0, w432.2))) none) else (gm214_2247 N k28 a5 w432.2)) else (some (0, w432.2))))) none) none)) none) none
theorem em214_2182 {N n : Nat} (k28 : Int32 → Hs → Option (Int32 × Hs)) (q28 : ∀ {u1 u2 : Nat} (a5 : Int32) (hu1 : u1 + (0 + 4 * n) ≤ 601024) (hu2 : u2 + (0 + 24 * n) ≤ 7293034) (x : Hs) (r : Int32 × Hs), k28 a5 x = some r → Ev 214 (u1, u2) (28, [some (.ref 0), some (.ref 1), some (.ref 138), some (.ref 187), some (.ref 188), some (.int a5), none, none], []) (hp N x) (cvMi N r)) {u1 u2 : Nat} (a5 : Int32) (hu1 : u1 + (2 + 4 * n) ≤ 601024) (hu2 : u2 + (12 + 24 * n) ≤ 7293034) (x : Hs) (r : Int32 × Hs) (h : gm214_2182 N k28 a5 x = some r) : Ev 214 (u1, u2) (2182, [some (.ref 0), some (.ref 1), some (.ref 138), some (.ref 187), some (.ref 188), some (.int a5), none, none], []) (hp N x) (cvMi N r) := by
  unfold gm214_2182 at h
  refine ev_run (n := 5) (u' := (u1, u2)) (f' := (2188, [some (.ref 0), some (.ref 1), some (.ref 138), some (.ref 187), some (.ref 188), some (.int a5), none, none], [.int (a5 + 1), .ref 0, .ref 1])) (h' := hp N x) rfl ?_
  obtain ⟨h426, h⟩ := cond_some h
  refine ev_iald rfl rfl h426 ?_
  refine ev_run (n := 4) (u' := (u1, u2)) (f' := (2194, [some (.ref 0), some (.ref 1), some (.ref 138), some (.ref 187), some (.ref 188), some (.int a5), none, none], [.int (a5 + 2), .ref 0, .int (x.1 0 (xi (a5 + 1))), .ref 1])) (h' := hp N x) rfl ?_
  obtain ⟨h427, h⟩ := cond_some h
  refine ev_iald rfl rfl h427 ?_
  refine ev_run (n := 1) (u' := (u1, u2)) (f' := (2196, [some (.ref 0), some (.ref 1), some (.ref 138), some (.ref 187), some (.ref 188), some (.int a5), none, none], [.ref 187, .int (x.1 0 (xi (a5 + 2))), .int (x.1 0 (xi (a5 + 1))), .ref 1])) (h' := hp N x) rfl ?_
  obtain ⟨w428, h429, h⟩ := bind_ok h
  refine ev_call (v := some (.int w428.1)) (h1 := hp N w428.2) rfl rfl rfl (ok_u rfl (by show u1 + 2 ≤ 601024; omega) (by show u2 + 12 ≤ 7293034; omega)) (em212 (x.1 0 (xi (a5 + 1))) (x.1 0 (xi (a5 + 2))) (by decide) (by decide) x _ h429) ?_
  show Ev 214 (u1 + 2, u2 + 12) (2199, [some (.ref 0), some (.ref 1), some (.ref 138), some (.ref 187), some (.ref 188), some (.int a5), none, none], [.int w428.1]) (hp N w428.2) _
  refine ev_run (n := 6) (u' := (u1 + 2, u2 + 12)) (f' := (2207, [some (.ref 0), some (.ref 1), some (.ref 138), some (.ref 187), some (.ref 188), some (.int a5), some (.int w428.1), none], [.int (a5 + 1), .ref 0, .ref 138])) (h' := hp N w428.2) rfl ?_
  obtain ⟨h430, h⟩ := cond_some h
  refine ev_iald rfl rfl h430 ?_
  refine ev_run (n := 4) (u' := (u1 + 2, u2 + 12)) (f' := (2213, [some (.ref 0), some (.ref 1), some (.ref 138), some (.ref 187), some (.ref 188), some (.int a5), some (.int w428.1), none], [.int (a5 + 2), .ref 0, .int (w428.2.1 0 (xi (a5 + 1))), .ref 138])) (h' := hp N w428.2) rfl ?_
  obtain ⟨h431, h⟩ := cond_some h
  refine ev_iald rfl rfl h431 ?_
  obtain ⟨w432, h433, h⟩ := bind_ok h
  refine ev_call (v := some (.int w432.1)) (h1 := hp N w432.2) rfl rfl rfl (ok_u rfl (by show u1 + 2 + 0 ≤ 601024; omega) (by show u2 + 12 + 0 ≤ 7293034; omega)) (em177 (w428.2.1 0 (xi (a5 + 1))) (w428.2.1 0 (xi (a5 + 2))) w428.2 _ h433) ?_
  show Ev 214 (u1 + 2, u2 + 12) (2217, [some (.ref 0), some (.ref 1), some (.ref 138), some (.ref 187), some (.ref 188), some (.int a5), some (.int w428.1), none], [.int w432.1]) (hp N w432.2) _
  refine ev_run (n := 2) (u' := (u1 + 2, u2 + 12)) (f' := (2220, [some (.ref 0), some (.ref 1), some (.ref 138), some (.ref 187), some (.ref 188), some (.int a5), some (.int w428.1), some (.int w432.1)], [.ref 138])) (h' := hp N w432.2) rfl ?_
  obtain ⟨w434, h435, h⟩ := bind_ok h
  refine ev_call (v := some (.int w434)) (h1 := hp N w432.2) rfl rfl rfl (ok_u rfl (by show u1 + 2 + 0 ≤ 601024; omega) (by show u2 + 12 + 0 ≤ 7293034; omega)) (em112 w432.2 _ h435) ?_
  show Ev 214 (u1 + 2, u2 + 12) (2223, [some (.ref 0), some (.ref 1), some (.ref 138), some (.ref 187), some (.ref 188), some (.int a5), some (.int w428.1), some (.int w432.1)], [.int w434]) (hp N w432.2) _
  refine ev_run (n := 1) (u' := (u1 + 2, u2 + 12)) (f' := (2225, [some (.ref 0), some (.ref 1), some (.ref 138), some (.ref 187), some (.ref 188), some (.int a5), some (.int w428.1), some (.int w432.1)], [.int w428.1, .int w434])) (h' := hp N w432.2) rfl ?_
  rcases ite_or h with ⟨h439, h⟩ | ⟨h439, h⟩
  · refine ev_ict rfl (decide_eq_true h439) ?_
    refine ev_run (n := 1) (u' := (u1 + 2, u2 + 12)) (f' := (2232, [some (.ref 0), some (.ref 1), some (.ref 138), some (.ref 187), some (.ref 188), some (.int a5), some (.int w428.1), some (.int w432.1)], [.int w428.1])) (h' := hp N w432.2) rfl ?_
    rcases ite_or h with ⟨h438, h⟩ | ⟨h438, h⟩
    · refine ev_iff rfl (decide_eq_false (fun w => w h438)) ?_
      refine ev_run (n := 2) (u' := (u1 + 2, u2 + 12)) (f' := (2237, [some (.ref 0), some (.ref 1), some (.ref 138), some (.ref 187), some (.ref 188), some (.int a5), some (.int w428.1), some (.int w432.1)], [.int 0, .ref 187])) (h' := hp N w432.2) rfl ?_
      obtain ⟨h436, h⟩ := cond_some h
      refine ev_lald rfl rfl h436 ?_
      refine ev_run (n := 3) (u' := (u1 + 2, u2 + 12)) (f' := (2242, [some (.ref 0), some (.ref 1), some (.ref 138), some (.ref 187), some (.ref 188), some (.int a5), some (.int w428.1), some (.int w432.1)], [.int (lg_cmp (w432.2.2.1 187 (xi 0)) (Int32.toInt64 w432.1))])) (h' := hp N w432.2) rfl ?_
      rcases ite_or h with ⟨h437, h⟩ | ⟨h437, h⟩
      · refine ev_ift rfl (decide_eq_true h437) ?_
        exact em214_2247 k28 q28 a5 (by omega) (by omega) w432.2 _ h
      · refine ev_iff rfl (decide_eq_false h437) ?_
        refine ev_run (n := 1) (u' := (u1 + 2, u2 + 12)) (f' := (2246, [some (.ref 0), some (.ref 1), some (.ref 138), some (.ref 187), some (.ref 188), some (.int a5), some (.int w428.1), some (.int w432.1)], [.int 0])) (h' := hp N w432.2) rfl ?_
        cases h
        exact ev_iret rfl (end_u (by show _ ≤ 601024; omega) (by show _ ≤ 7293034; omega)) rfl (Or.inr ⟨rfl, rfl⟩)
    · refine ev_ift rfl (decide_eq_true h438) ?_
      exact em214_2247 k28 q28 a5 (by omega) (by omega) w432.2 _ h
  · refine ev_icf rfl (decide_eq_false h439) ?_
    refine ev_run (n := 1) (u' := (u1 + 2, u2 + 12)) (f' := (2229, [some (.ref 0), some (.ref 1), some (.ref 138), some (.ref 187), some (.ref 188), some (.int a5), some (.int w428.1), some (.int w432.1)], [.int 0])) (h' := hp N w432.2) rfl ?_
    cases h
    exact ev_iret rfl (end_u (by show _ ≤ 601024; omega) (by show _ ≤ 7293034; omega)) rfl (Or.inr ⟨rfl, rfl⟩)
def gm214_2303 (N : Nat) (k28 : Int32 → Hs → Option (Int32 × Hs)) (a5 : Int32) (x : Hs) : Option (Int32 × Hs) := gm214_2306 N k28 a5 x
theorem em214_2303 {N n : Nat} (k28 : Int32 → Hs → Option (Int32 × Hs)) (q28 : ∀ {u1 u2 : Nat} (a5 : Int32) (hu1 : u1 + (0 + 4 * n) ≤ 601024) (hu2 : u2 + (0 + 24 * n) ≤ 7293034) (x : Hs) (r : Int32 × Hs), k28 a5 x = some r → Ev 214 (u1, u2) (28, [some (.ref 0), some (.ref 1), some (.ref 138), some (.ref 187), some (.ref 188), some (.int a5), none, none], []) (hp N x) (cvMi N r)) {u1 u2 : Nat} (a5 : Int32) (hu1 : u1 + (0 + 4 * n) ≤ 601024) (hu2 : u2 + (0 + 24 * n) ≤ 7293034) (x : Hs) (r : Int32 × Hs) (h : gm214_2303 N k28 a5 x = some r) : Ev 214 (u1, u2) (2303, [some (.ref 0), some (.ref 1), some (.ref 138), some (.ref 187), some (.ref 188), some (.int a5), none, none], []) (hp N x) (cvMi N r) := by
  unfold gm214_2303 at h
  refine ev_run (n := 1) (u' := (u1, u2)) (f' := (2306, [some (.ref 0), some (.ref 1), some (.ref 138), some (.ref 187), some (.ref 188), some (.int a5), none, none], [])) (h' := hp N x) rfl ?_
  exact em214_2306 k28 q28 a5 (by omega) (by omega) x _ h
def gm214_2250 (N : Nat) (k28 : Int32 → Hs → Option (Int32 × Hs)) (a5 : Int32) (x : Hs) : Option (Int32 × Hs) := cond (aIn (a5 + 1) N) ((gm213 (x.1 0 (xi (a5 + 1))) x).bind fun w441 => (cond (aIn (a5 + 1) N) ((gm178 (w441.2.1 0 (xi (a5 + 1))) w441.2).bind fun w444 => ((gm112 w444.2).bind fun w446 => (if w446 = w441.1 then (if w441.1 = 0 then (cond (aIn 0 1) (if (lg_cmp (w444.2.2.1 187 (xi 0)) (Int32.toInt64 w444.1)) = 0 then (gm214_2303 N k28 a5 w444.2) else (some (0, w444.2))) none) else (gm214_2303 N k28 a5 w444.2)) else (some (0, w444.2))))) none)) none
theorem em214_2250 {N n : Nat} (k28 : Int32 → Hs → Option (Int32 × Hs)) (q28 : ∀ {u1 u2 : Nat} (a5 : Int32) (hu1 : u1 + (0 + 4 * n) ≤ 601024) (hu2 : u2 + (0 + 24 * n) ≤ 7293034) (x : Hs) (r : Int32 × Hs), k28 a5 x = some r → Ev 214 (u1, u2) (28, [some (.ref 0), some (.ref 1), some (.ref 138), some (.ref 187), some (.ref 188), some (.int a5), none, none], []) (hp N x) (cvMi N r)) {u1 u2 : Nat} (a5 : Int32) (hu1 : u1 + (1 + 4 * n) ≤ 601024) (hu2 : u2 + (6 + 24 * n) ≤ 7293034) (x : Hs) (r : Int32 × Hs) (h : gm214_2250 N k28 a5 x = some r) : Ev 214 (u1, u2) (2250, [some (.ref 0), some (.ref 1), some (.ref 138), some (.ref 187), some (.ref 188), some (.int a5), none, none], []) (hp N x) (cvMi N r) := by
  unfold gm214_2250 at h
  refine ev_run (n := 5) (u' := (u1, u2)) (f' := (2256, [some (.ref 0), some (.ref 1), some (.ref 138), some (.ref 187), some (.ref 188), some (.int a5), none, none], [.int (a5 + 1), .ref 0, .ref 1])) (h' := hp N x) rfl ?_
  obtain ⟨h440, h⟩ := cond_some h
  refine ev_iald rfl rfl h440 ?_
  refine ev_run (n := 1) (u' := (u1, u2)) (f' := (2258, [some (.ref 0), some (.ref 1), some (.ref 138), some (.ref 187), some (.ref 188), some (.int a5), none, none], [.ref 187, .int (x.1 0 (xi (a5 + 1))), .ref 1])) (h' := hp N x) rfl ?_
  obtain ⟨w441, h442, h⟩ := bind_ok h
  refine ev_call (v := some (.int w441.1)) (h1 := hp N w441.2) rfl rfl rfl (ok_u rfl (by show u1 + 1 ≤ 601024; omega) (by show u2 + 6 ≤ 7293034; omega)) (em213 (x.1 0 (xi (a5 + 1))) (by decide) (by decide) x _ h442) ?_
  show Ev 214 (u1 + 1, u2 + 6) (2261, [some (.ref 0), some (.ref 1), some (.ref 138), some (.ref 187), some (.ref 188), some (.int a5), none, none], [.int w441.1]) (hp N w441.2) _
  refine ev_run (n := 6) (u' := (u1 + 1, u2 + 6)) (f' := (2269, [some (.ref 0), some (.ref 1), some (.ref 138), some (.ref 187), some (.ref 188), some (.int a5), some (.int w441.1), none], [.int (a5 + 1), .ref 0, .ref 138])) (h' := hp N w441.2) rfl ?_
  obtain ⟨h443, h⟩ := cond_some h
  refine ev_iald rfl rfl h443 ?_
  obtain ⟨w444, h445, h⟩ := bind_ok h
  refine ev_call (v := some (.int w444.1)) (h1 := hp N w444.2) rfl rfl rfl (ok_u rfl (by show u1 + 1 + 0 ≤ 601024; omega) (by show u2 + 6 + 0 ≤ 7293034; omega)) (em178 (w441.2.1 0 (xi (a5 + 1))) w441.2 _ h445) ?_
  show Ev 214 (u1 + 1, u2 + 6) (2273, [some (.ref 0), some (.ref 1), some (.ref 138), some (.ref 187), some (.ref 188), some (.int a5), some (.int w441.1), none], [.int w444.1]) (hp N w444.2) _
  refine ev_run (n := 2) (u' := (u1 + 1, u2 + 6)) (f' := (2276, [some (.ref 0), some (.ref 1), some (.ref 138), some (.ref 187), some (.ref 188), some (.int a5), some (.int w441.1), some (.int w444.1)], [.ref 138])) (h' := hp N w444.2) rfl ?_
  obtain ⟨w446, h447, h⟩ := bind_ok h
  refine ev_call (v := some (.int w446)) (h1 := hp N w444.2) rfl rfl rfl (ok_u rfl (by show u1 + 1 + 0 ≤ 601024; omega) (by show u2 + 6 + 0 ≤ 7293034; omega)) (em112 w444.2 _ h447) ?_
  show Ev 214 (u1 + 1, u2 + 6) (2279, [some (.ref 0), some (.ref 1), some (.ref 138), some (.ref 187), some (.ref 188), some (.int a5), some (.int w441.1), some (.int w444.1)], [.int w446]) (hp N w444.2) _
  refine ev_run (n := 1) (u' := (u1 + 1, u2 + 6)) (f' := (2281, [some (.ref 0), some (.ref 1), some (.ref 138), some (.ref 187), some (.ref 188), some (.int a5), some (.int w441.1), some (.int w444.1)], [.int w441.1, .int w446])) (h' := hp N w444.2) rfl ?_
  rcases ite_or h with ⟨h451, h⟩ | ⟨h451, h⟩
  · refine ev_ict rfl (decide_eq_true h451) ?_
    refine ev_run (n := 1) (u' := (u1 + 1, u2 + 6)) (f' := (2288, [some (.ref 0), some (.ref 1), some (.ref 138), some (.ref 187), some (.ref 188), some (.int a5), some (.int w441.1), some (.int w444.1)], [.int w441.1])) (h' := hp N w444.2) rfl ?_
    rcases ite_or h with ⟨h450, h⟩ | ⟨h450, h⟩
    · refine ev_iff rfl (decide_eq_false (fun w => w h450)) ?_
      refine ev_run (n := 2) (u' := (u1 + 1, u2 + 6)) (f' := (2293, [some (.ref 0), some (.ref 1), some (.ref 138), some (.ref 187), some (.ref 188), some (.int a5), some (.int w441.1), some (.int w444.1)], [.int 0, .ref 187])) (h' := hp N w444.2) rfl ?_
      obtain ⟨h448, h⟩ := cond_some h
      refine ev_lald rfl rfl h448 ?_
      refine ev_run (n := 3) (u' := (u1 + 1, u2 + 6)) (f' := (2298, [some (.ref 0), some (.ref 1), some (.ref 138), some (.ref 187), some (.ref 188), some (.int a5), some (.int w441.1), some (.int w444.1)], [.int (lg_cmp (w444.2.2.1 187 (xi 0)) (Int32.toInt64 w444.1))])) (h' := hp N w444.2) rfl ?_
      rcases ite_or h with ⟨h449, h⟩ | ⟨h449, h⟩
      · refine ev_ift rfl (decide_eq_true h449) ?_
        exact em214_2303 k28 q28 a5 (by omega) (by omega) w444.2 _ h
      · refine ev_iff rfl (decide_eq_false h449) ?_
        refine ev_run (n := 1) (u' := (u1 + 1, u2 + 6)) (f' := (2302, [some (.ref 0), some (.ref 1), some (.ref 138), some (.ref 187), some (.ref 188), some (.int a5), some (.int w441.1), some (.int w444.1)], [.int 0])) (h' := hp N w444.2) rfl ?_
        cases h
        exact ev_iret rfl (end_u (by show _ ≤ 601024; omega) (by show _ ≤ 7293034; omega)) rfl (Or.inr ⟨rfl, rfl⟩)
    · refine ev_ift rfl (decide_eq_true h450) ?_
      exact em214_2303 k28 q28 a5 (by omega) (by omega) w444.2 _ h
  · refine ev_icf rfl (decide_eq_false h451) ?_
    refine ev_run (n := 1) (u' := (u1 + 1, u2 + 6)) (f' := (2285, [some (.ref 0), some (.ref 1), some (.ref 138), some (.ref 187), some (.ref 188), some (.int a5), some (.int w441.1), some (.int w444.1)], [.int 0])) (h' := hp N w444.2) rfl ?_
    cases h
    exact ev_iret rfl (end_u (by show _ ≤ 601024; omega) (by show _ ≤ 7293034; omega)) rfl (Or.inr ⟨rfl, rfl⟩)
def gm214_28 (N : Nat) : Nat → Int32 → Hs → Option (Int32 × Hs)
  | 0, _, _ => none
  | n + 1, a5, x => if a5 > ((Int32.ofNat N) - 6) then (some (1, x)) else (cond (aIn a5 N) (if (x.1 0 (xi a5) &&& 31) = 0 then (gm214_188 N (gm214_28 N n) a5 x) else (if (x.1 0 (xi a5) &&& 31) = 1 then (gm214_232 N (gm214_28 N n) a5 x) else (if (x.1 0 (xi a5) &&& 31) = 2 then (gm214_300 N (gm214_28 N n) a5 x) else (if (x.1 0 (xi a5) &&& 31) = 3 then (gm214_368 N (gm214_28 N n) a5 x) else (if (x.1 0 (xi a5) &&& 31) = 4 then (gm214_440 N (gm214_28 N n) a5 x) else (if (x.1 0 (xi a5) &&& 31) = 5 then (gm214_488 N (gm214_28 N n) a5 x) else (if (x.1 0 (xi a5) &&& 31) = 6 then (gm214_551 N (gm214_28 N n) a5 x) else (if (x.1 0 (xi a5) &&& 31) = 7 then (gm214_619 N (gm214_28 N n) a5 x) else (if (x.1 0 (xi a5) &&& 31) = 8 then (gm214_675 N (gm214_28 N n) a5 x) else (if (x.1 0 (xi a5) &&& 31) = 9 then (gm214_731 N (gm214_28 N n) a5 x) else (if (x.1 0 (xi a5) &&& 31) = 10 then (gm214_787 N (gm214_28 N n) a5 x) else (if (x.1 0 (xi a5) &&& 31) = 11 then (gm214_907 N (gm214_28 N n) a5 x) else (if (x.1 0 (xi a5) &&& 31) = 12 then (gm214_987 N (gm214_28 N n) a5 x) else (if (x.1 0 (xi a5) &&& 31) = 13 then (gm214_1043 N (gm214_28 N n) a5 x) else (if (x.1 0 (xi a5) &&& 31) = 14 then (gm214_1111 N (gm214_28 N n) a5 x) else (if (x.1 0 (xi a5) &&& 31) = 15 then (gm214_1189 N (gm214_28 N n) a5 x) else (if (x.1 0 (xi a5) &&& 31) = 16 then (gm214_1281 N (gm214_28 N n) a5 x) else (if (x.1 0 (xi a5) &&& 31) = 17 then (gm214_1361 N (gm214_28 N n) a5 x) else (if (x.1 0 (xi a5) &&& 31) = 18 then (gm214_1424 N (gm214_28 N n) a5 x) else (if (x.1 0 (xi a5) &&& 31) = 19 then (gm214_1499 N (gm214_28 N n) a5 x) else (if (x.1 0 (xi a5) &&& 31) = 20 then (gm214_1555 N (gm214_28 N n) a5 x) else (if (x.1 0 (xi a5) &&& 31) = 21 then (gm214_1599 N (gm214_28 N n) a5 x) else (if (x.1 0 (xi a5) &&& 31) = 22 then (gm214_1667 N (gm214_28 N n) a5 x) else (if (x.1 0 (xi a5) &&& 31) = 23 then (gm214_1735 N (gm214_28 N n) a5 x) else (if (x.1 0 (xi a5) &&& 31) = 24 then (gm214_1803 N (gm214_28 N n) a5 x) else (if (x.1 0 (xi a5) &&& 31) = 25 then (gm214_1859 N (gm214_28 N n) a5 x) else (if (x.1 0 (xi a5) &&& 31) = 26 then (gm214_1927 N (gm214_28 N n) a5 x) else (if (x.1 0 (xi a5) &&& 31) = 27 then (gm214_1983 N (gm214_28 N n) a5 x) else (if (x.1 0 (xi a5) &&& 31) = 28 then (gm214_2063 N (gm214_28 N n) a5 x) else (if (x.1 0 (xi a5) &&& 31) = 29 then (gm214_2126 N (gm214_28 N n) a5 x) else (if (x.1 0 (xi a5) &&& 31) = 30 then (gm214_2182 N (gm214_28 N n) a5 x) else (if (x.1 0 (xi a5) &&& 31) = 31 then (gm214_2250 N (gm214_28 N n) a5 x) else (gm214_2306 N (gm214_28 N n) a5 x))))))))))))))))))))))))))))))))) none)
theorem em214_28 {N : Nat} : ∀ (n u1 u2 : Nat) (a5 : Int32) (hu1 : u1 + (0 + 4 * n) ≤ 601024) (hu2 : u2 + (0 + 24 * n) ≤ 7293034) (x : Hs) (r : Int32 × Hs), gm214_28 N n a5 x = some r → Ev 214 (u1, u2) (28, [some (.ref 0), some (.ref 1), some (.ref 138), some (.ref 187), some (.ref 188), some (.int a5), none, none], []) (hp N x) (cvMi N r)
  | 0, u1, u2, a5, hu1, hu2, x, r, h => by
    have e9 : (none : Option (Int32 × Hs)) = some r := h
    cases e9
  | n + 1, u1, u2, a5, hu1, hu2, x, r, h => by
    have q28 := fun {u1 u2 : Nat} => em214_28 (N := N) n u1 u2
    rw [gm214_28] at h
    refine ev_run (n := 5) (u' := (u1, u2)) (f' := (35, [some (.ref 0), some (.ref 1), some (.ref 138), some (.ref 187), some (.ref 188), some (.int a5), none, none], [.int ((Int32.ofNat N) - 6), .int a5])) (h' := hp N x) rfl ?_
    rcases ite_or h with ⟨h34, h⟩ | ⟨h34, h⟩
    · refine ev_ict rfl (decide_eq_true h34) ?_
      refine ev_run (n := 1) (u' := (u1, u2)) (f' := (2313, [none, none, none, none, none, none, none, none], [.int 1])) (h' := hp N x) rfl ?_
      cases h
      exact ev_iret rfl (end_u (by show _ ≤ 601024; omega) (by show _ ≤ 7293034; omega)) rfl (Or.inr ⟨rfl, rfl⟩)
    · refine ev_icf rfl (decide_eq_false h34) ?_
      refine ev_run (n := 2) (u' := (u1, u2)) (f' := (41, [some (.ref 0), some (.ref 1), some (.ref 138), some (.ref 187), some (.ref 188), some (.int a5), none, none], [.int a5, .ref 0])) (h' := hp N x) rfl ?_
      obtain ⟨h1, h⟩ := cond_some h
      refine ev_iald rfl rfl h1 ?_
      refine ev_run (n := 2) (u' := (u1, u2)) (f' := (45, [some (.ref 0), some (.ref 1), some (.ref 138), some (.ref 187), some (.ref 188), some (.int a5), none, none], [.int (x.1 0 (xi a5) &&& 31)])) (h' := hp N x) rfl ?_
      rcases ite_or h with ⟨h2, h⟩ | ⟨h2, h⟩
      · refine ev_tswk rfl h2 rfl rfl ?_
        exact em214_188 (gm214_28 N n) q28 a5 (by omega) (by omega) x _ h
      rcases ite_or h with ⟨h3, h⟩ | ⟨h3, h⟩
      · refine ev_tswk rfl h3 rfl rfl ?_
        exact em214_232 (gm214_28 N n) q28 a5 (by omega) (by omega) x _ h
      rcases ite_or h with ⟨h4, h⟩ | ⟨h4, h⟩
      · refine ev_tswk rfl h4 rfl rfl ?_
        exact em214_300 (gm214_28 N n) q28 a5 (by omega) (by omega) x _ h
      rcases ite_or h with ⟨h5, h⟩ | ⟨h5, h⟩
      · refine ev_tswk rfl h5 rfl rfl ?_
        exact em214_368 (gm214_28 N n) q28 a5 (by omega) (by omega) x _ h
      rcases ite_or h with ⟨h6, h⟩ | ⟨h6, h⟩
      · refine ev_tswk rfl h6 rfl rfl ?_
        exact em214_440 (gm214_28 N n) q28 a5 (by omega) (by omega) x _ h
      rcases ite_or h with ⟨h7, h⟩ | ⟨h7, h⟩
      · refine ev_tswk rfl h7 rfl rfl ?_
        exact em214_488 (gm214_28 N n) q28 a5 (by omega) (by omega) x _ h
      rcases ite_or h with ⟨h8, h⟩ | ⟨h8, h⟩
      · refine ev_tswk rfl h8 rfl rfl ?_
        exact em214_551 (gm214_28 N n) q28 a5 (by omega) (by omega) x _ h
      rcases ite_or h with ⟨h9, h⟩ | ⟨h9, h⟩
      · refine ev_tswk rfl h9 rfl rfl ?_
        exact em214_619 (gm214_28 N n) q28 a5 (by omega) (by omega) x _ h
      rcases ite_or h with ⟨h10, h⟩ | ⟨h10, h⟩
      · refine ev_tswk rfl h10 rfl rfl ?_
        exact em214_675 (gm214_28 N n) q28 a5 (by omega) (by omega) x _ h
      rcases ite_or h with ⟨h11, h⟩ | ⟨h11, h⟩
      · refine ev_tswk rfl h11 rfl rfl ?_
        exact em214_731 (gm214_28 N n) q28 a5 (by omega) (by omega) x _ h
      rcases ite_or h with ⟨h12, h⟩ | ⟨h12, h⟩
      · refine ev_tswk rfl h12 rfl rfl ?_
        exact em214_787 (gm214_28 N n) q28 a5 (by omega) (by omega) x _ h
      rcases ite_or h with ⟨h13, h⟩ | ⟨h13, h⟩
      · refine ev_tswk rfl h13 rfl rfl ?_
        exact em214_907 (gm214_28 N n) q28 a5 (by omega) (by omega) x _ h
      rcases ite_or h with ⟨h14, h⟩ | ⟨h14, h⟩
      · refine ev_tswk rfl h14 rfl rfl ?_
        exact em214_987 (gm214_28 N n) q28 a5 (by omega) (by omega) x _ h
      rcases ite_or h with ⟨h15, h⟩ | ⟨h15, h⟩
      · refine ev_tswk rfl h15 rfl rfl ?_
        exact em214_1043 (gm214_28 N n) q28 a5 (by omega) (by omega) x _ h
      rcases ite_or h with ⟨h16, h⟩ | ⟨h16, h⟩
      · refine ev_tswk rfl h16 rfl rfl ?_
        exact em214_1111 (gm214_28 N n) q28 a5 (by omega) (by omega) x _ h
      rcases ite_or h with ⟨h17, h⟩ | ⟨h17, h⟩
      · refine ev_tswk rfl h17 rfl rfl ?_
        exact em214_1189 (gm214_28 N n) q28 a5 (by omega) (by omega) x _ h
      rcases ite_or h with ⟨h18, h⟩ | ⟨h18, h⟩
      · refine ev_tswk rfl h18 rfl rfl ?_
        exact em214_1281 (gm214_28 N n) q28 a5 (by omega) (by omega) x _ h
      rcases ite_or h with ⟨h19, h⟩ | ⟨h19, h⟩
      · refine ev_tswk rfl h19 rfl rfl ?_
        exact em214_1361 (gm214_28 N n) q28 a5 (by omega) (by omega) x _ h
      rcases ite_or h with ⟨h20, h⟩ | ⟨h20, h⟩
      · refine ev_tswk rfl h20 rfl rfl ?_
        exact em214_1424 (gm214_28 N n) q28 a5 (by omega) (by omega) x _ h
      rcases ite_or h with ⟨h21, h⟩ | ⟨h21, h⟩
      · refine ev_tswk rfl h21 rfl rfl ?_
        exact em214_1499 (gm214_28 N n) q28 a5 (by omega) (by omega) x _ h
      rcases ite_or h with ⟨h22, h⟩ | ⟨h22, h⟩
      · refine ev_tswk rfl h22 rfl rfl ?_
        exact em214_1555 (gm214_28 N n) q28 a5 (by omega) (by omega) x _ h
      rcases ite_or h with ⟨h23, h⟩ | ⟨h23, h⟩
      · refine ev_tswk rfl h23 rfl rfl ?_
        exact em214_1599 (gm214_28 N n) q28 a5 (by omega) (by omega) x _ h
      rcases ite_or h with ⟨h24, h⟩ | ⟨h24, h⟩
      · refine ev_tswk rfl h24 rfl rfl ?_
        exact em214_1667 (gm214_28 N n) q28 a5 (by omega) (by omega) x _ h
      rcases ite_or h with ⟨h25, h⟩ | ⟨h25, h⟩
      · refine ev_tswk rfl h25 rfl rfl ?_
        exact em214_1735 (gm214_28 N n) q28 a5 (by omega) (by omega) x _ h
      rcases ite_or h with ⟨h26, h⟩ | ⟨h26, h⟩
      · refine ev_tswk rfl h26 rfl rfl ?_
        exact em214_1803 (gm214_28 N n) q28 a5 (by omega) (by omega) x _ h
      rcases ite_or h with ⟨h27, h⟩ | ⟨h27, h⟩
      · refine ev_tswk rfl h27 rfl rfl ?_
        exact em214_1859 (gm214_28 N n) q28 a5 (by omega) (by omega) x _ h
      rcases ite_or h with ⟨h28, h⟩ | ⟨h28, h⟩
      · refine ev_tswk rfl h28 rfl rfl ?_
        exact em214_1927 (gm214_28 N n) q28 a5 (by omega) (by omega) x _ h
      rcases ite_or h with ⟨h29, h⟩ | ⟨h29, h⟩
      · refine ev_tswk rfl h29 rfl rfl ?_
        exact em214_1983 (gm214_28 N n) q28 a5 (by omega) (by omega) x _ h
      rcases ite_or h with ⟨h30, h⟩ | ⟨h30, h⟩
      · refine ev_tswk rfl h30 rfl rfl ?_
        exact em214_2063 (gm214_28 N n) q28 a5 (by omega) (by omega) x _ h
      rcases ite_or h with ⟨h31, h⟩ | ⟨h31, h⟩
      · refine ev_tswk rfl h31 rfl rfl ?_
        exact em214_2126 (gm214_28 N n) q28 a5 (by omega) (by omega) x _ h
      rcases ite_or h with ⟨h32, h⟩ | ⟨h32, h⟩
      · refine ev_tswk rfl h32 rfl rfl ?_
        exact em214_2182 (gm214_28 N n) q28 a5 (by omega) (by omega) x _ h
      rcases ite_or h with ⟨h33, h⟩ | ⟨h33, h⟩
      · refine ev_tswk rfl h33 rfl rfl ?_
        exact em214_2250 (gm214_28 N n) q28 a5 (by omega) (by omega) x _ h
      refine ev_tswd rfl (aIn_32 h2 h3 h4 h5 h6 h7 h8 h9 h10 h11 h12 h13 h14 h15 h16 h17 h18 h19 h20 h21 h22 h23 h24 h25 h26 h27 h28 h29 h30 h31 h32 h33) ?_
      exact em214_2306 (gm214_28 N n) q28 a5 (by omega) (by omega) x _ h
