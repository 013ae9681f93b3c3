/-! The law's loop as functions; printed by dec_law.py -/
def gm214_728 (N : Nat) (k28 : Int32 → Hs → Option (Int32 × Hs)) (a5 : Int32) (x : Hs) : Option (Int32 × Hs) := gm214_2306 N k28 a5 x
theorem em214_728 {N n : Nat} (k28 : Int32 → Hs → Option (Int32 × Hs)) (q28 : ∀ {u1 u2 : Nat} (a5 : Int32) (hu1 : u1 + (0 + 4 * n) ≤ 601024) (hu2 : u2 + (0 + 24 * n) ≤ 7293034) (x : Hs) (r : Int32 × Hs), k28 a5 x = some r → Ev 214 (u1, u2) (28, [some (.ref 0), some (.ref 1), some (.ref 138), some (.ref 187), some (.ref 188), some (.int a5), none, none], []) (hp N x) (cvMi N r)) {u1 u2 : Nat} (a5 : Int32) (hu1 : u1 + (0 + 4 * n) ≤ 601024) (hu2 : u2 + (0 + 24 * n) ≤ 7293034) (x : Hs) (r : Int32 × Hs) (h : gm214_728 N k28 a5 x = some r) : Ev 214 (u1, u2) (728, [some (.ref 0), some (.ref 1), some (.ref 138), some (.ref 187), some (.ref 188), some (.int a5), none, none], []) (hp N x) (cvMi N r) := by
  unfold gm214_728 at h
  refine ev_run (n := 1) (u' := (u1, u2)) (f' := (2306, [some (.ref 0), some (.ref 1), some (.ref 138), some (.ref 187), some (.ref 188), some (.int a5), none, none], [])) (h' := hp N x) rfl ?_
  exact em214_2306 k28 q28 a5 (by omega) (by omega) x _ h
def gm214_675 (N : Nat) (k28 : Int32 → Hs → Option (Int32 × Hs)) (a5 : Int32) (x : Hs) : Option (Int32 × Hs) := cond (aIn (a5 + 1) N) ((gm190 (x.1 0 (xi (a5 + 1))) x).bind fun w138 => (cond (aIn (a5 + 1) N) ((gm140 (w138.2.1 0 (xi (a5 + 1))) w138.2).bind fun w141 => ((gm112 w141.2).bind fun w143 => (if w143 = w138.1 then (if w138.1 = 0 then (cond (aIn 0 1) (if (lg_cmp (w141.2.2.1 187 (xi 0)) (Int32.toInt64 w141.1)) = 0 then (gm214_728 N k28 a5 w141.2) else (some (0, w141.2))) none) else (gm214_728 N k28 a5 w141.2)) else (some (0, w141.2))))) none)) none
theorem em214_675 {N n : Nat} (k28 : Int32 → Hs → Option (Int32 × Hs)) (q28 : ∀ {u1 u2 : Nat} (a5 : Int32) (hu1 : u1 + (0 + 4 * n) ≤ 601024) (hu2 : u2 + (0 + 24 * n) ≤ 7293034) (x : Hs) (r : Int32 × Hs), k28 a5 x = some r → Ev 214 (u1, u2) (28, [some (.ref 0), some (.ref 1), some (.ref 138), some (.ref 187), some (.ref 188), some (.int a5), none, none], []) (hp N x) (cvMi N r)) {u1 u2 : Nat} (a5 : Int32) (hu1 : u1 + (2 + 4 * n) ≤ 601024) (hu2 : u2 + (12 + 24 * n) ≤ 7293034) (x : Hs) (r : Int32 × Hs) (h : gm214_675 N k28 a5 x = some r) : Ev 214 (u1, u2) (675, [some (.ref 0), some (.ref 1), some (.ref 138), some (.ref 187), some (.ref 188), some (.int a5), none, none], []) (hp N x) (cvMi N r) := by
  unfold gm214_675 at h
  refine ev_run (n := 5) (u' := (u1, u2)) (f' := (681, [some (.ref 0), some (.ref 1), some (.ref 138), some (.ref 187), some (.ref 188), some (.int a5), none, none], [.int (a5 + 1), .ref 0, .ref 1])) (h' := hp N x) rfl ?_
  obtain ⟨h137, h⟩ := cond_some h
  refine ev_iald rfl rfl h137 ?_
  refine ev_run (n := 1) (u' := (u1, u2)) (f' := (683, [some (.ref 0), some (.ref 1), some (.ref 138), some (.ref 187), some (.ref 188), some (.int a5), none, none], [.ref 187, .int (x.1 0 (xi (a5 + 1))), .ref 1])) (h' := hp N x) rfl ?_
  obtain ⟨w138, h139, h⟩ := bind_ok h
  refine ev_call (v := some (.int w138.1)) (h1 := hp N w138.2) rfl rfl rfl (ok_u rfl (by show u1 + 2 ≤ 601024; omega) (by show u2 + 12 ≤ 7293034; omega)) (em190 (x.1 0 (xi (a5 + 1))) (by decide) (by decide) x _ h139) ?_
  show Ev 214 (u1 + 2, u2 + 12) (686, [some (.ref 0), some (.ref 1), some (.ref 138), some (.ref 187), some (.ref 188), some (.int a5), none, none], [.int w138.1]) (hp N w138.2) _
  refine ev_run (n := 6) (u' := (u1 + 2, u2 + 12)) (f' := (694, [some (.ref 0), some (.ref 1), some (.ref 138), some (.ref 187), some (.ref 188), some (.int a5), some (.int w138.1), none], [.int (a5 + 1), .ref 0, .ref 138])) (h' := hp N w138.2) rfl ?_
  obtain ⟨h140, h⟩ := cond_some h
  refine ev_iald rfl rfl h140 ?_
  obtain ⟨w141, h142, h⟩ := bind_ok h
  refine ev_call (v := some (.int w141.1)) (h1 := hp N w141.2) rfl rfl rfl (ok_u rfl (by show u1 + 2 + 0 ≤ 601024; omega) (by show u2 + 12 + 0 ≤ 7293034; omega)) (em140 (w138.2.1 0 (xi (a5 + 1))) w138.2 _ h142) ?_
  show Ev 214 (u1 + 2, u2 + 12) (698, [some (.ref 0), some (.ref 1), some (.ref 138), some (.ref 187), some (.ref 188), some (.int a5), some (.int w138.1), none], [.int w141.1]) (hp N w141.2) _
  refine ev_run (n := 2) (u' := (u1 + 2, u2 + 12)) (f' := (701, [some (.ref 0), some (.ref 1), some (.ref 138), some (.ref 187), some (.ref 188), some (.int a5), some (.int w138.1), some (.int w141.1)], [.ref 138])) (h' := hp N w141.2) rfl ?_
  obtain ⟨w143, h144, h⟩ := bind_ok h
  refine ev_call (v := some (.int w143)) (h1 := hp N w141.2) rfl rfl rfl (ok_u rfl (by show u1 + 2 + 0 ≤ 601024; omega) (by show u2 + 12 + 0 ≤ 7293034; omega)) (em112 w141.2 _ h144) ?_
  show Ev 214 (u1 + 2, u2 + 12) (704, [some (.ref 0), some (.ref 1), some (.ref 138), some (.ref 187), some (.ref 188), some (.int a5), some (.int w138.1), some (.int w141.1)], [.int w143]) (hp N w141.2) _
  refine ev_run (n := 1) (u' := (u1 + 2, u2 + 12)) (f' := (706, [some (.ref 0), some (.ref 1), some (.ref 138), some (.ref 187), some (.ref 188), some (.int a5), some (.int w138.1), some (.int w141.1)], [.int w138.1, .int w143])) (h' := hp N w141.2) rfl ?_
  rcases ite_or h with ⟨h148, h⟩ | ⟨h148, h⟩
  · refine ev_ict rfl (decide_eq_true h148) ?_
    refine ev_run (n := 1) (u' := (u1 + 2, u2 + 12)) (f' := (713, [some (.ref 0), some (.ref 1), some (.ref 138), some (.ref 187), some (.ref 188), some (.int a5), some (.int w138.1), some (.int w141.1)], [.int w138.1])) (h' := hp N w141.2) rfl ?_
    rcases ite_or h with ⟨h147, h⟩ | ⟨h147, h⟩
    · refine ev_iff rfl (decide_eq_false (fun w => w h147)) ?_
      refine ev_run (n := 2) (u' := (u1 + 2, u2 + 12)) (f' := (718, [some (.ref 0), some (.ref 1), some (.ref 138), some (.ref 187), some (.ref 188), some (.int a5), some (.int w138.1), some (.int w141.1)], [.int 0, .ref 187])) (h' := hp N w141.2) rfl ?_
      obtain ⟨h145, h⟩ := cond_some h
      refine ev_lald rfl rfl h145 ?_
      refine ev_run (n := 3) (u' := (u1 + 2, u2 + 12)) (f' := (723, [some (.ref 0), some (.ref 1), some (.ref 138), some (.ref 187), some (.ref 188), some (.int a5), some (.int w138.1), some (.int w141.1)], [.int (lg_cmp (w141.2.2.1 187 (xi 0)) (Int32.toInt64 w141.1))])) (h' := hp N w141.2) rfl ?_
      rcases ite_or h with ⟨h146, h⟩ | ⟨h146, h⟩
      · refine ev_ift rfl (decide_eq_true h146) ?_
        exact em214_728 k28 q28 a5 (by omega) (by omega) w141.2 _ h
      · refine ev_iff rfl (decide_eq_false h146) ?_
        refine ev_run (n := 1) (u' := (u1 + 2, u2 + 12)) (f' := (727, [some (.ref 0), some (.ref 1), some (.ref 138), some (.ref 187), some (.ref 188), some (.int a5), some (.int w138.1), some (.int w141.1)], [.int 0])) (h' := hp N w141.2) rfl ?_
        cases h
        exact ev_iret rfl (end_u (by show _ ≤ 601024; omega) (by show _ ≤ 7293034; omega)) rfl (Or.inr ⟨rfl, rfl⟩)
    · refine ev_ift rfl (decide_eq_true h147) ?_
      exact em214_728 k28 q28 a5 (by omega) (by omega) w141.2 _ h
  · refine ev_icf rfl (decide_eq_false h148) ?_
    refine ev_run (n := 1) (u' := (u1 + 2, u2 + 12)) (f' := (710, [some (.ref 0), some (.ref 1), some (.ref 138), some (.ref 187), some (.ref 188), some (.int a5), some (.int w138.1), some (.int w141.1)], [.int 0])) (h' := hp N w141.2) rfl ?_
    cases h
    exact ev_iret rfl (end_u (by show _ ≤ 601024; omega) (by show _ ≤ 7293034; omega)) rfl (Or.inr ⟨rfl, rfl⟩)
def gm214_784 (N : Nat) (k28 : Int32 → Hs → Option (Int32 × Hs)) (a5 : Int32) (x : Hs) : Option (Int32 × Hs) := gm214_2306 N k28 a5 x
theorem em214_784 {N n : Nat} (k28 : Int32 → Hs → Option (Int32 × Hs)) (q28 : ∀ {u1 u2 : Nat} (a5 : Int32) (hu1 : u1 + (0 + 4 * n) ≤ 601024) (hu2 : u2 + (0 + 24 * n) ≤ 7293034) (x : Hs) (r : Int32 × Hs), k28 a5 x = some r → Ev 214 (u1, u2) (28, [some (.ref 0), some (.ref 1), some (.ref 138), some (.ref 187), some (.ref 188), some (.int a5), none, none], []) (hp N x) (cvMi N r)) {u1 u2 : Nat} (a5 : Int32) (hu1 : u1 + (0 + 4 * n) ≤ 601024) (hu2 : u2 + (0 + 24 * n) ≤ 7293034) (x : Hs) (r : Int32 × Hs) (h : gm214_784 N k28 a5 x = some r) : Ev 214 (u1, u2) (784, [some (.ref 0), some (.ref 1), some (.ref 138), some (.ref 187), some (.ref 188), some (.int a5), none, none], []) (hp N x) (cvMi N r) := by
  unfold gm214_784 at h
  refine ev_run (n := 1) (u' := (u1, u2)) (f' := (2306, [some (.ref 0), some (.ref 1), some (.ref 138), some (.ref 187), some (.ref 188), some (.int a5), none, none], [])) (h' := hp N x) rfl ?_
  exact em214_2306 k28 q28 a5 (by omega) (by omega) x _ h
def gm214_731 (N : Nat) (k28 : Int32 → Hs → Option (Int32 × Hs)) (a5 : Int32) (x : Hs) : Option (Int32 × Hs) := cond (aIn (a5 + 1) N) ((gm191 (x.1 0 (xi (a5 + 1))) x).bind fun w150 => (cond (aIn (a5 + 1) N) ((gm141 (w150.2.1 0 (xi (a5 + 1))) w150.2).bind fun w153 => ((gm112 w153.2).bind fun w155 => (if w155 = w150.1 then (if w150.1 = 0 then (cond (aIn 0 1) (if (lg_cmp (w153.2.2.1 187 (xi 0)) (Int32.toInt64 w153.1)) = 0 then (gm214_784 N k28 a5 w153.2) else (some (0, w153.2))) none) else (gm214_784 N k28 a5 w153.2)) else (some (0, w153.2))))) none)) none
theorem em214_731 {N n : Nat} (k28 : Int32 → Hs → Option (Int32 × Hs)) (q28 : ∀ {u1 u2 : Nat} (a5 : Int32) (hu1 : u1 + (0 + 4 * n) ≤ 601024) (hu2 : u2 + (0 + 24 * n) ≤ 7293034) (x : Hs) (r : Int32 × Hs), k28 a5 x = some r → Ev 214 (u1, u2) (28, [some (.ref 0), some (.ref 1), some (.ref 138), some (.ref 187), some (.ref 188), some (.int a5), none, none], []) (hp N x) (cvMi N r)) {u1 u2 : Nat} (a5 : Int32) (hu1 : u1 + (2 + 4 * n) ≤ 601024) (hu2 : u2 + (12 + 24 * n) ≤ 7293034) (x : Hs) (r : Int32 × Hs) (h : gm214_731 N k28 a5 x = some r) : Ev 214 (u1, u2) (731, [some (.ref 0), some (.ref 1), some (.ref 138), some (.ref 187), some (.ref 188), some (.int a5), none, none], []) (hp N x) (cvMi N r) := by
  unfold gm214_731 at h
  refine ev_run (n := 5) (u' := (u1, u2)) (f' := (737, [some (.ref 0), some (.ref 1), some (.ref 138), some (.ref 187), some (.ref 188), some (.int a5), none, none], [.int (a5 + 1), .ref 0, .ref 1])) (h' := hp N x) rfl ?_
  obtain ⟨h149, h⟩ := cond_some h
  refine ev_iald rfl rfl h149 ?_
  refine ev_run (n := 1) (u' := (u1, u2)) (f' := (739, [some (.ref 0), some (.ref 1), some (.ref 138), some (.ref 187), some (.ref 188), some (.int a5), none, none], [.ref 187, .int (x.1 0 (xi (a5 + 1))), .ref 1])) (h' := hp N x) rfl ?_
  obtain ⟨w150, h151, h⟩ := bind_ok h
  refine ev_call (v := some (.int w150.1)) (h1 := hp N w150.2) rfl rfl rfl (ok_u rfl (by show u1 + 2 ≤ 601024; omega) (by show u2 + 12 ≤ 7293034; omega)) (em191 (x.1 0 (xi (a5 + 1))) (by decide) (by decide) x _ h151) ?_
  show Ev 214 (u1 + 2, u2 + 12) (742, [some (.ref 0), some (.ref 1), some (.ref 138), some (.ref 187), some (.ref 188), some (.int a5), none, none], [.int w150.1]) (hp N w150.2) _
  refine ev_run (n := 6) (u' := (u1 + 2, u2 + 12)) (f' := (750, [some (.ref 0), some (.ref 1), some (.ref 138), some (.ref 187), some (.ref 188), some (.int a5), some (.int w150.1), none], [.int (a5 + 1), .ref 0, .ref 138])) (h' := hp N w150.2) rfl ?_
  obtain ⟨h152, h⟩ := cond_some h
  refine ev_iald rfl rfl h152 ?_
  obtain ⟨w153, h154, h⟩ := bind_ok h
  refine ev_call (v := some (.int w153.1)) (h1 := hp N w153.2) rfl rfl rfl (ok_u rfl (by show u1 + 2 + 0 ≤ 601024; omega) (by show u2 + 12 + 0 ≤ 7293034; omega)) (em141 (w150.2.1 0 (xi (a5 + 1))) w150.2 _ h154) ?_
  show Ev 214 (u1 + 2, u2 + 12) (754, [some (.ref 0), some (.ref 1), some (.ref 138), some (.ref 187), some (.ref 188), some (.int a5), some (.int w150.1), none], [.int w153.1]) (hp N w153.2) _
  refine ev_run (n := 2) (u' := (u1 + 2, u2 + 12)) (f' := (757, [some (.ref 0), some (.ref 1), some (.ref 138), some (.ref 187), some (.ref 188), some (.int a5), some (.int w150.1), some (.int w153.1)], [.ref 138])) (h' := hp N w153.2) rfl ?_
  obtain ⟨w155, h156, h⟩ := bind_ok h
  refine ev_call (v := some (.int w155)) (h1 := hp N w153.2) rfl rfl rfl (ok_u rfl (by show u1 + 2 + 0 ≤ 601024; omega) (by show u2 + 12 + 0 ≤ 7293034; omega)) (em112 w153.2 _ h156) ?_
  show Ev 214 (u1 + 2, u2 + 12) (760, [some (.ref 0), some (.ref 1), some (.ref 138), some (.ref 187), some (.ref 188), some (.int a5), some (.int w150.1), some (.int w153.1)], [.int w155]) (hp N w153.2) _
  refine ev_run (n := 1) (u' := (u1 + 2, u2 + 12)) (f' := (762, [some (.ref 0), some (.ref 1), some (.ref 138), some (.ref 187), some (.ref 188), some (.int a5), some (.int w150.1), some (.int w153.1)], [.int w150.1, .int w155])) (h' := hp N w153.2) rfl ?_
  rcases ite_or h with ⟨h160, h⟩ | ⟨h160, h⟩
  · refine ev_ict rfl (decide_eq_true h160) ?_
    refine ev_run (n := 1) (u' := (u1 + 2, u2 + 12)) (f' := (769, [some (.ref 0), some (.ref 1), some (.ref 138), some (.ref 187), some (.ref 188), some (.int a5), some (.int w150.1), some (.int w153.1)], [.int w150.1])) (h' := hp N w153.2) rfl ?_
    rcases ite_or h with ⟨h159, h⟩ | ⟨h159, h⟩
    · refine ev_iff rfl (decide_eq_false (fun w => w h159)) ?_
      refine ev_run (n := 2) (u' := (u1 + 2, u2 + 12)) (f' := (774, [some (.ref 0), some (.ref 1), some (.ref 138), some (.ref 187), some (.ref 188), some (.int a5), some (.int w150.1), some (.int w153.1)], [.int 0, .ref 187])) (h' := hp N w153.2) rfl ?_
      obtain ⟨h157, h⟩ := cond_some h
      refine ev_lald rfl rfl h157 ?_
      refine ev_run (n := 3) (u' := (u1 + 2, u2 + 12)) (f' := (779, [some (.ref 0), some (.ref 1), some (.ref 138), some (.ref 187), some (.ref 188), some (.int a5), some (.int w150.1), some (.int w153.1)], [.int (lg_cmp (w153.2.2.1 187 (xi 0)) (Int32.toInt64 w153.1))])) (h' := hp N w153.2) rfl ?_
      rcases ite_or h with ⟨h158, h⟩ | ⟨h158, h⟩
      · refine ev_ift rfl (decide_eq_true h158) ?_
        exact em214_784 k28 q28 a5 (by omega) (by omega) w153.2 _ h
      · refine ev_iff rfl (decide_eq_false h158) ?_
        refine ev_run (n := 1) (u' := (u1 + 2, u2 + 12)) (f' := (783, [some (.ref 0), some (.ref 1), some (.ref 138), some (.ref 187), some (.ref 188), some (.int a5), some (.int w150.1), some (.int w153.1)], [.int 0])) (h' := hp N w153.2) rfl ?_
        cases h
        exact ev_iret rfl (end_u (by show _ ≤ 601024; omega) (by show _ ≤ 7293034; omega)) rfl (Or.inr ⟨rfl, rfl⟩)
    · refine ev_ift rfl (decide_eq_true h159) ?_
      exact em214_784 k28 q28 a5 (by omega) (by omega) w153.2 _ h
  · refine ev_icf rfl (decide_eq_false h160) ?_
    refine ev_run (n := 1) (u' := (u1 + 2, u2 + 12)) (f' := (766, [some (.ref 0), some (.ref 1), some (.ref 138), some (.ref 187), some (.ref 188), some (.int a5), some (.int w150.1), some (.int w153.1)], [.int 0])) (h' := hp N w153.2) rfl ?_
    cases h
    exact ev_iret rfl (end_u (by show _ ≤ 601024; omega) (by show _ ≤ 7293034; omega)) rfl (Or.inr ⟨rfl, rfl⟩)
def gm214_904 (N : Nat) (k28 : Int32 → Hs → Option (Int32 × Hs)) (a5 : Int32) (x : Hs) : Option (Int32 × Hs) := gm214_2306 N k28 a5 x
theorem em214_904 {N n : Nat} (k28 : Int32 → Hs → Option (Int32 × Hs)) (q28 : ∀ {u1 u2 : Nat} (a5 : Int32) (hu1 : u1 + (0 + 4 * n) ≤ 601024) (hu2 : u2 + (0 + 24 * n) ≤ 7293034) (x : Hs) (r : Int32 × Hs), k28 a5 x = some r → Ev 214 (u1, u2) (28, [some (.ref 0), some (.ref 1), some (.ref 138), some (.ref 187), some (.ref 188), some (.int a5), none, none], []) (hp N x) (cvMi N r)) {u1 u2 : Nat} (a5 : Int32) (hu1 : u1 + (0 + 4 * n) ≤ 601024) (hu2 : u2 + (0 + 24 * n) ≤ 7293034) (x : Hs) (r : Int32 × Hs) (h : gm214_904 N k28 a5 x = some r) : Ev 214 (u1, u2) (904, [some (.ref 0), some (.ref 1), some (.ref 138), some (.ref 187), some (.ref 188), some (.int a5), none, none], []) (hp N x) (cvMi N r) := by
  unfold gm214_904 at h
  refine ev_run (n := 1) (u' := (u1, u2)) (f' := (2306, [some (.ref 0), some (.ref 1), some (.ref 138), some (.ref 187), some (.ref 188), some (.int a5), none, none], [])) (h' := hp N x) rfl ?_
  exact em214_2306 k28 q28 a5 (by omega) (by omega) x _ h
def gm214_859 (N : Nat) (k28 : Int32 → Hs → Option (Int32 × Hs)) (a5 : Int32) (a6 : Int32) (s1 : Int32) (s2 : Int32) (s3 : Int32) (x : Hs) : Option (Int32 × Hs) := cond (aIn (a5 + 4) N) (cond (aIn (a5 + 5) N) ((gm142 s1 s2 s3 (x.1 0 (xi (a5 + 4))) (x.1 0 (xi (a5 + 5))) x).bind fun w466 => ((gm112 w466.2).bind fun w468 => (if w468 = a6 then (if a6 = 0 then (cond (aIn 0 1) (if (lg_cmp (w466.2.2.1 187 (xi 0)) (Int32.toInt64 w466.1)) = 0 then (gm214_904 N k28 a5 w466.2) else (some (0, w466.2))) none) else (gm214_904 N k28 a5 w466.2)) else (some (0, w466.2))))) none) none
theorem em214_859 {N n : Nat} (k28 : Int32 → Hs → Option (Int32 × Hs)) (q28 : ∀ {u1 u2 : Nat} (a5 : Int32) (hu1 : u1 + (0 + 4 * n) ≤ 601024) (hu2 : u2 + (0 + 24 * n) ≤ 7293034) (x : Hs) (r : Int32 × Hs), k28 a5 x = some r → Ev 214 (u1, u2) (28, [some (.ref 0), some (.ref 1), some (.ref 138), some (.ref 187), some (.ref 188), some (.int a5), none, none], []) (hp N x) (cvMi N r)) {u1 u2 : Nat} (a5 : Int32) (a6 : Int32) (s1 : Int32) (s2 : Int32) (s3 : Int32) (hu1 : u1 + (0 + 4 * n) ≤ 601024) (hu2 : u2 + (0 + 24 * n) ≤ 7293034) (x : Hs) (r : Int32 × Hs) (h : gm214_859 N k28 a5 a6 s1 s2 s3 x = some r) : Ev 214 (u1, u2) (859, [some (.ref 0), some (.ref 1), some (.ref 138), some (.ref 187), some (.ref 188), some (.int a5), some (.int a6), none], [.int s3, .int s2, .int s1, .ref 138]) (hp N x) (cvMi N r) := by
  unfold gm214_859 at h
  refine ev_run (n := 4) (u' := (u1, u2)) (f' := (864, [some (.ref 0), some (.ref 1), some (.ref 138), some (.ref 187), some (.ref 188), some (.int a5), some (.int a6), none], [.int (a5 + 4), .ref 0, .int s3, .int s2, .int s1, .ref 138])) (h' := hp N x) rfl ?_
  obtain ⟨h464, h⟩ := cond_some h
  refine ev_iald rfl rfl h464 ?_
  refine ev_run (n := 4) (u' := (u1, u2)) (f' := (870, [some (.ref 0), some (.ref 1), some (.ref 138), some (.ref 187), some (.ref 188), some (.int a5), some (.int a6), none], [.int (a5 + 5), .ref 0, .int (x.1 0 (xi (a5 + 4))), .int s3, .int s2, .int s1, .ref 138])) (h' := hp N x) rfl ?_
  obtain ⟨h465, h⟩ := cond_some h
  refine ev_iald rfl rfl h465 ?_
  obtain ⟨w466, h467, h⟩ := bind_ok h
  refine ev_call (v := some (.int w466.1)) (h1 := hp N w466.2) rfl rfl rfl (ok_u rfl (by show u1 + 0 ≤ 601024; omega) (by show u2 + 0 ≤ 7293034; omega)) (em142 s1 s2 s3 (x.1 0 (xi (a5 + 4))) (x.1 0 (xi (a5 + 5))) x _ h467) ?_
  show Ev 214 (u1, u2) (874, [some (.ref 0), some (.ref 1), some (.ref 138), some (.ref 187), some (.ref 188), some (.int a5), some (.int a6), none], [.int w466.1]) (hp N w466.2) _
  refine ev_run (n := 2) (u' := (u1, u2)) (f' := (877, [some (.ref 0), some (.ref 1), some (.ref 138), some (.ref 187), some (.ref 188), some (.int a5), some (.int a6), some (.int w466.1)], [.ref 138])) (h' := hp N w466.2) rfl ?_
  obtain ⟨w468, h469, h⟩ := bind_ok h
  refine ev_call (v := some (.int w468)) (h1 := hp N w466.2) rfl rfl rfl (ok_u rfl (by show u1 + 0 ≤ 601024; omega) (by show u2 + 0 ≤ 7293034; omega)) (em112 w466.2 _ h469) ?_
  show Ev 214 (u1, u2) (880, [some (.ref 0), some (.ref 1), some (.ref 138), some (.ref 187), some (.ref 188), some (.int a5), some (.int a6), some (.int w466.1)], [.int w468]) (hp N w466.2) _
  refine ev_run (n := 1) (u' := (u1, u2)) (f' := (882, [some (.ref 0), some (.ref 1), some (.ref 138), some (.ref 187), some (.ref 188), some (.int a5), some (.int a6), some (.int w466.1)], [.int a6, .int w468])) (h' := hp N w466.2) rfl ?_
  rcases ite_or h with ⟨h473, h⟩ | ⟨h473, h⟩
  · refine ev_ict rfl (decide_eq_true h473) ?_
    refine ev_run (n := 1) (u' := (u1, u2)) (f' := (889, [some (.ref 0), some (.ref 1), some (.ref 138), some (.ref 187), some (.ref 188), some (.int a5), some (.int a6), some (.int w466.1)], [.int a6])) (h' := hp N w466.2) rfl ?_
    rcases ite_or h with ⟨h472, h⟩ | ⟨h472, h⟩
    · refine ev_iff rfl (decide_eq_false (fun w => w h472)) ?_
      refine ev_run (n := 2) (u' := (u1, u2)) (f' := (894, [some (.ref 0), some (.ref 1), some (.ref 138), some (.ref 187), some (.ref 188), some (.int a5), some (.int a6), some (.int w466.1)], [.int 0, .ref 187])) (h' := hp N w466.2) rfl ?_
      obtain ⟨h470, h⟩ := cond_some h
      refine ev_lald rfl rfl h470 ?_
      refine ev_run (n := 3) (u' := (u1, u2)) (f' := (899, [some (.ref 0), some (.ref 1), some (.ref 138), some (.ref 187), some (.ref 188), some (.int a5), some (.int a6), some (.int w466.1)], [.int (lg_cmp (w466.2.2.1 187 (xi 0)) (Int32.toInt64 w466.1))])) (h' := hp N w466.2) rfl ?_
      rcases ite_or h with ⟨h471, h⟩ | ⟨h471, h⟩
      · refine ev_ift rfl (decide_eq_true h471) ?_
        exact em214_904 k28 q28 a5 (by omega) (by omega) w466.2 _ h
      · refine ev_iff rfl (decide_eq_false h471) ?_
        refine ev_run (n := 1) (u' := (u1, u2)) (f' := (903, [some (.ref 0), some (.ref 1), some (.ref 138), some (.ref 187), some (.ref 188), some (.int a5), some (.int a6), some (.int w466.1)], [.int 0])) (h' := hp N w466.2) rfl ?_
        cases h
        exact ev_iret rfl (end_u (by show _ ≤ 601024; omega) (by show _ ≤ 7293034; omega)) rfl (Or.inr ⟨rfl, rfl⟩)
    · refine ev_ift rfl (decide_eq_true h472) ?_
      exact em214_904 k28 q28 a5 (by omega) (by omega) w466.2 _ h
  · refine ev_icf rfl (decide_eq_false h473) ?_
    refine ev_run (n := 1) (u' := (u1, u2)) (f' := (886, [some (.ref 0), some (.ref 1), some (.ref 138), some (.ref 187), some (.ref 188), some (.int a5), some (.int a6), some (.int w466.1)], [.int 0])) (h' := hp N w466.2) rfl ?_
    cases h
    exact ev_iret rfl (end_u (by show _ ≤ 601024; omega) (by show _ ≤ 7293034; omega)) rfl (Or.inr ⟨rfl, rfl⟩)
def gm214_814 (N : Nat) (k28 : Int32 → Hs → Option (Int32 × Hs)) (a5 : Int32) (s1 : Int32) (s2 : Int32) (s3 : Int32) (x : Hs) : Option (Int32 × Hs) := cond (aIn (a5 + 4) N) (cond (aIn (a5 + 5) N) ((gm192 s1 s2 s3 (x.1 0 (xi (a5 + 4))) (x.1 0 (xi (a5 + 5))) x).bind fun w455 => (cond (aIn (a5 + 1) N) (cond (aIn (a5 + 2) N) (cond (aIn (a5 + 3) N) (if w455.2.1 0 (xi (a5 + 3)) = 0 then (gm214_859 N k28 a5 w455.1 (w455.2.1 0 (xi (a5 + 1))) (w455.2.1 0 (xi (a5 + 2))) 0 w455.2) else (gm214_859 N k28 a5 w455.1 (w455.2.1 0 (xi (a5 + 1))) (w455.2.1 0 (xi (a5 + 2))) 1 w455.2)) none) none) none)) none) none
theorem em214_814 {N n : Nat} (k28 : Int32 → Hs → Option (Int32 × Hs)) (q28 : ∀ {u1 u2 : Nat} (a5 : Int32) (hu1 : u1 + (0 + 4 * n) ≤ 601024) (hu2 : u2 + (0 + 24 * n) ≤ 7293034) (x : Hs) (r : Int32 × Hs), k28 a5 x = some r → Ev 214 (u1, u2) (28, [some (.ref 0), some (.ref 1), some (.ref 138), some (.ref 187), some (.ref 188), some (.int a5), none, none], []) (hp N x) (cvMi N r)) {u1 u2 : Nat} (a5 : Int32) (s1 : Int32) (s2 : Int32) (s3 : Int32) (hu1 : u1 + (4 + 4 * n) ≤ 601024) (hu2 : u2 + (24 + 24 * n) ≤ 7293034) (x : Hs) (r : Int32 × Hs) (h : gm214_814 N k28 a5 s1 s2 s3 x = some r) : Ev 214 (u1, u2) (814, [some (.ref 0), some (.ref 1), some (.ref 138), some (.ref 187), some (.ref 188), some (.int a5), none, none], [.int s3, .int s2, .int s1, .ref 1]) (hp N x) (cvMi N r) := by
  unfold gm214_814 at h
  refine ev_run (n := 4) (u' := (u1, u2)) (f' := (819, [some (.ref 0), some (.ref 1), some (.ref 138), some (.ref 187), some (.ref 188), some (.int a5), none, none], [.int (a5 + 4), .ref 0, .int s3, .int s2, .int s1, .ref 1])) (h' := hp N x) rfl ?_
  obtain ⟨h453, h⟩ := cond_some h
  refine ev_iald rfl rfl h453 ?_
  refine ev_run (n := 4) (u' := (u1, u2)) (f' := (825, [some (.ref 0), some (.ref 1), some (.ref 138), some (.ref 187), some (.ref 188), some (.int a5), none, none], [.int (a5 + 5), .ref 0, .int (x.1 0 (xi (a5 + 4))), .int s3, .int s2, .int s1, .ref 1])) (h' := hp N x) rfl ?_
  obtain ⟨h454, h⟩ := cond_some h
  refine ev_iald rfl rfl h454 ?_
  refine ev_run (n := 1) (u' := (u1, u2)) (f' := (827, [some (.ref 0), some (.ref 1), some (.ref 138), some (.ref 187), some (.ref 188), some (.int a5), none, none], [.ref 187, .int (x.1 0 (xi (a5 + 5))), .int (x.1 0 (xi (a5 + 4))), .int s3, .int s2, .int s1, .ref 1])) (h' := hp N x) rfl ?_
  obtain ⟨w455, h456, h⟩ := bind_ok h
  refine ev_call (v := some (.int w455.1)) (h1 := hp N w455.2) rfl rfl rfl (ok_u rfl (by show u1 + 4 ≤ 601024; omega) (by show u2 + 24 ≤ 7293034; omega)) (em192 s1 s2 s3 (x.1 0 (xi (a5 + 4))) (x.1 0 (xi (a5 + 5))) (by decide) (by decide) x _ h456) ?_
  show Ev 214 (u1 + 4, u2 + 24) (830, [some (.ref 0), some (.ref 1), some (.ref 138), some (.ref 187), some (.ref 188), some (.int a5), none, none], [.int w455.1]) (hp N w455.2) _
  refine ev_run (n := 6) (u' := (u1 + 4, u2 + 24)) (f' := (838, [some (.ref 0), some (.ref 1), some (.ref 138), some (.ref 187), some (.ref 188), some (.int a5), some (.int w455.1), none], [.int (a5 + 1), .ref 0, .ref 138])) (h' := hp N w455.2) rfl ?_
  obtain ⟨h457, h⟩ := cond_some h
  refine ev_iald rfl rfl h457 ?_
  refine ev_run (n := 4) (u' := (u1 + 4, u2 + 24)) (f' := (844, [some (.ref 0), some (.ref 1), some (.ref 138), some (.ref 187), some (.ref 188), some (.int a5), some (.int w455.1), none], [.int (a5 + 2), .ref 0, .int (w455.2.1 0 (xi (a5 + 1))), .ref 138])) (h' := hp N w455.2) rfl ?_
  obtain ⟨h458, h⟩ := cond_some h
  refine ev_iald rfl rfl h458 ?_
  refine ev_run (n := 4) (u' := (u1 + 4, u2 + 24)) (f' := (850, [some (.ref 0), some (.ref 1), some (.ref 138), some (.ref 187), some (.ref 188), some (.int a5), some (.int w455.1), none], [.int (a5 + 3), .ref 0, .int (w455.2.1 0 (xi (a5 + 2))), .int (w455.2.1 0 (xi (a5 + 1))), .ref 138])) (h' := hp N w455.2) rfl ?_
  obtain ⟨h459, h⟩ := cond_some h
  refine ev_iald rfl rfl h459 ?_
  rcases ite_or h with ⟨h460, h⟩ | ⟨h460, h⟩
  · refine ev_ift rfl (decide_eq_true h460) ?_
    refine ev_run (n := 1) (u' := (u1 + 4, u2 + 24)) (f' := (859, [some (.ref 0), some (.ref 1), some (.ref 138), some (.ref 187), some (.ref 188), some (.int a5), some (.int w455.1), none], [.int 0, .int (w455.2.1 0 (xi (a5 + 2))), .int (w455.2.1 0 (xi (a5 + 1))), .ref 138])) (h' := hp N w455.2) rfl ?_
    exact em214_859 k28 q28 a5 w455.1 (w455.2.1 0 (xi (a5 + 1))) (w455.2.1 0 (xi (a5 + 2))) 0 (by omega) (by omega) w455.2 _ h
  · refine ev_iff rfl (decide_eq_false h460) ?_
    refine ev_run (n := 2) (u' := (u1 + 4, u2 + 24)) (f' := (859, [some (.ref 0), some (.ref 1), some (.ref 138), some (.ref 187), some (.ref 188), some (.int a5), some (.int w455.1), none], [.int 1, .int (w455.2.1 0 (xi (a5 + 2))), .int (w455.2.1 0 (xi (a5 + 1))), .ref 138])) (h' := hp N w455.2) rfl ?_
    exact em214_859 k28 q28 a5 w455.1 (w455.2.1 0 (xi (a5 + 1))) (w455.2.1 0 (xi (a5 + 2))) 1 (by omega) (by omega) w455.2 _ h
def gm214_787 (N : Nat) (k28 : Int32 → Hs → Option (Int32 × Hs)) (a5 : Int32) (x : Hs) : Option (Int32 × Hs) := cond (aIn (a5 + 1) N) (cond (aIn (a5 + 2) N) (cond (aIn (a5 + 3) N) (if x.1 0 (xi (a5 + 3)) = 0 then (gm214_814 N k28 a5 (x.1 0 (xi (a5 + 1))) (x.1 0 (xi (a5 + 2))) 0 x) else (gm214_814 N k28 a5 (x.1 0 (xi (a5 + 1))) (x.1 0 (xi (a5 + 2))) 1 x)) none) none) none
theorem em214_787 {N n : Nat} (k28 : Int32 → Hs → Option (Int32 × Hs)) (q28 : ∀ {u1 u2 : Nat} (a5 : Int32) (hu1 : u1 + (0 + 4 * n) ≤ 601024) (hu2 : u2 + (0 + 24 * n) ≤ 7293034) (x : Hs) (r : Int32 × Hs), k28 a5 x = some r → Ev 214 (u1, u2) (28, [some (.ref 0), some (.ref 1), some (.ref 138), some (.ref 187), some (.ref 188), some (.int a5), none, none], []) (hp N x) (cvMi N r)) {u1 u2 : Nat} (a5 : Int32) (hu1 : u1 + (4 + 4 * n) ≤ 601024) (hu2 : u2 + (24 + 24 * n) ≤ 7293034) (x : Hs) (r : Int32 × Hs) (h : gm214_787 N k28 a5 x = some r) : Ev 214 (u1, u2) (787, [some (.ref 0), some (.ref 1), some (.ref 138), some (.ref 187), some (.ref 188), some (.int a5), none, none], []) (hp N x) (cvMi N r) := by
  unfold gm214_787 at h
  refine ev_run (n := 5) (u' := (u1, u2)) (f' := (793, [some (.ref 0), some (.ref 1), some (.ref 138), some (.ref 187), some (.ref 188), some (.int a5), none, none], [.int (a5 + 1), .ref 0, .ref 1])) (h' := hp N x) rfl ?_
  obtain ⟨h161, h⟩ := cond_some h
  refine ev_iald rfl rfl h161 ?_
  refine ev_run (n := 4) (u' := (u1, u2)) (f' := (799, [some (.ref 0), some (.ref 1), some (.ref 138), some (.ref 187), some (.ref 188), some (.int a5), none, none], [.int (a5 + 2), .ref 0, .int (x.1 0 (xi (a5 + 1))), .ref 1])) (h' := hp N x) rfl ?_
  obtain ⟨h162, h⟩ := cond_some h
  refine ev_iald rfl rfl h162 ?_
  refine ev_run (n := 4) (u' := (u1, u2)) (f' := (805, [some (.ref 0), some (.ref 1), some (.ref 138), some (.ref 187), some (.ref 188), some (.int a5), none, none], [.int (a5 + 3), .ref 0, .int (x.1 0 (xi (a5 + 2))), .int (x.1 0 (xi (a5 + 1))), .ref 1])) (h' := hp N x) rfl ?_
  obtain ⟨h163, h⟩ := cond_some h
  refine ev_iald rfl rfl h163 ?_
  rcases ite_or h with ⟨h164, h⟩ | ⟨h164, h⟩
  · refine ev_ift rfl (decide_eq_true h164) ?_
    refine ev_run (n := 1) (u' := (u1, u2)) (f' := (814, [some (.ref 0), some (.ref 1), some (.ref 138), some (.ref 187), some (.ref 188), some (.int a5), none, none], [.int 0, .int (x.1 0 (xi (a5 + 2))), .int (x.1 0 (xi (a5 + 1))), .ref 1])) (h' := hp N x) rfl ?_
    exact em214_814 k28 q28 a5 (x.1 0 (xi (a5 + 1))) (x.1 0 (xi (a5 + 2))) 0 (by omega) (by omega) x _ h
  · refine ev_iff rfl (decide_eq_false h164) ?_
    refine ev_run (n := 2) (u' := (u1, u2)) (f' := (814, [some (.ref 0), some (.ref 1), some (.ref 138), some (.ref 187), some (.ref 188), some (.int a5), none, none], [.int 1, .int (x.1 0 (xi (a5 + 2))), .int (x.1 0 (xi (a5 + 1))), .ref 1])) (h' := hp N x) rfl ?_
    exact em214_814 k28 q28 a5 (x.1 0 (xi (a5 + 1))) (x.1 0 (xi (a5 + 2))) 1 (by omega) (by omega) x _ h
def gm214_984 (N : Nat) (k28 : Int32 → Hs → Option (Int32 × Hs)) (a5 : Int32) (x : Hs) : Option (Int32 × Hs) := gm214_2306 N k28 a5 x
theorem em214_984 {N n : Nat} (k28 : Int32 → Hs → Option (Int32 × Hs)) (q28 : ∀ {u1 u2 : Nat} (a5 : Int32) (hu1 : u1 + (0 + 4 * n) ≤ 601024) (hu2 : u2 + (0 + 24 * n) ≤ 7293034) (x : Hs) (r : Int32 × Hs), k28 a5 x = some r → Ev 214 (u1, u2) (28, [some (.ref 0), some (.ref 1), some (.ref 138), some (.ref 187), some (.ref 188), some (.int a5), none, none], []) (hp N x) (cvMi N r)) {u1 u2 : Nat} (a5 : Int32) (hu1 : u1 + (0 + 4 * n) ≤ 601024) (hu2 : u2 + (0 + 24 * n) ≤ 7293034) (x : Hs) (r : Int32 × Hs) (h : gm214_984 N k28 a5 x = some r) : Ev 214 (u1, u2) (984, [some (.ref 0), some (.ref 1), some (.ref 138), some (.ref 187), some (.ref 188), some (.int a5), none, none], []) (hp N x) (cvMi N r) := by
  unfold gm214_984 at h
  refine ev_run (n := 1) (u' := (u1, u2)) (f' := (2306, [some (.ref 0), some (.ref 1), some (.ref 138), some (.ref 187), some (.ref 188), some (.int a5), none, none], [])) (h' := hp N x) rfl ?_
  exact em214_2306 k28 q28 a5 (by omega) (by omega) x _ h
def gm214_907 (N : Nat) (k28 : Int32 → Hs → Option (Int32 × Hs)) (a5 : Int32) (x : Hs) : Option (Int32 × Hs) := cond (aIn (a5 + 1) N) (cond (aIn (a5 + 2) N) (cond (aIn (a5 + 3) N) ((gm193 (x.1 0 (xi (a5 + 1))) (x.1 0 (xi (a5 + 2))) (x.1 0 (xi (a5 + 3))) x).bind fun w168 => (cond (aIn (a5 + 1) N) (cond (aIn (a5 + 2) N) (cond (aIn (a5 + 3) N) ((gm143 (w168.2.1 0 (xi (a5 + 1))) (w168.2.1 0 (xi (a5 + 2))) (w168.2.1 0 (xi (a5 + 3))) w168.2).bind fun w173 => ((gm112 w173.2).bind fun w175 => (if w175 = w168.1 then (if w168.1 = 0 then (cond (aIn 0 1) (if (lg_cmp (w173.2.2.1 187 (xi 0)) (Int32.toInt64 w173.1)) = 0 then (gm214_984 N k28 a5 w173.2) else (some (0, w173.2))) none) else (gm214_984 N k28 a5 w173.2)) else (some (0, w173.2))))) none) none) none)) none) none) none
theorem em214_907 {N n : Nat} (k28 : Int32 → Hs → Option (Int32 × Hs)) (q28 : ∀ {u1 u2 : Nat} (a5 : Int32) (hu1 : u1 + (0 + 4 * n) ≤ 601024) (hu2 : u2 + (0 + 24 * n) ≤ 7293034) (x : Hs) (r : Int32 × Hs), k28 a5 x = some r → Ev 214 (u1, u2) (28, [some (.ref 0), some (.ref 1), some (.ref 138), some (.ref 187), some (.ref 188), some (.int a5), none, none], []) (hp N x) (cvMi N r)) {u1 u2 : Nat} (a5 : Int32) (hu1 : u1 + (3 + 4 * n) ≤ 601024) (hu2 : u2 + (18 + 24 * n) ≤ 7293034) (x : Hs) (r : Int32 × Hs) (h : gm214_907 N k28 a5 x = some r) : Ev 214 (u1, u2) (907, [some (.ref 0), some (.ref 1), some (.ref 138), some (.ref 187), some (.ref 188), some (.int a5), none, none], []) (hp N x) (cvMi N r) := by
  unfold gm214_907 at h
  refine ev_run (n := 5) (u' := (u1, u2)) (f' := (913, [some (.ref 0), some (.ref 1), some (.ref 138), some (.ref 187), some (.ref 188), some (.int a5), none, none], [.int (a5 + 1), .ref 0, .ref 1])) (h' := hp N x) rfl ?_
  obtain ⟨h165, h⟩ := cond_some h
  refine ev_iald rfl rfl h165 ?_
  refine ev_run (n := 4) (u' := (u1, u2)) (f' := (919, [some (.ref 0), some (.ref 1), some (.ref 138), some (.ref 187), some (.ref 188), some (.int a5), none, none], [.int (a5 + 2), .ref 0, .int (x.1 0 (xi (a5 + 1))), .ref 1])) (h' := hp N x) rfl ?_
  obtain ⟨h166, h⟩ := cond_some h
  refine ev_iald rfl rfl h166 ?_
  refine ev_run (n := 4) (u' := (u1, u2)) (f' := (925, [some (.ref 0), some (.ref 1), some (.ref 138), some (.ref 187), some (.ref 188), some (.int a5), none, none], [.int (a5 + 3), .ref 0, .int (x.1 0 (xi (a5 + 2))), .int (x.1 0 (xi (a5 + 1))), .ref 1])) (h' := hp N x) rfl ?_
  obtain ⟨h167, h⟩ := cond_some h
  refine ev_iald rfl rfl h167 ?_
  refine ev_run (n := 1) (u' := (u1, u2)) (f' := (927, [some (.ref 0), some (.ref 1), some (.ref 138), some (.ref 187), some (.ref 188), some (.int a5), none, none], [.ref 187, .int (x.1 0 (xi (a5 + 3))), .int (x.1 0 (xi (a5 + 2))), .int (x.1 0 (xi (a5 + 1))), .ref 1])) (h' := hp N x) rfl ?_
  obtain ⟨w168, h169, h⟩ := bind_ok h
  refine ev_call (v := some (.int w168.1)) (h1 := hp N w168.2) rfl rfl rfl (ok_u rfl (by show u1 + 3 ≤ 601024; omega) (by show u2 + 18 ≤ 7293034; omega)) (em193 (x.1 0 (xi (a5 + 1))) (x.1 0 (xi (a5 + 2))) (x.1 0 (xi (a5 + 3))) (by decide) (by decide) x _ h169) ?_
  show Ev 214 (u1 + 3, u2 + 18) (930, [some (.ref 0), some (.ref 1), some (.ref 138), some (.ref 187), some (.ref 188), some (.int a5), none, none], [.int w168.1]) (hp N w168.2) _
  refine ev_run (n := 6) (u' := (u1 + 3, u2 + 18)) (f' := (938, [some (.ref 0), some (.ref 1), some (.ref 138), some (.ref 187), some (.ref 188), some (.int a5), some (.int w168.1), none], [.int (a5 + 1), .ref 0, .ref 138])) (h' := hp N w168.2) rfl ?_
  obtain ⟨h170, h⟩ := cond_some h
  refine ev_iald rfl rfl h170 ?_
  refine ev_run (n := 4) (u' := (u1 + 3, u2 + 18)) (f' := (944, [some (.ref 0), some (.ref 1), some (.ref 138), some (.ref 187), some (.ref 188), some (.int a5), some (.int w168.1), none], [.int (a5 + 2), .ref 0, .int (w168.2.1 0 (xi (a5 + 1))), .ref 138])) (h' := hp N w168.2) rfl ?_
  obtain ⟨h171, h⟩ := cond_some h
  refine ev_iald rfl rfl h171 ?_
  refine ev_run (n := 4) (u' := (u1 + 3, u2 + 18)) (f' := (950, [some (.ref 0), some (.ref 1), some (.ref 138), some (.ref 187), some (.ref 188), some (.int a5), some (.int w168.1), none], [.int (a5 + 3), .ref 0, .int (w168.2.1 0 (xi (a5 + 2))), .int (w168.2.1 0 (xi (a5 + 1))), .ref 138])) (h' := hp N w168.2) rfl ?_
  obtain ⟨h172, h⟩ := cond_some h
  refine ev_iald rfl rfl h172 ?_
  obtain ⟨w173, h174, h⟩ := bind_ok h
  refine ev_call (v := some (.int w173.1)) (h1 := hp N w173.2) rfl rfl rfl (ok_u rfl (by show u1 + 3 + 0 ≤ 601024; omega) (by show u2 + 18 + 0 ≤ 7293034; omega)) (em143 (w168.2.1 0 (xi (a5 + 1))) (w168.2.1 0 (xi (a5 + 2))) (w168.2.1 0 (xi (a5 + 3))) w168.2 _ h174) ?_
  show Ev 214 (u1 + 3, u2 + 18) (954, [some (.ref 0), some (.ref 1), some (.ref 138), some (.ref 187), some (.ref 188), some (.int a5), some (.int w168.1), none], [.int w173.1]) (hp N w173.2) _
  refine ev_run (n := 2) (u' := (u1 + 3, u2 + 18)) (f' := (957, [some (.ref 0), some (.ref 1), some (.ref 138), some (.ref 187), some (.ref 188), some (.int a5), some (.int w168.1), some (.int w173.1)], [.ref 138])) (h' := hp N w173.2) rfl ?_
  obtain ⟨w175, h176, h⟩ := bind_ok h
  refine ev_call (v := some (.int w175)) (h1 := hp N w173.2) rfl rfl rfl (ok_u rfl (by show u1 + 3 + 0 ≤ 601024; omega) (by show u2 + 18 + 0 ≤ 7293034; omega)) (em112 w173.2 _ h176) ?_
  show Ev 214 (u1 + 3, u2 + 18) (960, [some (.ref 0), some (.ref 1), some (.ref 138), some (.ref 187), some (.ref 188), some (.int a5), some (.int w168.1), some (.int w173.1)], [.int w175]) (hp N w173.2) _
  refine ev_run (n := 1) (u' := (u1 + 3, u2 + 18)) (f' := (962, [some (.ref 0), some (.ref 1), some (.ref 138), some (.ref 187), some (.ref 188), some (.int a5), some (.int w168.1), some (.int w173.1)], [.int w168.1, .int w175])) (h' := hp N w173.2) rfl ?_
  rcases ite_or h with ⟨h180, h⟩ | ⟨h180, h⟩
  · refine ev_ict rfl (decide_eq_true h180) ?_
    refine ev_run (n := 1) (u' := (u1 + 3, u2 + 18)) (f' := (969, [some (.ref 0), some (.ref 1), some (.ref 138), some (.ref 187), some (.ref 188), some (.int a5), some (.int w168.1), some (.int w173.1)], [.int w168.1])) (h' := hp N w173.2) rfl ?_
    rcases ite_or h with ⟨h179, h⟩ | ⟨h179, h⟩
    · refine ev_iff rfl (decide_eq_false (fun w => w h179)) ?_
      refine ev_run (n := 2) (u' := (u1 + 3, u2 + 18)) (f' := (974, [some (.ref 0), some (.ref 1), some (.ref 138), some (.ref 187), some (.ref 188), some (.int a5), some (.int w168.1), some (.int w173.1)], [.int 0, .ref 187])) (h' := hp N w173.2) rfl ?_
      obtain ⟨h177, h⟩ := cond_some h
      refine ev_lald rfl rfl h177 ?_
      refine ev_run (n := 3) (u' := (u1 + 3, u2 + 18)) (f' := (979, [some (.ref 0), some (.ref 1), some (.ref 138), some (.ref 187), some (.ref 188), some (.int a5), some (.int w168.1), some (.int w173.1)], [.int (lg_cmp (w173.2.2.1 187 (xi 0)) (Int32.toInt64 w173.1))])) (h' := hp N w173.2) rfl ?_
      rcases ite_or h with ⟨h178, h⟩ | ⟨h178, h⟩
      · refine ev_ift rfl (decide_eq_true h178) ?_
        exact em214_984 k28 q28 a5 (by omega) (by omega) w173.2 _ h
      · refine ev_iff rfl (decide_eq_false h178) ?_
        refine ev_run (n := 1) (u' := (u1 + 3, u2 + 18)) (f' := (983, [some (.ref 0), some (.ref 1), some (.ref 138), some (.ref 187), some (.ref 188), some (.int a5), some (.int w168.1), some (.int w173.1)], [.int 0])) (h' := hp N w173.2) rfl ?_
        cases h
        exact ev_iret rfl (end_u (by show _ ≤ 601024; omega) (by show _ ≤ 7293034; omega)) rfl (Or.inr ⟨rfl, rfl⟩)
    · refine ev_ift rfl (decide_eq_true h179) ?_
      exact em214_984 k28 q28 a5 (by omega) (by omega) w173.2 _ h
  · refine ev_icf rfl (decide_eq_false h180) ?_
    refine ev_run (n := 1) (u' := (u1 + 3, u2 + 18)) (f' := (966, [some (.ref 0), some (.ref 1), some (.ref 138), some (.ref 187), some (.ref 188), some (.int a5), some (.int w168.1), some (.int w173.1)], [.int 0])) (h' := hp N w173.2) rfl ?_
    cases h
    exact ev_iret rfl (end_u (by show _ ≤ 601024; omega) (by show _ ≤ 7293034; omega)) rfl (Or.inr ⟨rfl, rfl⟩)
def gm214_1040 (N : Nat) (k28 : Int32 → Hs → Option (Int32 × Hs)) (a5 : Int32) (x : Hs) : Option (Int32 × Hs) := gm214_2306 N k28 a5 x
theorem em214_1040 {N n : Nat} (k28 : Int32 → Hs → Option (Int32 × Hs)) (q28 : ∀ {u1 u2 : Nat} (a5 : Int32) (hu1 : u1 + (0 + 4 * n) ≤ 601024) (hu2 : u2 + (0 + 24 * n) ≤ 7293034) (x : Hs) (r : Int32 × Hs), k28 a5 x = some r → Ev 214 (u1, u2) (28, [some (.ref 0), some (.ref 1), some (.ref 138), some (.ref 187), some (.ref 188), some (.int a5), none, none], []) (hp N x) (cvMi N r)) {u1 u2 : Nat} (a5 : Int32) (hu1 : u1 + (0 + 4 * n) ≤ 601024) (hu2 : u2 + (0 + 24 * n) ≤ 7293034) (x : Hs) (r : Int32 × Hs) (h : gm214_1040 N k28 a5 x = some r) : Ev 214 (u1, u2) (1040, [some (.ref 0), some (.ref 1), some (.ref 138), some (.ref 187), some (.ref 188), some (.int a5), none, none], []) (hp N x) (cvMi N r) := by
  unfold gm214_1040 at h
  refine ev_run (n := 1) (u' := (u1, u2)) (f' := (2306, [some (.ref 0), some (.ref 1), some (.ref 138), some (.ref 187), some (.ref 188), some (.int a5), none, none], [])) (h' := hp N x) rfl ?_
  exact em214_2306 k28 q28 a5 (by omega) (by omega) x _ h
def gm214_987 (N : Nat) (k28 : Int32 → Hs → Option (Int32 × Hs)) (a5 : Int32) (x : Hs) : Option (Int32 × Hs) := cond (aIn (a5 + 1) N) ((gm194 (x.1 0 (xi (a5 + 1))) x).bind fun w182 => (cond (aIn (a5 + 1) N) ((gm144 (w182.2.1 0 (xi (a5 + 1))) w182.2).bind fun w185 => ((gm112 w185.2).bind fun w187 => (if w187 = w182.1 then (if w182.1 = 0 then (cond (aIn 0 1) (if (lg_cmp (w185.2.2.1 187 (xi 0)) (Int32.toInt64 w185.1)) = 0 then (gm214_1040 N k28 a5 w185.2) else (some (0, w185.2))) none) else (gm214_1040 N k28 a5 w185.2)) else (some (0, w185.2))))) none)) none
theorem em214_987 {N n : Nat} (k28 : Int32 → Hs → Option (Int32 × Hs)) (q28 : ∀ {u1 u2 : Nat} (a5 : Int32) (hu1 : u1 + (0 + 4 * n) ≤ 601024) (hu2 : u2 + (0 + 24 * n) ≤ 7293034) (x : Hs) (r : Int32 × Hs), k28 a5 x = some r → Ev 214 (u1, u2) (28, [some (.ref 0), some (.ref 1), some (.ref 138), some (.ref 187), some (.ref 188), some (.int a5), none, none], []) (hp N x) (cvMi N r)) {u1 u2 : Nat} (a5 : Int32) (hu1 : u1 + (2 + 4 * n) ≤ 601024) (hu2 : u2 + (12 + 24 * n) ≤ 7293034) (x : Hs) (r : Int32 × Hs) (h : gm214_987 N k28 a5 x = some r) : Ev 214 (u1, u2) (987, [some (.ref 0), some (.ref 1), some (.ref 138), some (.ref 187), some (.ref 188), some (.int a5), none, none], []) (hp N x) (cvMi N r) := by
  unfold gm214_987 at h
  refine ev_run (n := 5) (u' := (u1, u2)) (f' := (993, [some (.ref 0), some (.ref 1), some (.ref 138), some (.ref 187), some (.ref 188), some (.int a5), none, none], [.int (a5 + 1), .ref 0, .ref 1])) (h' := hp N x) rfl ?_
  obtain ⟨h181, h⟩ := cond_some h
  refine ev_iald rfl rfl h181 ?_
  refine ev_run (n := 1) (u' := (u1, u2)) (f' := (995, [some (.ref 0), some (.ref 1), some (.ref 138), some (.ref 187), some (.ref 188), some (.int a5), none, none], [.ref 187, .int (x.1 0 (xi (a5 + 1))), .ref 1])) (h' := hp N x) rfl ?_
  obtain ⟨w182, h183, h⟩ := bind_ok h
  refine ev_call (v := some (.int w182.1)) (h1 := hp N w182.2) rfl rfl rfl (ok_u rfl (by show u1 + 2 ≤ 601024; omega) (by show u2 + 12 ≤ 7293034; omega)) (em194 (x.1 0 (xi (a5 + 1))) (by decide) (by decide) x _ h183) ?_
  show Ev 214 (u1 + 2, u2 + 12) (998, [some (.ref 0), some (.ref 1), some (.ref 138), some (.ref 187), some (.ref 188), some (.int a5), none, none], [.int w182.1]) (hp N w182.2) _
  refine ev_run (n := 6) (u' := (u1 + 2, u2 + 12)) (f' := (1006, [some (.ref 0), some (.ref 1), some (.ref 138), some (.ref 187), some (.ref 188), some (.int a5), some (.int w182.1), none], [.int (a5 + 1), .ref 0, .ref 138])) (h' := hp N w182.2) rfl ?_
  obtain ⟨h184, h⟩ := cond_some h
  refine ev_iald rfl rfl h184 ?_
  obtain ⟨w185, h186, h⟩ := bind_ok h
  refine ev_call (v := some (.int w185.1)) (h1 := hp N w185.2) rfl rfl rfl (ok_u rfl (by show u1 + 2 + 0 ≤ 601024; omega) (by show u2 + 12 + 0 ≤ 7293034; omega)) (em144 (w182.2.1 0 (xi (a5 + 1))) w182.2 _ h186) ?_
  show Ev 214 (u1 + 2, u2 + 12) (1010, [some (.ref 0), some (.ref 1), some (.ref 138), some (.ref 187), some (.ref 188), some (.int a5), some (.int w182.1), none], [.int w185.1]) (hp N w185.2) _
  refine ev_run (n := 2) (u' := (u1 + 2, u2 + 12)) (f' := (1013, [some (.ref 0), some (.ref 1), some (.ref 138), some (.ref 187), some (.ref 188), some (.int a5), some (.int w182.1), some (.int w185.1)], [.ref 138])) (h' := hp N w185.2) rfl ?_
  obtain ⟨w187, h188, h⟩ := bind_ok h
  refine ev_call (v := some (.int w187)) (h1 := hp N w185.2) rfl rfl rfl (ok_u rfl (by show u1 + 2 + 0 ≤ 601024; omega) (by show u2 + 12 + 0 ≤ 7293034; omega)) (em112 w185.2 _ h188) ?_
  show Ev 214 (u1 + 2, u2 + 12) (1016, [some (.ref 0), some (.ref 1), some (.ref 138), some (.ref 187), some (.ref 188), some (.int a5), some (.int w182.1), some (.int w185.1)], [.int w187]) (hp N w185.2) _
  refine ev_run (n := 1) (u' := (u1 + 2, u2 + 12)) (f' := (1018, [some (.ref 0), some (.ref 1), some (.ref 138), some (.ref 187), some (.ref 188), some (.int a5), some (.int w182.1), some (.int w185.1)], [.int w182.1, .int w187])) (h' := hp N w185.2) rfl ?_
  rcases ite_or h with ⟨h192, h⟩ | ⟨h192, h⟩
  · refine ev_ict rfl (decide_eq_true h192) ?_
    refine ev_run (n := 1) (u' := (u1 + 2, u2 + 12)) (f' := (1025, [some (.ref 0), some (.ref 1), some (.ref 138), some (.ref 187), some (.ref 188), some (.int a5), some (.int w182.1), some (.int w185.1)], [.int w182.1])) (h' := hp N w185.2) rfl ?_
    rcases ite_or h with ⟨h191, h⟩ | ⟨h191, h⟩
    · refine ev_iff rfl (decide_eq_false (fun w => w h191)) ?_
      refine ev_run (n := 2) (u' := (u1 + 2, u2 + 12)) (f' := (1030, [some (.ref 0), some (.ref 1), some (.ref 138), some (.ref 187), some (.ref 188), some (.int a5), some (.int w182.1), some (.int w185.1)], [.int 0, .ref 187])) (h' := hp N w185.2) rfl ?_
      obtain ⟨h189, h⟩ := cond_some h
      refine ev_lald rfl rfl h189 ?_
      refine ev_run (n := 3) (u' := (u1 + 2, u2 + 12)) (f' := (1035, [some (.ref 0), some (.ref 1), some (.ref 138), some (.ref 187), some (.ref 188), some (.int a5), some (.int w182.1), some (.int w185.1)], [.int (lg_cmp (w185.2.2.1 187 (xi 0)) (Int32.toInt64 w185.1))])) (h' := hp N w185.2) rfl ?_
      rcases ite_or h with ⟨h190, h⟩ | ⟨h190, h⟩
      · refine ev_ift rfl (decide_eq_true h190) ?_
        exact em214_1040 k28 q28 a5 (by omega) (by omega) w185.2 _ h
      · refine ev_iff rfl (decide_eq_false h190) ?_
        refine ev_run (n := 1) (u' := (u1 + 2, u2 + 12)) (f' := (1039, [some (.ref 0), some (.ref 1), some (.ref 138), some (.ref 187), some (.ref 188), some (.int a5), some (.int w182.1), some (.int w185.1)], [.int 0])) (h' := hp N w185.2) rfl ?_
        cases h
        exact ev_iret rfl (end_u (by show _ ≤ 601024; omega) (by show _ ≤ 7293034; omega)) rfl (Or.inr ⟨rfl, rfl⟩)
    · refine ev_ift rfl (decide_eq_true h191) ?_
      exact em214_1040 k28 q28 a5 (by omega) (by omega) w185.2 _ h
  · refine ev_icf rfl (decide_eq_false h192) ?_
    refine ev_run (n := 1) (u' := (u1 + 2, u2 + 12)) (f' := (1022, [some (.ref 0), some (.ref 1), some (.ref 138), some (.ref 187), some (.ref 188), some (.int a5), some (.int w182.1), some (.int w185.1)], [.int 0])) (h' := hp N w185.2) rfl ?_
    cases h
    exact ev_iret rfl (end_u (by show _ ≤ 601024; omega) (by show _ ≤ 7293034; omega)) rfl (Or.inr ⟨rfl, rfl⟩)
def gm214_1108 (N : Nat) (k28 : Int32 → Hs → Option (Int32 × Hs)) (a5 : Int32) (x : Hs) : Option (Int32 × Hs) := gm214_2306 N k28 a5 x
theorem em214_1108 {N n : Nat} (k28 : Int32 → Hs → Option (Int32 × Hs)) (q28 : ∀ {u1 u2 : Nat} (a5 : Int32) (hu1 : u1 + (0 + 4 * n) ≤ 601024) (hu2 : u2 + (0 + 24 * n) ≤ 7293034) (x : Hs) (r : Int32 × Hs), k28 a5 x = some r → Ev 214 (u1, u2) (28, [some (.ref 0), some (.ref 1), some (.ref 138), some (.ref 187), some (.ref 188), some (.int a5), none, none], []) (hp N x) (cvMi N r)) {u1 u2 : Nat} (a5 : Int32) (hu1 : u1 + (0 + 4 * n) ≤ 601024) (hu2 : u2 + (0 + 24 * n) ≤ 7293034) (x : Hs) (r : Int32 × Hs) (h : gm214_1108 N k28 a5 x = some r) : Ev 214 (u1, u2) (1108, [some (.ref 0), some (.ref 1), some (.ref 138), some (.ref 187), some (.ref 188), some (.int a5), none, none], []) (hp N x) (cvMi N r) := by
  unfold gm214_1108 at h
  refine ev_run (n := 1) (u' := (u1, u2)) (f' := (2306, [some (.ref 0), some (.ref 1), some (.ref 138), some (.ref 187), some (.ref 188), some (.int a5), none, none], [])) (h' := hp N x) rfl ?_
  exact em214_2306 k28 q28 a5 (by omega) (by omega) x _ h
def gm214_1043 (N : Nat) (k28 : Int32 → Hs → Option (Int32 × Hs)) (a5 : Int32) (x : Hs) : Option (Int32 × Hs) := cond (aIn (a5 + 1) N) (cond (aIn (a5 + 2) N) ((gm195 (x.1 0 (xi (a5 + 1))) (x.1 0 (xi (a5 + 2))) x).bind fun w195 => (cond (aIn (a5 + 1) N) (cond (aIn (a5 + 2) N) ((gm145 (w195.2.1 0 (xi (a5 + 1))) (w195.2.1 0 (xi (a5 + 2))) w195.2).bind fun w199 => ((gm112 w199.2).bind fun w201 => (if w201 = w195.1 then (if w195.1 = 0 then (cond (aIn 0 1) (if (lg_cmp (w199.2.2.1 187 (xi 0)) (Int32.toInt64 w199.1)) = 0 then (gm214_1108 N k28 a5 w199.2) else (some (0, w199.2))) none) else (gm214_1108 N k28 a5 w199.2)) else (some (0, w199.2))))) none) none)) none) none
theorem em214_1043 {N n : Nat} (k28 : Int32 → Hs → Option (Int32 × Hs)) (q28 : ∀ {u1 u2 : Nat} (a5 : Int32) (hu1 : u1 + (0 + 4 * n) ≤ 601024) (hu2 : u2 + (0 + 24 * n) ≤ 7293034) (x : Hs) (r : Int32 × Hs), k28 a5 x = some r → Ev 214 (u1, u2) (28, [some (.ref 0), some (.ref 1), some (.ref 138), some (.ref 187), some (.ref 188), some (.int a5), none, none], []) (hp N x) (cvMi N r)) {u1 u2 : Nat} (a5 : Int32) (hu1 : u1 + (2 + 4 * n) ≤ 601024) (hu2 : u2 + (12 + 24 * n) ≤ 7293034) (x : Hs) (r : Int32 × Hs) (h : gm214_1043 N k28 a5 x = some r) : Ev 214 (u1, u2) (1043, [some (.ref 0), some (.ref 1), some (.ref 138), some (.ref 187), some (.ref 188), some (.int a5), none, none], []) (hp N x) (cvMi N r) := by
  unfold gm214_1043 at h
  refine ev_run (n := 5) (u' := (u1, u2)) (f' := (1049, [some (.ref 0), some (.ref 1), some (.ref 138), some (.ref 187), some (.ref 188), some (.int a5), none, none], [.int (a5 + 1), .ref 0, .ref 1])) (h' := hp N x) rfl ?_
  obtain ⟨h193, h⟩ := cond_some h
  refine ev_iald rfl rfl h193 ?_
  refine ev_run (n := 4) (u' := (u1, u2)) (f' := (1055, [some (.ref 0), some (.ref 1), some (.ref 138), some (.ref 187), some (.ref 188), some (.int a5), none, none], [.int (a5 + 2), .ref 0, .int (x.1 0 (xi (a5 + 1))), .ref 1])) (h' := hp N x) rfl ?_
  obtain ⟨h194, h⟩ := cond_some h
  refine ev_iald rfl rfl h194 ?_
  refine ev_run (n := 1) (u' := (u1, u2)) (f' := (1057, [some (.ref 0), some (.ref 1), some (.ref 138), some (.ref 187), some (.ref 188), some (.int a5), none, none], [.ref 187, .int (x.1 0 (xi (a5 + 2))), .int (x.1 0 (xi (a5 + 1))), .ref 1])) (h' := hp N x) rfl ?_
  obtain ⟨w195, h196, h⟩ := bind_ok h
  refine ev_call (v := some (.int w195.1)) (h1 := hp N w195.2) rfl rfl rfl (ok_u rfl (by show u1 + 2 ≤ 601024; omega) (by show u2 + 12 ≤ 7293034; omega)) (em195 (x.1 0 (xi (a5 + 1))) (x.1 0 (xi (a5 + 2))) (by decide) (by decide) x _ h196) ?_
  show Ev 214 (u1 + 2, u2 + 12) (1060, [some (.ref 0), some (.ref 1), some (.ref 138), some (.ref 187), some (.ref 188), some (.int a5), none, none], [.int w195.1]) (hp N w195.2) _
  refine ev_run (n := 6) (u' := (u1 + 2, u2 + 12)) (f' := (1068, [some (.ref 0), some (.ref 1), some (.ref 138), some (.ref 187), some (.ref 188), some (.int a5), some (.int w195.1), none], [.int (a5 + 1), .ref 0, .ref 138])) (h' := hp N w195.2) rfl ?_
  obtain ⟨h197, h⟩ := cond_some h
  refine ev_iald rfl rfl h197 ?_
  refine ev_run (n := 4) (u' := (u1 + 2, u2 + 12)) (f' := (1074, [some (.ref 0), some (.ref 1), some (.ref 138), some (.ref 187), some (.ref 188), some (.int a5), some (.int w195.1), none], [.int (a5 + 2), .ref 0, .int (w195.2.1 0 (xi (a5 + 1))), .ref 138])) (h' := hp N w195.2) rfl ?_
  obtain ⟨h198, h⟩ := cond_some h
  refine ev_iald rfl rfl h198 ?_
  obtain ⟨w199, h200, h⟩ := bind_ok h
  refine ev_call (v := some (.int w199.1)) (h1 := hp N w199.2) rfl rfl rfl (ok_u rfl (by show u1 + 2 + 0 ≤ 601024; omega) (by show u2 + 12 + 0 ≤ 7293034; omega)) (em145 (w195.2.1 0 (xi (a5 + 1))) (w195.2.1 0 (xi (a5 + 2))) w195.2 _ h200) ?_
  show Ev 214 (u1 + 2, u2 + 12) (1078, [some (.ref 0), some (.ref 1), some (.ref 138), some (.ref 187), some (.ref 188), some (.int a5), some (.int w195.1), none], [.int w199.1]) (hp N w199.2) _
  refine ev_run (n := 2) (u' := (u1 + 2, u2 + 12)) (f' := (1081, [some (.ref 0), some (.ref 1), some (.ref 138), some (.ref 187), some (.ref 188), some (.int a5), some (.int w195.1), some (.int w199.1)], [.ref 138])) (h' := hp N w199.2) rfl ?_
  obtain ⟨w201, h202, h⟩ := bind_ok h
  refine ev_call (v := some (.int w201)) (h1 := hp N w199.2) rfl rfl rfl (ok_u rfl (by show u1 + 2 + 0 ≤ 601024; omega) (by show u2 + 12 + 0 ≤ 7293034; omega)) (em112 w199.2 _ h202) ?_
  show Ev 214 (u1 + 2, u2 + 12) (1084, [some (.ref 0), some (.ref 1), some (.ref 138), some (.ref 187), some (.ref 188), some (.int a5), some (.int w195.1), some (.int w199.1)], [.int w201]) (hp N w199.2) _
  refine ev_run (n := 1) (u' := (u1 + 2, u2 + 12)) (f' := (1086, [some (.ref 0), some (.ref 1), some (.ref 138), some (.ref 187), some (.ref 188), some (.int a5), some (.int w195.1), some (.int w199.1)], [.int w195.1, .int w201])) (h' := hp N w199.2) rfl ?_
  rcases ite_or h with ⟨h206, h⟩ | ⟨h206, h⟩
  · refine ev_ict rfl (decide_eq_true h206) ?_
    refine ev_run (n := 1) (u' := (u1 + 2, u2 + 12)) (f' := (1093, [some (.ref 0), some (.ref 1), some (.ref 138), some (.ref 187), some (.ref 188), some (.int a5), some (.int w195.1), some (.int w199.1)], [.int w195.1])) (h' := hp N w199.2) rfl ?_
    rcases ite_or h with ⟨h205, h⟩ | ⟨h205, h⟩
    · refine ev_iff rfl (decide_eq_false (fun w => w h205)) ?_
      refine ev_run (n := 2) (u' := (u1 + 2, u2 + 12)) (f' := (1098, [some (.ref 0), some (.ref 1), some (.ref 138), some (.ref 187), some (.ref 188), some (.int a5), some (.int w195.1), some (.int w199.1)], [.int 0, .ref 187])) (h' := hp N w199.2) rfl ?_
      obtain ⟨h203, h⟩ := cond_some h
      refine ev_lald rfl rfl h203 ?_
      refine ev_run (n := 3) (u' := (u1 + 2, u2 + 12)) (f' := (1103, [some (.ref 0), some (.ref 1), some (.ref 138), some (.ref 187), some (.ref 188), some (.int a5), some (.int w195.1), some (.int w199.1)], [.int (lg_cmp (w199.2.2.1 187 (xi 0)) (Int32.toInt64 w199.1))])) (h' := hp N w199.2) rfl ?_
      rcases ite_or h with ⟨h204, h⟩ | ⟨h204, h⟩
      · refine ev_ift rfl (decide_eq_true h204) ?_
        exact em214_1108 k28 q28 a5 (by omega) (by omega) w199.2 _ h
      · refine ev_iff rfl (decide_eq_false h204) ?_
        refine ev_run (n := 1) (u' := (u1 + 2, u2 + 12)) (f' := (1107, [some (.ref 0), some (.ref 1), some (.ref 138), some (.ref 187), some (.ref 188), some (.int a5), some (.int w195.1), some (.int w199.1)], [.int 0])) (h' := hp N w199.2) rfl ?_
        cases h
        exact ev_iret rfl (end_u (by show _ ≤ 601024; omega) (by show _ ≤ 7293034; omega)) rfl (Or.inr ⟨rfl, rfl⟩)
    · refine ev_ift rfl (decide_eq_true h205) ?_
      exact em214_1108 k28 q28 a5 (by omega) (by omega) w199.2 _ h
  · refine ev_icf rfl (decide_eq_false h206) ?_
    refine ev_run (n := 1) (u' := (u1 + 2, u2 + 12)) (f' := (1090, [some (.ref 0), some (.ref 1), some (.ref 138), some (.ref 187), some (.ref 188), some (.int a5), some (.int w195.1), some (.int w199.1)], [.int 0])) (h' := hp N w199.2) rfl ?_
    cases h
    exact ev_iret rfl (end_u (by show _ ≤ 601024; omega) (by show _ ≤ 7293034; omega)) rfl (Or.inr ⟨rfl, rfl⟩)
def gm214_1186 (N : Nat) (k28 : Int32 → Hs → Option (Int32 × Hs)) (a5 : Int32) (x : Hs) : Option (Int32 × Hs) := gm214_2306 N k28 a5 x
theorem em214_1186 {N n : Nat} (k28 : Int32 → Hs → Option (Int32 × Hs)) (q28 : ∀ {u1 u2 : Nat} (a5 : Int32) (hu1 : u1 + (0 + 4 * n) ≤ 601024) (hu2 : u2 + (0 + 24 * n) ≤ 7293034) (x : Hs) (r : Int32 × Hs), k28 a5 x = some r → Ev 214 (u1, u2) (28, [some (.ref 0), some (.ref 1), some (.ref 138), some (.ref 187), some (.ref 188), some (.int a5), none, none], []) (hp N x) (cvMi N r)) {u1 u2 : Nat} (a5 : Int32) (hu1 : u1 + (0 + 4 * n) ≤ 601024) (hu2 : u2 + (0 + 24 * n) ≤ 7293034) (x : Hs) (r : Int32 × Hs) (h : gm214_1186 N k28 a5 x = some r) : Ev 214 (u1, u2) (1186, [some (.ref 0), some (.ref 1), some (.ref 138), some (.ref 187), some (.ref 188), some (.int a5), none, none], []) (hp N x) (cvMi N r) := by
  unfold gm214_1186 at h
  refine ev_run (n := 1) (u' := (u1, u2)) (f' := (2306, [some (.ref 0), some (.ref 1), some (.ref 138), some (.ref 187), some (.ref 188), some (.int a5), none, none], [])) (h' := hp N x) rfl ?_
  exact em214_2306 k28 q28 a5 (by omega) (by omega) x _ h
def gm214_1111 (N : Nat) (k28 : Int32 → Hs → Option (Int32 × Hs)) (a5 : Int32) (x : Hs) : Option (Int32 × Hs) := cond (aIn (a5 + 1) N) ((gm196 (x.1 0 (xi (a5 + 1))) x).bind fun w208 => (cond (aIn (a5 + 1) N) ((gm146 (w208.2.1 0 (xi (a5 + 1))) w208.2).bind fun w211 => ((gm112 w211.2).bind fun w213 => (if w213 = w208.1 then (if w208.1 = 0 then (cond (aIn 0 1) (cond (aN64 (FP.f2d w211.1)) (if (Op.cmpValue (FP.dcmp (w211.2.2.2 188 (xi 0)) (FP.f2d w211.1)) .l) = 0 then (gm214_1186 N k28 a5 w211.2) else (cond (aIn 0 1) (cond (aIn 0 1) (if (Op.cmpValue (FP.dcmp (w211.2.2.2 188 (xi 0)) (w211.2.2.2 188 (xi 0))) .l) = 0 then (some (0, w211.2)) else (if (Op.cmpValue (FP.fcmp w211.1 w211.1) .l) = 0 then (some (0, w211.2)) else (gm214_1186 N k28 a5 w211.2))) none) none)) none) none) else (gm214_1186 N k28 a5 w211.2)) else (some (0, w211.2))))) none)) none
theorem em214_1111 {N n : Nat} (k28 : Int32 → Hs → Option (Int32 × Hs)) (q28 : ∀ {u1 u2 : Nat} (a5 : Int32) (hu1 : u1 + (0 + 4 * n) ≤ 601024) (hu2 : u2 + (0 + 24 * n) ≤ 7293034) (x : Hs) (r : Int32 × Hs), k28 a5 x = some r → Ev 214 (u1, u2) (28, [some (.ref 0), some (.ref 1), some (.ref 138), some (.ref 187), some (.ref 188), some (.int a5), none, none], []) (hp N x) (cvMi N r)) {u1 u2 : Nat} (a5 : Int32) (hu1 : u1 + (1 + 4 * n) ≤ 601024) (hu2 : u2 + (6 + 24 * n) ≤ 7293034) (x : Hs) (r : Int32 × Hs) (h : gm214_1111 N k28 a5 x = some r) : Ev 214 (u1, u2) (1111, [some (.ref 0), some (.ref 1), some (.ref 138), some (.ref 187), some (.ref 188), some (.int a5), none, none], []) (hp N x) (cvMi N r) := by
  unfold gm214_1111 at h
  refine ev_run (n := 5) (u' := (u1, u2)) (f' := (1117, [some (.ref 0), some (.ref 1), some (.ref 138), some (.ref 187), some (.ref 188), some (.int a5), none, none], [.int (a5 + 1), .ref 0, .ref 1])) (h' := hp N x) rfl ?_
  obtain ⟨h207, h⟩ := cond_some h
  refine ev_iald rfl rfl h207 ?_
  refine ev_run (n := 1) (u' := (u1, u2)) (f' := (1120, [some (.ref 0), some (.ref 1), some (.ref 138), some (.ref 187), some (.ref 188), some (.int a5), none, none], [.ref 188, .int (x.1 0 (xi (a5 + 1))), .ref 1])) (h' := hp N x) rfl ?_
  obtain ⟨w208, h209, h⟩ := bind_ok h
  refine ev_call (v := some (.int w208.1)) (h1 := hp N w208.2) rfl rfl rfl (ok_u rfl (by show u1 + 1 ≤ 601024; omega) (by show u2 + 6 ≤ 7293034; omega)) (em196 (x.1 0 (xi (a5 + 1))) (by decide) (by decide) x _ h209) ?_
  show Ev 214 (u1 + 1, u2 + 6) (1123, [some (.ref 0), some (.ref 1), some (.ref 138), some (.ref 187), some (.ref 188), some (.int a5), none, none], [.int w208.1]) (hp N w208.2) _
  refine ev_run (n := 6) (u' := (u1 + 1, u2 + 6)) (f' := (1131, [some (.ref 0), some (.ref 1), some (.ref 138), some (.ref 187), some (.ref 188), some (.int a5), some (.int w208.1), none], [.int (a5 + 1), .ref 0, .ref 138])) (h' := hp N w208.2) rfl ?_
  obtain ⟨h210, h⟩ := cond_some h
  refine ev_iald rfl rfl h210 ?_
  obtain ⟨w211, h212, h⟩ := bind_ok h
  refine ev_call (v := some (.float w211.1)) (h1 := hp N w211.2) rfl rfl rfl (ok_u rfl (by show u1 + 1 + 0 ≤ 601024; omega) (by show u2 + 6 + 0 ≤ 7293034; omega)) (em146 (w208.2.1 0 (xi (a5 + 1))) w208.2 _ h212) ?_
  show Ev 214 (u1 + 1, u2 + 6) (1135, [some (.ref 0), some (.ref 1), some (.ref 138), some (.ref 187), some (.ref 188), some (.int a5), some (.int w208.1), none], [.float w211.1]) (hp N w211.2) _
  refine ev_run (n := 2) (u' := (u1 + 1, u2 + 6)) (f' := (1138, [some (.ref 0), some (.ref 1), some (.ref 138), some (.ref 187), some (.ref 188), some (.int a5), some (.int w208.1), some (.float w211.1)], [.ref 138])) (h' := hp N w211.2) rfl ?_
  obtain ⟨w213, h214, h⟩ := bind_ok h
  refine ev_call (v := some (.int w213)) (h1 := hp N w211.2) rfl rfl rfl (ok_u rfl (by show u1 + 1 + 0 ≤ 601024; omega) (by show u2 + 6 + 0 ≤ 7293034; omega)) (em112 w211.2 _ h214) ?_
  show Ev 214 (u1 + 1, u2 + 6) (1141, [some (.ref 0), some (.ref 1), some (.ref 138), some (.ref 187), some (.ref 188), some (.int a5), some (.int w208.1), some (.float w211.1)], [.int w213]) (hp N w211.2) _
  refine ev_run (n := 1) (u' := (u1 + 1, u2 + 6)) (f' := (1143, [some (.ref 0), some (.ref 1), some (.ref 138), some (.ref 187), some (.ref 188), some (.int a5), some (.int w208.1), some (.float w211.1)], [.int w208.1, .int w213])) (h' := hp N w211.2) rfl ?_
  rcases ite_or h with ⟨h223, h⟩ | ⟨h223, h⟩
  · refine ev_ict rfl (decide_eq_true h223) ?_
    refine ev_run (n := 1) (u' := (u1 + 1, u2 + 6)) (f' := (1150, [some (.ref 0), some (.ref 1), some (.ref 138), some (.ref 187), some (.ref 188), some (.int a5), some (.int w208.1), some (.float w211.1)], [.int w208.1])) (h' := hp N w211.2) rfl ?_
    rcases ite_or h with ⟨h222, h⟩ | ⟨h222, h⟩
    · refine ev_iff rfl (decide_eq_false (fun w => w h222)) ?_
      refine ev_run (n := 2) (u' := (u1 + 1, u2 + 6)) (f' := (1156, [some (.ref 0), some (.ref 1), some (.ref 138), some (.ref 187), some (.ref 188), some (.int a5), some (.int w208.1), some (.float w211.1)], [.int 0, .ref 188])) (h' := hp N w211.2) rfl ?_
      obtain ⟨h215, h⟩ := cond_some h
      refine ev_dald rfl rfl h215 ?_
      refine ev_run (n := 1) (u' := (u1 + 1, u2 + 6)) (f' := (1159, [some (.ref 0), some (.ref 1), some (.ref 138), some (.ref 187), some (.ref 188), some (.int a5), some (.int w208.1), some (.float w211.1)], [.float w211.1, .double (w211.2.2.2 188 (xi 0))])) (h' := hp N w211.2) rfl ?_
      obtain ⟨h216, h⟩ := cond_some h
      refine ev_f2d rfl h216 ?_
      refine ev_run (n := 1) (u' := (u1 + 1, u2 + 6)) (f' := (1161, [some (.ref 0), some (.ref 1), some (.ref 138), some (.ref 187), some (.ref 188), some (.int a5), some (.int w208.1), some (.float w211.1)], [.int (Op.cmpValue (FP.dcmp (w211.2.2.2 188 (xi 0)) (FP.f2d w211.1)) .l)])) (h' := hp N w211.2) rfl ?_
      rcases ite_or h with ⟨h221, h⟩ | ⟨h221, h⟩
      · refine ev_ift rfl (decide_eq_true h221) ?_
        exact em214_1186 k28 q28 a5 (by omega) (by omega) w211.2 _ h
      · refine ev_iff rfl (decide_eq_false h221) ?_
        refine ev_run (n := 2) (u' := (u1 + 1, u2 + 6)) (f' := (1167, [some (.ref 0), some (.ref 1), some (.ref 138), some (.ref 187), some (.ref 188), some (.int a5), some (.int w208.1), some (.float w211.1)], [.int 0, .ref 188])) (h' := hp N w211.2) rfl ?_
        obtain ⟨h217, h⟩ := cond_some h
        refine ev_dald rfl rfl h217 ?_
        refine ev_run (n := 2) (u' := (u1 + 1, u2 + 6)) (f' := (1171, [some (.ref 0), some (.ref 1), some (.ref 138), some (.ref 187), some (.ref 188), some (.int a5), some (.int w208.1), some (.float w211.1)], [.int 0, .ref 188, .double (w211.2.2.2 188 (xi 0))])) (h' := hp N w211.2) rfl ?_
        obtain ⟨h218, h⟩ := cond_some h
        refine ev_dald rfl rfl h218 ?_
        refine ev_run (n := 1) (u' := (u1 + 1, u2 + 6)) (f' := (1173, [some (.ref 0), some (.ref 1), some (.ref 138), some (.ref 187), some (.ref 188), some (.int a5), some (.int w208.1), some (.float w211.1)], [.int (Op.cmpValue (FP.dcmp (w211.2.2.2 188 (xi 0)) (w211.2.2.2 188 (xi 0))) .l)])) (h' := hp N w211.2) rfl ?_
        rcases ite_or h with ⟨h220, h⟩ | ⟨h220, h⟩
        · refine ev_ift rfl (decide_eq_true h220) ?_
          refine ev_run (n := 1) (u' := (u1 + 1, u2 + 6)) (f' := (1185, [none, none, none, none, none, none, none, none], [.int 0])) (h' := hp N w211.2) rfl ?_
          cases h
          exact ev_iret rfl (end_u (by show _ ≤ 601024; omega) (by show _ ≤ 7293034; omega)) rfl (Or.inr ⟨rfl, rfl⟩)
        · refine ev_iff rfl (decide_eq_false h220) ?_
          refine ev_run (n := 3) (u' := (u1 + 1, u2 + 6)) (f' := (1181, [some (.ref 0), some (.ref 1), some (.ref 138), some (.ref 187), some (.ref 188), some (.int a5), some (.int w208.1), some (.float w211.1)], [.int (Op.cmpValue (FP.fcmp w211.1 w211.1) .l)])) (h' := hp N w211.2) rfl ?_
          rcases ite_or h with ⟨h219, h⟩ | ⟨h219, h⟩
          · refine ev_iff rfl (decide_eq_false (fun w => w h219)) ?_
            refine ev_run (n := 1) (u' := (u1 + 1, u2 + 6)) (f' := (1185, [some (.ref 0), some (.ref 1), some (.ref 138), some (.ref 187), some (.ref 188), some (.int a5), some (.int w208.1), some (.float w211.1)], [.int 0])) (h' := hp N w211.2) rfl ?_
            cases h
            exact ev_iret rfl (end_u (by show _ ≤ 601024; omega) (by show _ ≤ 7293034; omega)) rfl (Or.inr ⟨rfl, rfl⟩)
          · refine ev_ift rfl (decide_eq_true h219) ?_
            exact em214_1186 k28 q28 a5 (by omega) (by omega) w211.2 _ h
    · refine ev_ift rfl (decide_eq_true h222) ?_
      exact em214_1186 k28 q28 a5 (by omega) (by omega) w211.2 _ h
  · refine ev_icf rfl (decide_eq_false h223) ?_
    refine ev_run (n := 1) (u' := (u1 + 1, u2 + 6)) (f' := (1147, [some (.ref 0), some (.ref 1), some (.ref 138), some (.ref 187), some (.ref 188), some (.int a5), some (.int w208.1), some (.float w211.1)], [.int 0])) (h' := hp N w211.2) rfl ?_
    cases h
    exact ev_iret rfl (end_u (by show _ ≤ 601024; omega) (by show _ ≤ 7293034; omega)) rfl (Or.inr ⟨rfl, rfl⟩)
