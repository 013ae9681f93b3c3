/-! The law's loop as functions; printed by dec_law.py -/
def gm214_1278 (N : Nat) (k28 : Int32 → Hs → Option (Int32 × Hs)) (a5 : Int32) (x : Hs) : Option (Int32 × Hs) := gm214_2306 N k28 a5 x
theorem em214_1278 {N n : Nat} (k28 : Int32 → Hs → Option (Int32 × Hs)) (q28 : ∀ {u1 u2 : Nat} (a5 : Int32) (hu1 : u1 + (0 + 4 * n) ≤ 601024) (hu2 : u2 + (0 + 24 * n) ≤ 7293034) (x : Hs) (r : Int32 × Hs), k28 a5 x = some r → Ev 214 (u1, u2) (28, [some (.ref 0), some (.ref 1), some (.ref 138), some (.ref 187), some (.ref 188), some (.int a5), none, none], []) (hp N x) (cvMi N r)) {u1 u2 : Nat} (a5 : Int32) (hu1 : u1 + (0 + 4 * n) ≤ 601024) (hu2 : u2 + (0 + 24 * n) ≤ 7293034) (x : Hs) (r : Int32 × Hs) (h : gm214_1278 N k28 a5 x = some r) : Ev 214 (u1, u2) (1278, [some (.ref 0), some (.ref 1), some (.ref 138), some (.ref 187), some (.ref 188), some (.int a5), none, none], []) (hp N x) (cvMi N r) := by
  unfold gm214_1278 at h
  refine ev_run (n := 1) (u' := (u1, u2)) (f' := (2306, [some (.ref 0), some (.ref 1), some (.ref 138), some (.ref 187), some (.ref 188), some (.int a5), none, none], [])) (h' := hp N x) rfl ?_
  exact em214_2306 k28 q28 a5 (by omega) (by omega) x _ h
def gm214_1189 (N : Nat) (k28 : Int32 → Hs → Option (Int32 × Hs)) (a5 : Int32) (x : Hs) : Option (Int32 × Hs) := cond (aIn (a5 + 1) N) (cond (aIn (a5 + 2) N) (cond (aIn (a5 + 3) N) (cond (aIn (a5 + 4) N) ((gm197 (x.1 0 (xi (a5 + 1))) (x.1 0 (xi (a5 + 2))) (x.1 0 (xi (a5 + 3))) (x.1 0 (xi (a5 + 4))) x).bind fun w228 => (cond (aIn (a5 + 1) N) (cond (aIn (a5 + 2) N) (cond (aIn (a5 + 3) N) (cond (aIn (a5 + 4) N) ((gm148 (w228.2.1 0 (xi (a5 + 1))) (w228.2.1 0 (xi (a5 + 2))) (w228.2.1 0 (xi (a5 + 3))) (w228.2.1 0 (xi (a5 + 4))) w228.2).bind fun w234 => ((gm112 w234.2).bind fun w236 => (if w236 = w228.1 then (if w228.1 = 0 then (cond (aIn 0 1) (if (lg_cmp (w234.2.2.1 187 (xi 0)) (Int32.toInt64 w234.1)) = 0 then (gm214_1278 N k28 a5 w234.2) else (some (0, w234.2))) none) else (gm214_1278 N k28 a5 w234.2)) else (some (0, w234.2))))) none) none) none) none)) none) none) none) none
theorem em214_1189 {N n : Nat} (k28 : Int32 → Hs → Option (Int32 × Hs)) (q28 : ∀ {u1 u2 : Nat} (a5 : Int32) (hu1 : u1 + (0 + 4 * n) ≤ 601024) (hu2 : u2 + (0 + 24 * n) ≤ 7293034) (x : Hs) (r : Int32 × Hs), k28 a5 x = some r → Ev 214 (u1, u2) (28, [some (.ref 0), some (.ref 1), some (.ref 138), some (.ref 187), some (.ref 188), some (.int a5), none, none], []) (hp N x) (cvMi N r)) {u1 u2 : Nat} (a5 : Int32) (hu1 : u1 + (3 + 4 * n) ≤ 601024) (hu2 : u2 + (18 + 24 * n) ≤ 7293034) (x : Hs) (r : Int32 × Hs) (h : gm214_1189 N k28 a5 x = some r) : Ev 214 (u1, u2) (1189, [some (.ref 0), some (.ref 1), some (.ref 138), some (.ref 187), some (.ref 188), some (.int a5), none, none], []) (hp N x) (cvMi N r) := by
  unfold gm214_1189 at h
  refine ev_run (n := 5) (u' := (u1, u2)) (f' := (1195, [some (.ref 0), some (.ref 1), some (.ref 138), some (.ref 187), some (.ref 188), some (.int a5), none, none], [.int (a5 + 1), .ref 0, .ref 1])) (h' := hp N x) rfl ?_
  obtain ⟨h224, h⟩ := cond_some h
  refine ev_iald rfl rfl h224 ?_
  refine ev_run (n := 4) (u' := (u1, u2)) (f' := (1201, [some (.ref 0), some (.ref 1), some (.ref 138), some (.ref 187), some (.ref 188), some (.int a5), none, none], [.int (a5 + 2), .ref 0, .int (x.1 0 (xi (a5 + 1))), .ref 1])) (h' := hp N x) rfl ?_
  obtain ⟨h225, h⟩ := cond_some h
  refine ev_iald rfl rfl h225 ?_
  refine ev_run (n := 4) (u' := (u1, u2)) (f' := (1207, [some (.ref 0), some (.ref 1), some (.ref 138), some (.ref 187), some (.ref 188), some (.int a5), none, none], [.int (a5 + 3), .ref 0, .int (x.1 0 (xi (a5 + 2))), .int (x.1 0 (xi (a5 + 1))), .ref 1])) (h' := hp N x) rfl ?_
  obtain ⟨h226, h⟩ := cond_some h
  refine ev_iald rfl rfl h226 ?_
  refine ev_run (n := 4) (u' := (u1, u2)) (f' := (1213, [some (.ref 0), some (.ref 1), some (.ref 138), some (.ref 187), some (.ref 188), some (.int a5), none, none], [.int (a5 + 4), .ref 0, .int (x.1 0 (xi (a5 + 3))), .int (x.1 0 (xi (a5 + 2))), .int (x.1 0 (xi (a5 + 1))), .ref 1])) (h' := hp N x) rfl ?_
  obtain ⟨h227, h⟩ := cond_some h
  refine ev_iald rfl rfl h227 ?_
  refine ev_run (n := 1) (u' := (u1, u2)) (f' := (1215, [some (.ref 0), some (.ref 1), some (.ref 138), some (.ref 187), some (.ref 188), some (.int a5), none, none], [.ref 187, .int (x.1 0 (xi (a5 + 4))), .int (x.1 0 (xi (a5 + 3))), .int (x.1 0 (xi (a5 + 2))), .int (x.1 0 (xi (a5 + 1))), .ref 1])) (h' := hp N x) rfl ?_
  obtain ⟨w228, h229, h⟩ := bind_ok h
  refine ev_call (v := some (.int w228.1)) (h1 := hp N w228.2) rfl rfl rfl (ok_u rfl (by show u1 + 3 ≤ 601024; omega) (by show u2 + 18 ≤ 7293034; omega)) (em197 (x.1 0 (xi (a5 + 1))) (x.1 0 (xi (a5 + 2))) (x.1 0 (xi (a5 + 3))) (x.1 0 (xi (a5 + 4))) (by decide) (by decide) x _ h229) ?_
  show Ev 214 (u1 + 3, u2 + 18) (1218, [some (.ref 0), some (.ref 1), some (.ref 138), some (.ref 187), some (.ref 188), some (.int a5), none, none], [.int w228.1]) (hp N w228.2) _
  refine ev_run (n := 6) (u' := (u1 + 3, u2 + 18)) (f' := (1226, [some (.ref 0), some (.ref 1), some (.ref 138), some (.ref 187), some (.ref 188), some (.int a5), some (.int w228.1), none], [.int (a5 + 1), .ref 0, .ref 138])) (h' := hp N w228.2) rfl ?_
  obtain ⟨h230, h⟩ := cond_some h
  refine ev_iald rfl rfl h230 ?_
  refine ev_run (n := 4) (u' := (u1 + 3, u2 + 18)) (f' := (1232, [some (.ref 0), some (.ref 1), some (.ref 138), some (.ref 187), some (.ref 188), some (.int a5), some (.int w228.1), none], [.int (a5 + 2), .ref 0, .int (w228.2.1 0 (xi (a5 + 1))), .ref 138])) (h' := hp N w228.2) rfl ?_
  obtain ⟨h231, h⟩ := cond_some h
  refine ev_iald rfl rfl h231 ?_
  refine ev_run (n := 4) (u' := (u1 + 3, u2 + 18)) (f' := (1238, [some (.ref 0), some (.ref 1), some (.ref 138), some (.ref 187), some (.ref 188), some (.int a5), some (.int w228.1), none], [.int (a5 + 3), .ref 0, .int (w228.2.1 0 (xi (a5 + 2))), .int (w228.2.1 0 (xi (a5 + 1))), .ref 138])) (h' := hp N w228.2) rfl ?_
  obtain ⟨h232, h⟩ := cond_some h
  refine ev_iald rfl rfl h232 ?_
  refine ev_run (n := 4) (u' := (u1 + 3, u2 + 18)) (f' := (1244, [some (.ref 0), some (.ref 1), some (.ref 138), some (.ref 187), some (.ref 188), some (.int a5), some (.int w228.1), none], [.int (a5 + 4), .ref 0, .int (w228.2.1 0 (xi (a5 + 3))), .int (w228.2.1 0 (xi (a5 + 2))), .int (w228.2.1 0 (xi (a5 + 1))), .ref 138])) (h' := hp N w228.2) rfl ?_
  obtain ⟨h233, h⟩ := cond_some h
  refine ev_iald rfl rfl h233 ?_
  obtain ⟨w234, h235, h⟩ := bind_ok h
  refine ev_call (v := some (.int w234.1)) (h1 := hp N w234.2) rfl rfl rfl (ok_u rfl (by show u1 + 3 + 0 ≤ 601024; omega) (by show u2 + 18 + 0 ≤ 7293034; omega)) (em148 (w228.2.1 0 (xi (a5 + 1))) (w228.2.1 0 (xi (a5 + 2))) (w228.2.1 0 (xi (a5 + 3))) (w228.2.1 0 (xi (a5 + 4))) w228.2 _ h235) ?_
  show Ev 214 (u1 + 3, u2 + 18) (1248, [some (.ref 0), some (.ref 1), some (.ref 138), some (.ref 187), some (.ref 188), some (.int a5), some (.int w228.1), none], [.int w234.1]) (hp N w234.2) _
  refine ev_run (n := 2) (u' := (u1 + 3, u2 + 18)) (f' := (1251, [some (.ref 0), some (.ref 1), some (.ref 138), some (.ref 187), some (.ref 188), some (.int a5), some (.int w228.1), some (.int w234.1)], [.ref 138])) (h' := hp N w234.2) rfl ?_
  obtain ⟨w236, h237, h⟩ := bind_ok h
  refine ev_call (v := some (.int w236)) (h1 := hp N w234.2) rfl rfl rfl (ok_u rfl (by show u1 + 3 + 0 ≤ 601024; omega) (by show u2 + 18 + 0 ≤ 7293034; omega)) (em112 w234.2 _ h237) ?_
  show Ev 214 (u1 + 3, u2 + 18) (1254, [some (.ref 0), some (.ref 1), some (.ref 138), some (.ref 187), some (.ref 188), some (.int a5), some (.int w228.1), some (.int w234.1)], [.int w236]) (hp N w234.2) _
  refine ev_run (n := 1) (u' := (u1 + 3, u2 + 18)) (f' := (1256, [some (.ref 0), some (.ref 1), some (.ref 138), some (.ref 187), some (.ref 188), some (.int a5), some (.int w228.1), some (.int w234.1)], [.int w228.1, .int w236])) (h' := hp N w234.2) rfl ?_
  rcases ite_or h with ⟨h241, h⟩ | ⟨h241, h⟩
  · refine ev_ict rfl (decide_eq_true h241) ?_
    refine ev_run (n := 1) (u' := (u1 + 3, u2 + 18)) (f' := (1263, [some (.ref 0), some (.ref 1), some (.ref 138), some (.ref 187), some (.ref 188), some (.int a5), some (.int w228.1), some (.int w234.1)], [.int w228.1])) (h' := hp N w234.2) rfl ?_
    rcases ite_or h with ⟨h240, h⟩ | ⟨h240, h⟩
    · refine ev_iff rfl (decide_eq_false (fun w => w h240)) ?_
      refine ev_run (n := 2) (u' := (u1 + 3, u2 + 18)) (f' := (1268, [some (.ref 0), some (.ref 1), some (.ref 138), some (.ref 187), some (.ref 188), some (.int a5), some (.int w228.1), some (.int w234.1)], [.int 0, .ref 187])) (h' := hp N w234.2) rfl ?_
      obtain ⟨h238, h⟩ := cond_some h
      refine ev_lald rfl rfl h238 ?_
      refine ev_run (n := 3) (u' := (u1 + 3, u2 + 18)) (f' := (1273, [some (.ref 0), some (.ref 1), some (.ref 138), some (.ref 187), some (.ref 188), some (.int a5), some (.int w228.1), some (.int w234.1)], [.int (lg_cmp (w234.2.2.1 187 (xi 0)) (Int32.toInt64 w234.1))])) (h' := hp N w234.2) rfl ?_
      rcases ite_or h with ⟨h239, h⟩ | ⟨h239, h⟩
      · refine ev_ift rfl (decide_eq_true h239) ?_
        exact em214_1278 k28 q28 a5 (by omega) (by omega) w234.2 _ h
      · refine ev_iff rfl (decide_eq_false h239) ?_
        refine ev_run (n := 1) (u' := (u1 + 3, u2 + 18)) (f' := (1277, [some (.ref 0), some (.ref 1), some (.ref 138), some (.ref 187), some (.ref 188), some (.int a5), some (.int w228.1), some (.int w234.1)], [.int 0])) (h' := hp N w234.2) rfl ?_
        cases h
        exact ev_iret rfl (end_u (by show _ ≤ 601024; omega) (by show _ ≤ 7293034; omega)) rfl (Or.inr ⟨rfl, rfl⟩)
    · refine ev_ift rfl (decide_eq_true h240) ?_
      exact em214_1278 k28 q28 a5 (by omega) (by omega) w234.2 _ h
  · refine ev_icf rfl (decide_eq_false h241) ?_
    refine ev_run (n := 1) (u' := (u1 + 3, u2 + 18)) (f' := (1260, [some (.ref 0), some (.ref 1), some (.ref 138), some (.ref 187), some (.ref 188), some (.int a5), some (.int w228.1), some (.int w234.1)], [.int 0])) (h' := hp N w234.2) rfl ?_
    cases h
    exact ev_iret rfl (end_u (by show _ ≤ 601024; omega) (by show _ ≤ 7293034; omega)) rfl (Or.inr ⟨rfl, rfl⟩)
def gm214_1358 (N : Nat) (k28 : Int32 → Hs → Option (Int32 × Hs)) (a5 : Int32) (x : Hs) : Option (Int32 × Hs) := gm214_2306 N k28 a5 x
theorem em214_1358 {N n : Nat} (k28 : Int32 → Hs → Option (Int32 × Hs)) (q28 : ∀ {u1 u2 : Nat} (a5 : Int32) (hu1 : u1 + (0 + 4 * n) ≤ 601024) (hu2 : u2 + (0 + 24 * n) ≤ 7293034) (x : Hs) (r : Int32 × Hs), k28 a5 x = some r → Ev 214 (u1, u2) (28, [some (.ref 0), some (.ref 1), some (.ref 138), some (.ref 187), some (.ref 188), some (.int a5), none, none], []) (hp N x) (cvMi N r)) {u1 u2 : Nat} (a5 : Int32) (hu1 : u1 + (0 + 4 * n) ≤ 601024) (hu2 : u2 + (0 + 24 * n) ≤ 7293034) (x : Hs) (r : Int32 × Hs) (h : gm214_1358 N k28 a5 x = some r) : Ev 214 (u1, u2) (1358, [some (.ref 0), some (.ref 1), some (.ref 138), some (.ref 187), some (.ref 188), some (.int a5), none, none], []) (hp N x) (cvMi N r) := by
  unfold gm214_1358 at h
  refine ev_run (n := 1) (u' := (u1, u2)) (f' := (2306, [some (.ref 0), some (.ref 1), some (.ref 138), some (.ref 187), some (.ref 188), some (.int a5), none, none], [])) (h' := hp N x) rfl ?_
  exact em214_2306 k28 q28 a5 (by omega) (by omega) x _ h
def gm214_1281 (N : Nat) (k28 : Int32 → Hs → Option (Int32 × Hs)) (a5 : Int32) (x : Hs) : Option (Int32 × Hs) := cond (aIn (a5 + 1) N) (cond (aIn (a5 + 2) N) (cond (aIn (a5 + 3) N) ((gm198 (x.1 0 (xi (a5 + 1))) (x.1 0 (xi (a5 + 2))) (x.1 0 (xi (a5 + 3))) x).bind fun w245 => (cond (aIn (a5 + 1) N) (cond (aIn (a5 + 2) N) (cond (aIn (a5 + 3) N) ((gm150 (w245.2.1 0 (xi (a5 + 1))) (w245.2.1 0 (xi (a5 + 2))) (w245.2.1 0 (xi (a5 + 3))) w245.2).bind fun w250 => ((gm112 w250.2).bind fun w252 => (if w252 = w245.1 then (if w245.1 = 0 then (cond (aIn 0 1) (if (lg_cmp (w250.2.2.1 187 (xi 0)) (Int32.toInt64 w250.1)) = 0 then (gm214_1358 N k28 a5 w250.2) else (some (0, w250.2))) none) else (gm214_1358 N k28 a5 w250.2)) else (some (0, w250.2))))) none) none) none)) none) none) none
theorem em214_1281 {N n : Nat} (k28 : Int32 → Hs → Option (Int32 × Hs)) (q28 : ∀ {u1 u2 : Nat} (a5 : Int32) (hu1 : u1 + (0 + 4 * n) ≤ 601024) (hu2 : u2 + (0 + 24 * n) ≤ 7293034) (x : Hs) (r : Int32 × Hs), k28 a5 x = some r → Ev 214 (u1, u2) (28, [some (.ref 0), some (.ref 1), some (.ref 138), some (.ref 187), some (.ref 188), some (.int a5), none, none], []) (hp N x) (cvMi N r)) {u1 u2 : Nat} (a5 : Int32) (hu1 : u1 + (3 + 4 * n) ≤ 601024) (hu2 : u2 + (18 + 24 * n) ≤ 7293034) (x : Hs) (r : Int32 × Hs) (h : gm214_1281 N k28 a5 x = some r) : Ev 214 (u1, u2) (1281, [some (.ref 0), some (.ref 1), some (.ref 138), some (.ref 187), some (.ref 188), some (.int a5), none, none], []) (hp N x) (cvMi N r) := by
  unfold gm214_1281 at h
  refine ev_run (n := 5) (u' := (u1, u2)) (f' := (1287, [some (.ref 0), some (.ref 1), some (.ref 138), some (.ref 187), some (.ref 188), some (.int a5), none, none], [.int (a5 + 1), .ref 0, .ref 1])) (h' := hp N x) rfl ?_
  obtain ⟨h242, h⟩ := cond_some h
  refine ev_iald rfl rfl h242 ?_
  refine ev_run (n := 4) (u' := (u1, u2)) (f' := (1293, [some (.ref 0), some (.ref 1), some (.ref 138), some (.ref 187), some (.ref 188), some (.int a5), none, none], [.int (a5 + 2), .ref 0, .int (x.1 0 (xi (a5 + 1))), .ref 1])) (h' := hp N x) rfl ?_
  obtain ⟨h243, h⟩ := cond_some h
  refine ev_iald rfl rfl h243 ?_
  refine ev_run (n := 4) (u' := (u1, u2)) (f' := (1299, [some (.ref 0), some (.ref 1), some (.ref 138), some (.ref 187), some (.ref 188), some (.int a5), none, none], [.int (a5 + 3), .ref 0, .int (x.1 0 (xi (a5 + 2))), .int (x.1 0 (xi (a5 + 1))), .ref 1])) (h' := hp N x) rfl ?_
  obtain ⟨h244, h⟩ := cond_some h
  refine ev_iald rfl rfl h244 ?_
  refine ev_run (n := 1) (u' := (u1, u2)) (f' := (1301, [some (.ref 0), some (.ref 1), some (.ref 138), some (.ref 187), some (.ref 188), some (.int a5), none, none], [.ref 187, .int (x.1 0 (xi (a5 + 3))), .int (x.1 0 (xi (a5 + 2))), .int (x.1 0 (xi (a5 + 1))), .ref 1])) (h' := hp N x) rfl ?_
  obtain ⟨w245, h246, h⟩ := bind_ok h
  refine ev_call (v := some (.int w245.1)) (h1 := hp N w245.2) rfl rfl rfl (ok_u rfl (by show u1 + 3 ≤ 601024; omega) (by show u2 + 18 ≤ 7293034; omega)) (em198 (x.1 0 (xi (a5 + 1))) (x.1 0 (xi (a5 + 2))) (x.1 0 (xi (a5 + 3))) (by decide) (by decide) x _ h246) ?_
  show Ev 214 (u1 + 3, u2 + 18) (1304, [some (.ref 0), some (.ref 1), some (.ref 138), some (.ref 187), some (.ref 188), some (.int a5), none, none], [.int w245.1]) (hp N w245.2) _
  refine ev_run (n := 6) (u' := (u1 + 3, u2 + 18)) (f' := (1312, [some (.ref 0), some (.ref 1), some (.ref 138), some (.ref 187), some (.ref 188), some (.int a5), some (.int w245.1), none], [.int (a5 + 1), .ref 0, .ref 138])) (h' := hp N w245.2) rfl ?_
  obtain ⟨h247, h⟩ := cond_some h
  refine ev_iald rfl rfl h247 ?_
  refine ev_run (n := 4) (u' := (u1 + 3, u2 + 18)) (f' := (1318, [some (.ref 0), some (.ref 1), some (.ref 138), some (.ref 187), some (.ref 188), some (.int a5), some (.int w245.1), none], [.int (a5 + 2), .ref 0, .int (w245.2.1 0 (xi (a5 + 1))), .ref 138])) (h' := hp N w245.2) rfl ?_
  obtain ⟨h248, h⟩ := cond_some h
  refine ev_iald rfl rfl h248 ?_
  refine ev_run (n := 4) (u' := (u1 + 3, u2 + 18)) (f' := (1324, [some (.ref 0), some (.ref 1), some (.ref 138), some (.ref 187), some (.ref 188), some (.int a5), some (.int w245.1), none], [.int (a5 + 3), .ref 0, .int (w245.2.1 0 (xi (a5 + 2))), .int (w245.2.1 0 (xi (a5 + 1))), .ref 138])) (h' := hp N w245.2) rfl ?_
  obtain ⟨h249, h⟩ := cond_some h
  refine ev_iald rfl rfl h249 ?_
  obtain ⟨w250, h251, h⟩ := bind_ok h
  refine ev_call (v := some (.int w250.1)) (h1 := hp N w250.2) rfl rfl rfl (ok_u rfl (by show u1 + 3 + 0 ≤ 601024; omega) (by show u2 + 18 + 0 ≤ 7293034; omega)) (em150 (w245.2.1 0 (xi (a5 + 1))) (w245.2.1 0 (xi (a5 + 2))) (w245.2.1 0 (xi (a5 + 3))) w245.2 _ h251) ?_
  show Ev 214 (u1 + 3, u2 + 18) (1328, [some (.ref 0), some (.ref 1), some (.ref 138), some (.ref 187), some (.ref 188), some (.int a5), some (.int w245.1), none], [.int w250.1]) (hp N w250.2) _
  refine ev_run (n := 2) (u' := (u1 + 3, u2 + 18)) (f' := (1331, [some (.ref 0), some (.ref 1), some (.ref 138), some (.ref 187), some (.ref 188), some (.int a5), some (.int w245.1), some (.int w250.1)], [.ref 138])) (h' := hp N w250.2) rfl ?_
  obtain ⟨w252, h253, h⟩ := bind_ok h
  refine ev_call (v := some (.int w252)) (h1 := hp N w250.2) rfl rfl rfl (ok_u rfl (by show u1 + 3 + 0 ≤ 601024; omega) (by show u2 + 18 + 0 ≤ 7293034; omega)) (em112 w250.2 _ h253) ?_
  show Ev 214 (u1 + 3, u2 + 18) (1334, [some (.ref 0), some (.ref 1), some (.ref 138), some (.ref 187), some (.ref 188), some (.int a5), some (.int w245.1), some (.int w250.1)], [.int w252]) (hp N w250.2) _
  refine ev_run (n := 1) (u' := (u1 + 3, u2 + 18)) (f' := (1336, [some (.ref 0), some (.ref 1), some (.ref 138), some (.ref 187), some (.ref 188), some (.int a5), some (.int w245.1), some (.int w250.1)], [.int w245.1, .int w252])) (h' := hp N w250.2) rfl ?_
  rcases ite_or h with ⟨h257, h⟩ | ⟨h257, h⟩
  · refine ev_ict rfl (decide_eq_true h257) ?_
    refine ev_run (n := 1) (u' := (u1 + 3, u2 + 18)) (f' := (1343, [some (.ref 0), some (.ref 1), some (.ref 138), some (.ref 187), some (.ref 188), some (.int a5), some (.int w245.1), some (.int w250.1)], [.int w245.1])) (h' := hp N w250.2) rfl ?_
    rcases ite_or h with ⟨h256, h⟩ | ⟨h256, h⟩
    · refine ev_iff rfl (decide_eq_false (fun w => w h256)) ?_
      refine ev_run (n := 2) (u' := (u1 + 3, u2 + 18)) (f' := (1348, [some (.ref 0), some (.ref 1), some (.ref 138), some (.ref 187), some (.ref 188), some (.int a5), some (.int w245.1), some (.int w250.1)], [.int 0, .ref 187])) (h' := hp N w250.2) rfl ?_
      obtain ⟨h254, h⟩ := cond_some h
      refine ev_lald rfl rfl h254 ?_
      refine ev_run (n := 3) (u' := (u1 + 3, u2 + 18)) (f' := (1353, [some (.ref 0), some (.ref 1), some (.ref 138), some (.ref 187), some (.ref 188), some (.int a5), some (.int w245.1), some (.int w250.1)], [.int (lg_cmp (w250.2.2.1 187 (xi 0)) (Int32.toInt64 w250.1))])) (h' := hp N w250.2) rfl ?_
      rcases ite_or h with ⟨h255, h⟩ | ⟨h255, h⟩
      · refine ev_ift rfl (decide_eq_true h255) ?_
        exact em214_1358 k28 q28 a5 (by omega) (by omega) w250.2 _ h
      · refine ev_iff rfl (decide_eq_false h255) ?_
        refine ev_run (n := 1) (u' := (u1 + 3, u2 + 18)) (f' := (1357, [some (.ref 0), some (.ref 1), some (.ref 138), some (.ref 187), some (.ref 188), some (.int a5), some (.int w245.1), some (.int w250.1)], [.int 0])) (h' := hp N w250.2) rfl ?_
        cases h
        exact ev_iret rfl (end_u (by show _ ≤ 601024; omega) (by show _ ≤ 7293034; omega)) rfl (Or.inr ⟨rfl, rfl⟩)
    · refine ev_ift rfl (decide_eq_true h256) ?_
      exact em214_1358 k28 q28 a5 (by omega) (by omega) w250.2 _ h
  · refine ev_icf rfl (decide_eq_false h257) ?_
    refine ev_run (n := 1) (u' := (u1 + 3, u2 + 18)) (f' := (1340, [some (.ref 0), some (.ref 1), some (.ref 138), some (.ref 187), some (.ref 188), some (.int a5), some (.int w245.1), some (.int w250.1)], [.int 0])) (h' := hp N w250.2) rfl ?_
    cases h
    exact ev_iret rfl (end_u (by show _ ≤ 601024; omega) (by show _ ≤ 7293034; omega)) rfl (Or.inr ⟨rfl, rfl⟩)
def gm214_1421 (N : Nat) (k28 : Int32 → Hs → Option (Int32 × Hs)) (a5 : Int32) (x : Hs) : Option (Int32 × Hs) := gm214_2306 N k28 a5 x
theorem em214_1421 {N n : Nat} (k28 : Int32 → Hs → Option (Int32 × Hs)) (q28 : ∀ {u1 u2 : Nat} (a5 : Int32) (hu1 : u1 + (0 + 4 * n) ≤ 601024) (hu2 : u2 + (0 + 24 * n) ≤ 7293034) (x : Hs) (r : Int32 × Hs), k28 a5 x = some r → Ev 214 (u1, u2) (28, [some (.ref 0), some (.ref 1), some (.ref 138), some (.ref 187), some (.ref 188), some (.int a5), none, none], []) (hp N x) (cvMi N r)) {u1 u2 : Nat} (a5 : Int32) (hu1 : u1 + (0 + 4 * n) ≤ 601024) (hu2 : u2 + (0 + 24 * n) ≤ 7293034) (x : Hs) (r : Int32 × Hs) (h : gm214_1421 N k28 a5 x = some r) : Ev 214 (u1, u2) (1421, [some (.ref 0), some (.ref 1), some (.ref 138), some (.ref 187), some (.ref 188), some (.int a5), none, none], []) (hp N x) (cvMi N r) := by
  unfold gm214_1421 at h
  refine ev_run (n := 1) (u' := (u1, u2)) (f' := (2306, [some (.ref 0), some (.ref 1), some (.ref 138), some (.ref 187), some (.ref 188), some (.int a5), none, none], [])) (h' := hp N x) rfl ?_
  exact em214_2306 k28 q28 a5 (by omega) (by omega) x _ h
def gm214_1415 (N : Nat) (k28 : Int32 → Hs → Option (Int32 × Hs)) (a5 : Int32) (s0 : Int64) (s1 : Int64) (x : Hs) : Option (Int32 × Hs) := if (lg_cmp s0 s1) = 0 then (gm214_1421 N k28 a5 x) else (some (0, x))
theorem em214_1415 {N n : Nat} (k28 : Int32 → Hs → Option (Int32 × Hs)) (q28 : ∀ {u1 u2 : Nat} (a5 : Int32) (hu1 : u1 + (0 + 4 * n) ≤ 601024) (hu2 : u2 + (0 + 24 * n) ≤ 7293034) (x : Hs) (r : Int32 × Hs), k28 a5 x = some r → Ev 214 (u1, u2) (28, [some (.ref 0), some (.ref 1), some (.ref 138), some (.ref 187), some (.ref 188), some (.int a5), none, none], []) (hp N x) (cvMi N r)) {u1 u2 : Nat} (a5 : Int32) (s0 : Int64) (s1 : Int64) (hu1 : u1 + (0 + 4 * n) ≤ 601024) (hu2 : u2 + (0 + 24 * n) ≤ 7293034) (x : Hs) (r : Int32 × Hs) (h : gm214_1415 N k28 a5 s0 s1 x = some r) : Ev 214 (u1, u2) (1415, [some (.ref 0), some (.ref 1), some (.ref 138), some (.ref 187), some (.ref 188), some (.int a5), none, none], [.long s1, .long s0]) (hp N x) (cvMi N r) := by
  unfold gm214_1415 at h
  refine ev_run (n := 1) (u' := (u1, u2)) (f' := (1416, [some (.ref 0), some (.ref 1), some (.ref 138), some (.ref 187), some (.ref 188), some (.int a5), none, none], [.int (lg_cmp s0 s1)])) (h' := hp N x) rfl ?_
  rcases ite_or h with ⟨h461, h⟩ | ⟨h461, h⟩
  · refine ev_ift rfl (decide_eq_true h461) ?_
    exact em214_1421 k28 q28 a5 (by omega) (by omega) x _ h
  · refine ev_iff rfl (decide_eq_false h461) ?_
    refine ev_run (n := 1) (u' := (u1, u2)) (f' := (1420, [some (.ref 0), some (.ref 1), some (.ref 138), some (.ref 187), some (.ref 188), some (.int a5), none, none], [.int 0])) (h' := hp N x) rfl ?_
    cases h
    exact ev_iret rfl (end_u (by show _ ≤ 601024; omega) (by show _ ≤ 7293034; omega)) rfl (Or.inr ⟨rfl, rfl⟩)
def gm214_1361 (N : Nat) (k28 : Int32 → Hs → Option (Int32 × Hs)) (a5 : Int32) (x : Hs) : Option (Int32 × Hs) := cond (aIn (a5 + 1) N) ((gm199 (x.1 0 (xi (a5 + 1))) x).bind fun w259 => (cond (aIn (a5 + 1) N) ((gm151 (w259.2.1 0 (xi (a5 + 1))) w259.2).bind fun w262 => ((gm112 w262.2).bind fun w264 => (if w264 = w259.1 then (if w259.1 = 0 then (cond (aIn 0 1) (if w262.1 = 0 then (gm214_1415 N k28 a5 (w262.2.2.1 187 (xi 0)) 0 w262.2) else (gm214_1415 N k28 a5 (w262.2.2.1 187 (xi 0)) 1 w262.2)) none) else (gm214_1421 N k28 a5 w262.2)) else (some (0, w262.2))))) none)) none
theorem em214_1361 {N n : Nat} (k28 : Int32 → Hs → Option (Int32 × Hs)) (q28 : ∀ {u1 u2 : Nat} (a5 : Int32) (hu1 : u1 + (0 + 4 * n) ≤ 601024) (hu2 : u2 + (0 + 24 * n) ≤ 7293034) (x : Hs) (r : Int32 × Hs), k28 a5 x = some r → Ev 214 (u1, u2) (28, [some (.ref 0), some (.ref 1), some (.ref 138), some (.ref 187), some (.ref 188), some (.int a5), none, none], []) (hp N x) (cvMi N r)) {u1 u2 : Nat} (a5 : Int32) (hu1 : u1 + (1 + 4 * n) ≤ 601024) (hu2 : u2 + (6 + 24 * n) ≤ 7293034) (x : Hs) (r : Int32 × Hs) (h : gm214_1361 N k28 a5 x = some r) : Ev 214 (u1, u2) (1361, [some (.ref 0), some (.ref 1), some (.ref 138), some (.ref 187), some (.ref 188), some (.int a5), none, none], []) (hp N x) (cvMi N r) := by
  unfold gm214_1361 at h
  refine ev_run (n := 5) (u' := (u1, u2)) (f' := (1367, [some (.ref 0), some (.ref 1), some (.ref 138), some (.ref 187), some (.ref 188), some (.int a5), none, none], [.int (a5 + 1), .ref 0, .ref 1])) (h' := hp N x) rfl ?_
  obtain ⟨h258, h⟩ := cond_some h
  refine ev_iald rfl rfl h258 ?_
  refine ev_run (n := 1) (u' := (u1, u2)) (f' := (1369, [some (.ref 0), some (.ref 1), some (.ref 138), some (.ref 187), some (.ref 188), some (.int a5), none, none], [.ref 187, .int (x.1 0 (xi (a5 + 1))), .ref 1])) (h' := hp N x) rfl ?_
  obtain ⟨w259, h260, h⟩ := bind_ok h
  refine ev_call (v := some (.int w259.1)) (h1 := hp N w259.2) rfl rfl rfl (ok_u rfl (by show u1 + 1 ≤ 601024; omega) (by show u2 + 6 ≤ 7293034; omega)) (em199 (x.1 0 (xi (a5 + 1))) (by decide) (by decide) x _ h260) ?_
  show Ev 214 (u1 + 1, u2 + 6) (1372, [some (.ref 0), some (.ref 1), some (.ref 138), some (.ref 187), some (.ref 188), some (.int a5), none, none], [.int w259.1]) (hp N w259.2) _
  refine ev_run (n := 6) (u' := (u1 + 1, u2 + 6)) (f' := (1380, [some (.ref 0), some (.ref 1), some (.ref 138), some (.ref 187), some (.ref 188), some (.int a5), some (.int w259.1), none], [.int (a5 + 1), .ref 0, .ref 138])) (h' := hp N w259.2) rfl ?_
  obtain ⟨h261, h⟩ := cond_some h
  refine ev_iald rfl rfl h261 ?_
  obtain ⟨w262, h263, h⟩ := bind_ok h
  refine ev_call (v := some (.int w262.1)) (h1 := hp N w262.2) rfl rfl rfl (ok_u rfl (by show u1 + 1 + 0 ≤ 601024; omega) (by show u2 + 6 + 0 ≤ 7293034; omega)) (em151 (w259.2.1 0 (xi (a5 + 1))) w259.2 _ h263) ?_
  show Ev 214 (u1 + 1, u2 + 6) (1384, [some (.ref 0), some (.ref 1), some (.ref 138), some (.ref 187), some (.ref 188), some (.int a5), some (.int w259.1), none], [.int w262.1]) (hp N w262.2) _
  refine ev_run (n := 2) (u' := (u1 + 1, u2 + 6)) (f' := (1387, [some (.ref 0), some (.ref 1), some (.ref 138), some (.ref 187), some (.ref 188), some (.int a5), some (.int w259.1), some (.int w262.1)], [.ref 138])) (h' := hp N w262.2) rfl ?_
  obtain ⟨w264, h265, h⟩ := bind_ok h
  refine ev_call (v := some (.int w264)) (h1 := hp N w262.2) rfl rfl rfl (ok_u rfl (by show u1 + 1 + 0 ≤ 601024; omega) (by show u2 + 6 + 0 ≤ 7293034; omega)) (em112 w262.2 _ h265) ?_
  show Ev 214 (u1 + 1, u2 + 6) (1390, [some (.ref 0), some (.ref 1), some (.ref 138), some (.ref 187), some (.ref 188), some (.int a5), some (.int w259.1), some (.int w262.1)], [.int w264]) (hp N w262.2) _
  refine ev_run (n := 1) (u' := (u1 + 1, u2 + 6)) (f' := (1392, [some (.ref 0), some (.ref 1), some (.ref 138), some (.ref 187), some (.ref 188), some (.int a5), some (.int w259.1), some (.int w262.1)], [.int w259.1, .int w264])) (h' := hp N w262.2) rfl ?_
  rcases ite_or h with ⟨h269, h⟩ | ⟨h269, h⟩
  · refine ev_ict rfl (decide_eq_true h269) ?_
    refine ev_run (n := 1) (u' := (u1 + 1, u2 + 6)) (f' := (1399, [some (.ref 0), some (.ref 1), some (.ref 138), some (.ref 187), some (.ref 188), some (.int a5), some (.int w259.1), some (.int w262.1)], [.int w259.1])) (h' := hp N w262.2) rfl ?_
    rcases ite_or h with ⟨h268, h⟩ | ⟨h268, h⟩
    · refine ev_iff rfl (decide_eq_false (fun w => w h268)) ?_
      refine ev_run (n := 2) (u' := (u1 + 1, u2 + 6)) (f' := (1404, [some (.ref 0), some (.ref 1), some (.ref 138), some (.ref 187), some (.ref 188), some (.int a5), some (.int w259.1), some (.int w262.1)], [.int 0, .ref 187])) (h' := hp N w262.2) rfl ?_
      obtain ⟨h266, h⟩ := cond_some h
      refine ev_lald rfl rfl h266 ?_
      refine ev_run (n := 1) (u' := (u1 + 1, u2 + 6)) (f' := (1407, [some (.ref 0), some (.ref 1), some (.ref 138), some (.ref 187), some (.ref 188), some (.int a5), some (.int w259.1), some (.int w262.1)], [.int w262.1, .long (w262.2.2.1 187 (xi 0))])) (h' := hp N w262.2) rfl ?_
      rcases ite_or h with ⟨h267, h⟩ | ⟨h267, h⟩
      · refine ev_ift rfl (decide_eq_true h267) ?_
        refine ev_run (n := 1) (u' := (u1 + 1, u2 + 6)) (f' := (1415, [some (.ref 0), some (.ref 1), some (.ref 138), some (.ref 187), some (.ref 188), some (.int a5), none, none], [.long 0, .long (w262.2.2.1 187 (xi 0))])) (h' := hp N w262.2) rfl ?_
        exact em214_1415 k28 q28 a5 (w262.2.2.1 187 (xi 0)) 0 (by omega) (by omega) w262.2 _ h
      · refine ev_iff rfl (decide_eq_false h267) ?_
        refine ev_run (n := 2) (u' := (u1 + 1, u2 + 6)) (f' := (1415, [some (.ref 0), some (.ref 1), some (.ref 138), some (.ref 187), some (.ref 188), some (.int a5), none, none], [.long 1, .long (w262.2.2.1 187 (xi 0))])) (h' := hp N w262.2) rfl ?_
        exact em214_1415 k28 q28 a5 (w262.2.2.1 187 (xi 0)) 1 (by omega) (by omega) w262.2 _ h
    · refine ev_ift rfl (decide_eq_true h268) ?_
      exact em214_1421 k28 q28 a5 (by omega) (by omega) w262.2 _ h
  · refine ev_icf rfl (decide_eq_false h269) ?_
    refine ev_run (n := 1) (u' := (u1 + 1, u2 + 6)) (f' := (1396, [some (.ref 0), some (.ref 1), some (.ref 138), some (.ref 187), some (.ref 188), some (.int a5), some (.int w259.1), some (.int w262.1)], [.int 0])) (h' := hp N w262.2) rfl ?_
    cases h
    exact ev_iret rfl (end_u (by show _ ≤ 601024; omega) (by show _ ≤ 7293034; omega)) rfl (Or.inr ⟨rfl, rfl⟩)
def gm214_1496 (N : Nat) (k28 : Int32 → Hs → Option (Int32 × Hs)) (a5 : Int32) (x : Hs) : Option (Int32 × Hs) := gm214_2306 N k28 a5 x
theorem em214_1496 {N n : Nat} (k28 : Int32 → Hs → Option (Int32 × Hs)) (q28 : ∀ {u1 u2 : Nat} (a5 : Int32) (hu1 : u1 + (0 + 4 * n) ≤ 601024) (hu2 : u2 + (0 + 24 * n) ≤ 7293034) (x : Hs) (r : Int32 × Hs), k28 a5 x = some r → Ev 214 (u1, u2) (28, [some (.ref 0), some (.ref 1), some (.ref 138), some (.ref 187), some (.ref 188), some (.int a5), none, none], []) (hp N x) (cvMi N r)) {u1 u2 : Nat} (a5 : Int32) (hu1 : u1 + (0 + 4 * n) ≤ 601024) (hu2 : u2 + (0 + 24 * n) ≤ 7293034) (x : Hs) (r : Int32 × Hs) (h : gm214_1496 N k28 a5 x = some r) : Ev 214 (u1, u2) (1496, [some (.ref 0), some (.ref 1), some (.ref 138), some (.ref 187), some (.ref 188), some (.int a5), none, none], []) (hp N x) (cvMi N r) := by
  unfold gm214_1496 at h
  refine ev_run (n := 1) (u' := (u1, u2)) (f' := (2306, [some (.ref 0), some (.ref 1), some (.ref 138), some (.ref 187), some (.ref 188), some (.int a5), none, none], [])) (h' := hp N x) rfl ?_
  exact em214_2306 k28 q28 a5 (by omega) (by omega) x _ h
def gm214_1490 (N : Nat) (k28 : Int32 → Hs → Option (Int32 × Hs)) (a5 : Int32) (s0 : Int64) (s1 : Int64) (x : Hs) : Option (Int32 × Hs) := if (lg_cmp s0 s1) = 0 then (gm214_1496 N k28 a5 x) else (some (0, x))
theorem em214_1490 {N n : Nat} (k28 : Int32 → Hs → Option (Int32 × Hs)) (q28 : ∀ {u1 u2 : Nat} (a5 : Int32) (hu1 : u1 + (0 + 4 * n) ≤ 601024) (hu2 : u2 + (0 + 24 * n) ≤ 7293034) (x : Hs) (r : Int32 × Hs), k28 a5 x = some r → Ev 214 (u1, u2) (28, [some (.ref 0), some (.ref 1), some (.ref 138), some (.ref 187), some (.ref 188), some (.int a5), none, none], []) (hp N x) (cvMi N r)) {u1 u2 : Nat} (a5 : Int32) (s0 : Int64) (s1 : Int64) (hu1 : u1 + (0 + 4 * n) ≤ 601024) (hu2 : u2 + (0 + 24 * n) ≤ 7293034) (x : Hs) (r : Int32 × Hs) (h : gm214_1490 N k28 a5 s0 s1 x = some r) : Ev 214 (u1, u2) (1490, [some (.ref 0), some (.ref 1), some (.ref 138), some (.ref 187), some (.ref 188), some (.int a5), none, none], [.long s1, .long s0]) (hp N x) (cvMi N r) := by
  unfold gm214_1490 at h
  refine ev_run (n := 1) (u' := (u1, u2)) (f' := (1491, [some (.ref 0), some (.ref 1), some (.ref 138), some (.ref 187), some (.ref 188), some (.int a5), none, none], [.int (lg_cmp s0 s1)])) (h' := hp N x) rfl ?_
  rcases ite_or h with ⟨h462, h⟩ | ⟨h462, h⟩
  · refine ev_ift rfl (decide_eq_true h462) ?_
    exact em214_1496 k28 q28 a5 (by omega) (by omega) x _ h
  · refine ev_iff rfl (decide_eq_false h462) ?_
    refine ev_run (n := 1) (u' := (u1, u2)) (f' := (1495, [some (.ref 0), some (.ref 1), some (.ref 138), some (.ref 187), some (.ref 188), some (.int a5), none, none], [.int 0])) (h' := hp N x) rfl ?_
    cases h
    exact ev_iret rfl (end_u (by show _ ≤ 601024; omega) (by show _ ≤ 7293034; omega)) rfl (Or.inr ⟨rfl, rfl⟩)
def gm214_1424 (N : Nat) (k28 : Int32 → Hs → Option (Int32 × Hs)) (a5 : Int32) (x : Hs) : Option (Int32 × Hs) := cond (aIn (a5 + 1) N) (cond (aIn (a5 + 2) N) ((gm200 (x.1 0 (xi (a5 + 1))) (x.1 0 (xi (a5 + 2))) x).bind fun w272 => (cond (aIn (a5 + 1) N) (cond (aIn (a5 + 2) N) ((gm156 (w272.2.1 0 (xi (a5 + 1))) (w272.2.1 0 (xi (a5 + 2))) w272.2).bind fun w276 => ((gm112 w276.2).bind fun w278 => (if w278 = w272.1 then (if w272.1 = 0 then (cond (aIn 0 1) (if w276.1 = 0 then (gm214_1490 N k28 a5 (w276.2.2.1 187 (xi 0)) 0 w276.2) else (gm214_1490 N k28 a5 (w276.2.2.1 187 (xi 0)) 1 w276.2)) none) else (gm214_1496 N k28 a5 w276.2)) else (some (0, w276.2))))) none) none)) none) none
theorem em214_1424 {N n : Nat} (k28 : Int32 → Hs → Option (Int32 × Hs)) (q28 : ∀ {u1 u2 : Nat} (a5 : Int32) (hu1 : u1 + (0 + 4 * n) ≤ 601024) (hu2 : u2 + (0 + 24 * n) ≤ 7293034) (x : Hs) (r : Int32 × Hs), k28 a5 x = some r → Ev 214 (u1, u2) (28, [some (.ref 0), some (.ref 1), some (.ref 138), some (.ref 187), some (.ref 188), some (.int a5), none, none], []) (hp N x) (cvMi N r)) {u1 u2 : Nat} (a5 : Int32) (hu1 : u1 + (2 + 4 * n) ≤ 601024) (hu2 : u2 + (12 + 24 * n) ≤ 7293034) (x : Hs) (r : Int32 × Hs) (h : gm214_1424 N k28 a5 x = some r) : Ev 214 (u1, u2) (1424, [some (.ref 0), some (.ref 1), some (.ref 138), some (.ref 187), some (.ref 188), some (.int a5), none, none], []) (hp N x) (cvMi N r) := by
  unfold gm214_1424 at h
  refine ev_run (n := 5) (u' := (u1, u2)) (f' := (1430, [some (.ref 0), some (.ref 1), some (.ref 138), some (.ref 187), some (.ref 188), some (.int a5), none, none], [.int (a5 + 1), .ref 0, .ref 1])) (h' := hp N x) rfl ?_
  obtain ⟨h270, h⟩ := cond_some h
  refine ev_iald rfl rfl h270 ?_
  refine ev_run (n := 4) (u' := (u1, u2)) (f' := (1436, [some (.ref 0), some (.ref 1), some (.ref 138), some (.ref 187), some (.ref 188), some (.int a5), none, none], [.int (a5 + 2), .ref 0, .int (x.1 0 (xi (a5 + 1))), .ref 1])) (h' := hp N x) rfl ?_
  obtain ⟨h271, h⟩ := cond_some h
  refine ev_iald rfl rfl h271 ?_
  refine ev_run (n := 1) (u' := (u1, u2)) (f' := (1438, [some (.ref 0), some (.ref 1), some (.ref 138), some (.ref 187), some (.ref 188), some (.int a5), none, none], [.ref 187, .int (x.1 0 (xi (a5 + 2))), .int (x.1 0 (xi (a5 + 1))), .ref 1])) (h' := hp N x) rfl ?_
  obtain ⟨w272, h273, h⟩ := bind_ok h
  refine ev_call (v := some (.int w272.1)) (h1 := hp N w272.2) rfl rfl rfl (ok_u rfl (by show u1 + 2 ≤ 601024; omega) (by show u2 + 12 ≤ 7293034; omega)) (em200 (x.1 0 (xi (a5 + 1))) (x.1 0 (xi (a5 + 2))) (by decide) (by decide) x _ h273) ?_
  show Ev 214 (u1 + 2, u2 + 12) (1441, [some (.ref 0), some (.ref 1), some (.ref 138), some (.ref 187), some (.ref 188), some (.int a5), none, none], [.int w272.1]) (hp N w272.2) _
  refine ev_run (n := 6) (u' := (u1 + 2, u2 + 12)) (f' := (1449, [some (.ref 0), some (.ref 1), some (.ref 138), some (.ref 187), some (.ref 188), some (.int a5), some (.int w272.1), none], [.int (a5 + 1), .ref 0, .ref 138])) (h' := hp N w272.2) rfl ?_
  obtain ⟨h274, h⟩ := cond_some h
  refine ev_iald rfl rfl h274 ?_
  refine ev_run (n := 4) (u' := (u1 + 2, u2 + 12)) (f' := (1455, [some (.ref 0), some (.ref 1), some (.ref 138), some (.ref 187), some (.ref 188), some (.int a5), some (.int w272.1), none], [.int (a5 + 2), .ref 0, .int (w272.2.1 0 (xi (a5 + 1))), .ref 138])) (h' := hp N w272.2) rfl ?_
  obtain ⟨h275, h⟩ := cond_some h
  refine ev_iald rfl rfl h275 ?_
  obtain ⟨w276, h277, h⟩ := bind_ok h
  refine ev_call (v := some (.int w276.1)) (h1 := hp N w276.2) rfl rfl rfl (ok_u rfl (by show u1 + 2 + 0 ≤ 601024; omega) (by show u2 + 12 + 0 ≤ 7293034; omega)) (em156 (w272.2.1 0 (xi (a5 + 1))) (w272.2.1 0 (xi (a5 + 2))) w272.2 _ h277) ?_
  show Ev 214 (u1 + 2, u2 + 12) (1459, [some (.ref 0), some (.ref 1), some (.ref 138), some (.ref 187), some (.ref 188), some (.int a5), some (.int w272.1), none], [.int w276.1]) (hp N w276.2) _
  refine ev_run (n := 2) (u' := (u1 + 2, u2 + 12)) (f' := (1462, [some (.ref 0), some (.ref 1), some (.ref 138), some (.ref 187), some (.ref 188), some (.int a5), some (.int w272.1), some (.int w276.1)], [.ref 138])) (h' := hp N w276.2) rfl ?_
  obtain ⟨w278, h279, h⟩ := bind_ok h
  refine ev_call (v := some (.int w278)) (h1 := hp N w276.2) rfl rfl rfl (ok_u rfl (by show u1 + 2 + 0 ≤ 601024; omega) (by show u2 + 12 + 0 ≤ 7293034; omega)) (em112 w276.2 _ h279) ?_
  show Ev 214 (u1 + 2, u2 + 12) (1465, [some (.ref 0), some (.ref 1), some (.ref 138), some (.ref 187), some (.ref 188), some (.int a5), some (.int w272.1), some (.int w276.1)], [.int w278]) (hp N w276.2) _
  refine ev_run (n := 1) (u' := (u1 + 2, u2 + 12)) (f' := (1467, [some (.ref 0), some (.ref 1), some (.ref 138), some (.ref 187), some (.ref 188), some (.int a5), some (.int w272.1), some (.int w276.1)], [.int w272.1, .int w278])) (h' := hp N w276.2) rfl ?_
  rcases ite_or h with ⟨h283, h⟩ | ⟨h283, h⟩
  · refine ev_ict rfl (decide_eq_true h283) ?_
    refine ev_run (n := 1) (u' := (u1 + 2, u2 + 12)) (f' := (1474, [some (.ref 0), some (.ref 1), some (.ref 138), some (.ref 187), some (.ref 188), some (.int a5), some (.int w272.1), some (.int w276.1)], [.int w272.1])) (h' := hp N w276.2) rfl ?_
    rcases ite_or h with ⟨h282, h⟩ | ⟨h282, h⟩
    · refine ev_iff rfl (decide_eq_false (fun w => w h282)) ?_
      refine ev_run (n := 2) (u' := (u1 + 2, u2 + 12)) (f' := (1479, [some (.ref 0), some (.ref 1), some (.ref 138), some (.ref 187), some (.ref 188), some (.int a5), some (.int w272.1), some (.int w276.1)], [.int 0, .ref 187])) (h' := hp N w276.2) rfl ?_
      obtain ⟨h280, h⟩ := cond_some h
      refine ev_lald rfl rfl h280 ?_
      refine ev_run (n := 1) (u' := (u1 + 2, u2 + 12)) (f' := (1482, [some (.ref 0), some (.ref 1), some (.ref 138), some (.ref 187), some (.ref 188), some (.int a5), some (.int w272.1), some (.int w276.1)], [.int w276.1, .long (w276.2.2.1 187 (xi 0))])) (h' := hp N w276.2) rfl ?_
      rcases ite_or h with ⟨h281, h⟩ | ⟨h281, h⟩
      · refine ev_ift rfl (decide_eq_true h281) ?_
        refine ev_run (n := 1) (u' := (u1 + 2, u2 + 12)) (f' := (1490, [some (.ref 0), some (.ref 1), some (.ref 138), some (.ref 187), some (.ref 188), some (.int a5), none, none], [.long 0, .long (w276.2.2.1 187 (xi 0))])) (h' := hp N w276.2) rfl ?_
        exact em214_1490 k28 q28 a5 (w276.2.2.1 187 (xi 0)) 0 (by omega) (by omega) w276.2 _ h
      · refine ev_iff rfl (decide_eq_false h281) ?_
        refine ev_run (n := 2) (u' := (u1 + 2, u2 + 12)) (f' := (1490, [some (.ref 0), some (.ref 1), some (.ref 138), some (.ref 187), some (.ref 188), some (.int a5), none, none], [.long 1, .long (w276.2.2.1 187 (xi 0))])) (h' := hp N w276.2) rfl ?_
        exact em214_1490 k28 q28 a5 (w276.2.2.1 187 (xi 0)) 1 (by omega) (by omega) w276.2 _ h
    · refine ev_ift rfl (decide_eq_true h282) ?_
      exact em214_1496 k28 q28 a5 (by omega) (by omega) w276.2 _ h
  · refine ev_icf rfl (decide_eq_false h283) ?_
    refine ev_run (n := 1) (u' := (u1 + 2, u2 + 12)) (f' := (1471, [some (.ref 0), some (.ref 1), some (.ref 138), some (.ref 187), some (.ref 188), some (.int a5), some (.int w272.1), some (.int w276.1)], [.int 0])) (h' := hp N w276.2) rfl ?_
    cases h
    exact ev_iret rfl (end_u (by show _ ≤ 601024; omega) (by show _ ≤ 7293034; omega)) rfl (Or.inr ⟨rfl, rfl⟩)
def gm214_1552 (N : Nat) (k28 : Int32 → Hs → Option (Int32 × Hs)) (a5 : Int32) (x : Hs) : Option (Int32 × Hs) := gm214_2306 N k28 a5 x
theorem em214_1552 {N n : Nat} (k28 : Int32 → Hs → Option (Int32 × Hs)) (q28 : ∀ {u1 u2 : Nat} (a5 : Int32) (hu1 : u1 + (0 + 4 * n) ≤ 601024) (hu2 : u2 + (0 + 24 * n) ≤ 7293034) (x : Hs) (r : Int32 × Hs), k28 a5 x = some r → Ev 214 (u1, u2) (28, [some (.ref 0), some (.ref 1), some (.ref 138), some (.ref 187), some (.ref 188), some (.int a5), none, none], []) (hp N x) (cvMi N r)) {u1 u2 : Nat} (a5 : Int32) (hu1 : u1 + (0 + 4 * n) ≤ 601024) (hu2 : u2 + (0 + 24 * n) ≤ 7293034) (x : Hs) (r : Int32 × Hs) (h : gm214_1552 N k28 a5 x = some r) : Ev 214 (u1, u2) (1552, [some (.ref 0), some (.ref 1), some (.ref 138), some (.ref 187), some (.ref 188), some (.int a5), none, none], []) (hp N x) (cvMi N r) := by
  unfold gm214_1552 at h
  refine ev_run (n := 1) (u' := (u1, u2)) (f' := (2306, [some (.ref 0), some (.ref 1), some (.ref 138), some (.ref 187), some (.ref 188), some (.int a5), none, none], [])) (h' := hp N x) rfl ?_
  exact em214_2306 k28 q28 a5 (by omega) (by omega) x _ h
def gm214_1499 (N : Nat) (k28 : Int32 → Hs → Option (Int32 × Hs)) (a5 : Int32) (x : Hs) : Option (Int32 × Hs) := cond (aIn (a5 + 1) N) ((gm201 (x.1 0 (xi (a5 + 1))) x).bind fun w285 => (cond (aIn (a5 + 1) N) ((gm157 (w285.2.1 0 (xi (a5 + 1))) w285.2).bind fun w288 => ((gm112 w288.2).bind fun w290 => (if w290 = w285.1 then (if w285.1 = 0 then (cond (aIn 0 1) (if (lg_cmp (w288.2.2.1 187 (xi 0)) (Int32.toInt64 w288.1)) = 0 then (gm214_1552 N k28 a5 w288.2) else (some (0, w288.2))) none) else (gm214_1552 N k28 a5 w288.2)) else (some (0, w288.2))))) none)) none
theorem em214_1499 {N n : Nat} (k28 : Int32 → Hs → Option (Int32 × Hs)) (q28 : ∀ {u1 u2 : Nat} (a5 : Int32) (hu1 : u1 + (0 + 4 * n) ≤ 601024) (hu2 : u2 + (0 + 24 * n) ≤ 7293034) (x : Hs) (r : Int32 × Hs), k28 a5 x = some r → Ev 214 (u1, u2) (28, [some (.ref 0), some (.ref 1), some (.ref 138), some (.ref 187), some (.ref 188), some (.int a5), none, none], []) (hp N x) (cvMi N r)) {u1 u2 : Nat} (a5 : Int32) (hu1 : u1 + (2 + 4 * n) ≤ 601024) (hu2 : u2 + (12 + 24 * n) ≤ 7293034) (x : Hs) (r : Int32 × Hs) (h : gm214_1499 N k28 a5 x = some r) : Ev 214 (u1, u2) (1499, [some (.ref 0), some (.ref 1), some (.ref 138), some (.ref 187), some (.ref 188), some (.int a5), none, none], []) (hp N x) (cvMi N r) := by
  unfold gm214_1499 at h
  refine ev_run (n := 5) (u' := (u1, u2)) (f' := (1505, [some (.ref 0), some (.ref 1), some (.ref 138), some (.ref 187), some (.ref 188), some (.int a5), none, none], [.int (a5 + 1), .ref 0, .ref 1])) (h' := hp N x) rfl ?_
  obtain ⟨h284, h⟩ := cond_some h
  refine ev_iald rfl rfl h284 ?_
  refine ev_run (n := 1) (u' := (u1, u2)) (f' := (1507, [some (.ref 0), some (.ref 1), some (.ref 138), some (.ref 187), some (.ref 188), some (.int a5), none, none], [.ref 187, .int (x.1 0 (xi (a5 + 1))), .ref 1])) (h' := hp N x) rfl ?_
  obtain ⟨w285, h286, h⟩ := bind_ok h
  refine ev_call (v := some (.int w285.1)) (h1 := hp N w285.2) rfl rfl rfl (ok_u rfl (by show u1 + 2 ≤ 601024; omega) (by show u2 + 12 ≤ 7293034; omega)) (em201 (x.1 0 (xi (a5 + 1))) (by decide) (by decide) x _ h286) ?_
  show Ev 214 (u1 + 2, u2 + 12) (1510, [some (.ref 0), some (.ref 1), some (.ref 138), some (.ref 187), some (.ref 188), some (.int a5), none, none], [.int w285.1]) (hp N w285.2) _
  refine ev_run (n := 6) (u' := (u1 + 2, u2 + 12)) (f' := (1518, [some (.ref 0), some (.ref 1), some (.ref 138), some (.ref 187), some (.ref 188), some (.int a5), some (.int w285.1), none], [.int (a5 + 1), .ref 0, .ref 138])) (h' := hp N w285.2) rfl ?_
  obtain ⟨h287, h⟩ := cond_some h
  refine ev_iald rfl rfl h287 ?_
  obtain ⟨w288, h289, h⟩ := bind_ok h
  refine ev_call (v := some (.int w288.1)) (h1 := hp N w288.2) rfl rfl rfl (ok_u rfl (by show u1 + 2 + 0 ≤ 601024; omega) (by show u2 + 12 + 0 ≤ 7293034; omega)) (em157 (w285.2.1 0 (xi (a5 + 1))) w285.2 _ h289) ?_
  show Ev 214 (u1 + 2, u2 + 12) (1522, [some (.ref 0), some (.ref 1), some (.ref 138), some (.ref 187), some (.ref 188), some (.int a5), some (.int w285.1), none], [.int w288.1]) (hp N w288.2) _
  refine ev_run (n := 2) (u' := (u1 + 2, u2 + 12)) (f' := (1525, [some (.ref 0), some (.ref 1), some (.ref 138), some (.ref 187), some (.ref 188), some (.int a5), some (.int w285.1), some (.int w288.1)], [.ref 138])) (h' := hp N w288.2) rfl ?_
  obtain ⟨w290, h291, h⟩ := bind_ok h
  refine ev_call (v := some (.int w290)) (h1 := hp N w288.2) rfl rfl rfl (ok_u rfl (by show u1 + 2 + 0 ≤ 601024; omega) (by show u2 + 12 + 0 ≤ 7293034; omega)) (em112 w288.2 _ h291) ?_
  show Ev 214 (u1 + 2, u2 + 12) (1528, [some (.ref 0), some (.ref 1), some (.ref 138), some (.ref 187), some (.ref 188), some (.int a5), some (.int w285.1), some (.int w288.1)], [.int w290]) (hp N w288.2) _
  refine ev_run (n := 1) (u' := (u1 + 2, u2 + 12)) (f' := (1530, [some (.ref 0), some (.ref 1), some (.ref 138), some (.ref 187), some (.ref 188), some (.int a5), some (.int w285.1), some (.int w288.1)], [.int w285.1, .int w290])) (h' := hp N w288.2) rfl ?_
  rcases ite_or h with ⟨h295, h⟩ | ⟨h295, h⟩
  · refine ev_ict rfl (decide_eq_true h295) ?_
    refine ev_run (n := 1) (u' := (u1 + 2, u2 + 12)) (f' := (1537, [some (.ref 0), some (.ref 1), some (.ref 138), some (.ref 187), some (.ref 188), some (.int a5), some (.int w285.1), some (.int w288.1)], [.int w285.1])) (h' := hp N w288.2) rfl ?_
    rcases ite_or h with ⟨h294, h⟩ | ⟨h294, h⟩
    · refine ev_iff rfl (decide_eq_false (fun w => w h294)) ?_
      refine ev_run (n := 2) (u' := (u1 + 2, u2 + 12)) (f' := (1542, [some (.ref 0), some (.ref 1), some (.ref 138), some (.ref 187), some (.ref 188), some (.int a5), some (.int w285.1), some (.int w288.1)], [.int 0, .ref 187])) (h' := hp N w288.2) rfl ?_
      obtain ⟨h292, h⟩ := cond_some h
      refine ev_lald rfl rfl h292 ?_
      refine ev_run (n := 3) (u' := (u1 + 2, u2 + 12)) (f' := (1547, [some (.ref 0), some (.ref 1), some (.ref 138), some (.ref 187), some (.ref 188), some (.int a5), some (.int w285.1), some (.int w288.1)], [.int (lg_cmp (w288.2.2.1 187 (xi 0)) (Int32.toInt64 w288.1))])) (h' := hp N w288.2) rfl ?_
      rcases ite_or h with ⟨h293, h⟩ | ⟨h293, h⟩
      · refine ev_ift rfl (decide_eq_true h293) ?_
        exact em214_1552 k28 q28 a5 (by omega) (by omega) w288.2 _ h
      · refine ev_iff rfl (decide_eq_false h293) ?_
        refine ev_run (n := 1) (u' := (u1 + 2, u2 + 12)) (f' := (1551, [some (.ref 0), some (.ref 1), some (.ref 138), some (.ref 187), some (.ref 188), some (.int a5), some (.int w285.1), some (.int w288.1)], [.int 0])) (h' := hp N w288.2) rfl ?_
        cases h
        exact ev_iret rfl (end_u (by show _ ≤ 601024; omega) (by show _ ≤ 7293034; omega)) rfl (Or.inr ⟨rfl, rfl⟩)
    · refine ev_ift rfl (decide_eq_true h294) ?_
      exact em214_1552 k28 q28 a5 (by omega) (by omega) w288.2 _ h
  · refine ev_icf rfl (decide_eq_false h295) ?_
    refine ev_run (n := 1) (u' := (u1 + 2, u2 + 12)) (f' := (1534, [some (.ref 0), some (.ref 1), some (.ref 138), some (.ref 187), some (.ref 188), some (.int a5), some (.int w285.1), some (.int w288.1)], [.int 0])) (h' := hp N w288.2) rfl ?_
    cases h
    exact ev_iret rfl (end_u (by show _ ≤ 601024; omega) (by show _ ≤ 7293034; omega)) rfl (Or.inr ⟨rfl, rfl⟩)
def gm214_1596 (N : Nat) (k28 : Int32 → Hs → Option (Int32 × Hs)) (a5 : Int32) (x : Hs) : Option (Int32 × Hs) := gm214_2306 N k28 a5 x
theorem em214_1596 {N n : Nat} (k28 : Int32 → Hs → Option (Int32 × Hs)) (q28 : ∀ {u1 u2 : Nat} (a5 : Int32) (hu1 : u1 + (0 + 4 * n) ≤ 601024) (hu2 : u2 + (0 + 24 * n) ≤ 7293034) (x : Hs) (r : Int32 × Hs), k28 a5 x = some r → Ev 214 (u1, u2) (28, [some (.ref 0), some (.ref 1), some (.ref 138), some (.ref 187), some (.ref 188), some (.int a5), none, none], []) (hp N x) (cvMi N r)) {u1 u2 : Nat} (a5 : Int32) (hu1 : u1 + (0 + 4 * n) ≤ 601024) (hu2 : u2 + (0 + 24 * n) ≤ 7293034) (x : Hs) (r : Int32 × Hs) (h : gm214_1596 N k28 a5 x = some r) : Ev 214 (u1, u2) (1596, [some (.ref 0), some (.ref 1), some (.ref 138), some (.ref 187), some (.ref 188), some (.int a5), none, none], []) (hp N x) (cvMi N r) := by
  unfold gm214_1596 at h
  refine ev_run (n := 1) (u' := (u1, u2)) (f' := (2306, [some (.ref 0), some (.ref 1), some (.ref 138), some (.ref 187), some (.ref 188), some (.int a5), none, none], [])) (h' := hp N x) rfl ?_
  exact em214_2306 k28 q28 a5 (by omega) (by omega) x _ h
def gm214_1555 (N : Nat) (k28 : Int32 → Hs → Option (Int32 × Hs)) (a5 : Int32) (x : Hs) : Option (Int32 × Hs) := (gm202 x).bind fun w296 => ((gm158 w296.2).bind fun w298 => ((gm112 w298.2).bind fun w300 => (if w300 = w296.1 then (if w296.1 = 0 then (cond (aIn 0 1) (if (lg_cmp (w298.2.2.1 187 (xi 0)) (Int32.toInt64 w298.1)) = 0 then (gm214_1596 N k28 a5 w298.2) else (some (0, w298.2))) none) else (gm214_1596 N k28 a5 w298.2)) else (some (0, w298.2)))))
theorem em214_1555 {N n : Nat} (k28 : Int32 → Hs → Option (Int32 × Hs)) (q28 : ∀ {u1 u2 : Nat} (a5 : Int32) (hu1 : u1 + (0 + 4 * n) ≤ 601024) (hu2 : u2 + (0 + 24 * n) ≤ 7293034) (x : Hs) (r : Int32 × Hs), k28 a5 x = some r → Ev 214 (u1, u2) (28, [some (.ref 0), some (.ref 1), some (.ref 138), some (.ref 187), some (.ref 188), some (.int a5), none, none], []) (hp N x) (cvMi N r)) {u1 u2 : Nat} (a5 : Int32) (hu1 : u1 + (1 + 4 * n) ≤ 601024) (hu2 : u2 + (6 + 24 * n) ≤ 7293034) (x : Hs) (r : Int32 × Hs) (h : gm214_1555 N k28 a5 x = some r) : Ev 214 (u1, u2) (1555, [some (.ref 0), some (.ref 1), some (.ref 138), some (.ref 187), some (.ref 188), some (.int a5), none, none], []) (hp N x) (cvMi N r) := by
  unfold gm214_1555 at h
  refine ev_run (n := 2) (u' := (u1, u2)) (f' := (1557, [some (.ref 0), some (.ref 1), some (.ref 138), some (.ref 187), some (.ref 188), some (.int a5), none, none], [.ref 187, .ref 1])) (h' := hp N x) rfl ?_
  obtain ⟨w296, h297, h⟩ := bind_ok h
  refine ev_call (v := some (.int w296.1)) (h1 := hp N w296.2) rfl rfl rfl (ok_u rfl (by show u1 + 1 ≤ 601024; omega) (by show u2 + 6 ≤ 7293034; omega)) (em202 (by decide) (by decide) x _ h297) ?_
  show Ev 214 (u1 + 1, u2 + 6) (1560, [some (.ref 0), some (.ref 1), some (.ref 138), some (.ref 187), some (.ref 188), some (.int a5), none, none], [.int w296.1]) (hp N w296.2) _
  refine ev_run (n := 2) (u' := (u1 + 1, u2 + 6)) (f' := (1563, [some (.ref 0), some (.ref 1), some (.ref 138), some (.ref 187), some (.ref 188), some (.int a5), some (.int w296.1), none], [.ref 138])) (h' := hp N w296.2) rfl ?_
  obtain ⟨w298, h299, h⟩ := bind_ok h
  refine ev_call (v := some (.int w298.1)) (h1 := hp N w298.2) rfl rfl rfl (ok_u rfl (by show u1 + 1 + 0 ≤ 601024; omega) (by show u2 + 6 + 0 ≤ 7293034; omega)) (em158 w296.2 _ h299) ?_
  show Ev 214 (u1 + 1, u2 + 6) (1566, [some (.ref 0), some (.ref 1), some (.ref 138), some (.ref 187), some (.ref 188), some (.int a5), some (.int w296.1), none], [.int w298.1]) (hp N w298.2) _
  refine ev_run (n := 2) (u' := (u1 + 1, u2 + 6)) (f' := (1569, [some (.ref 0), some (.ref 1), some (.ref 138), some (.ref 187), some (.ref 188), some (.int a5), some (.int w296.1), some (.int w298.1)], [.ref 138])) (h' := hp N w298.2) rfl ?_
  obtain ⟨w300, h301, h⟩ := bind_ok h
  refine ev_call (v := some (.int w300)) (h1 := hp N w298.2) rfl rfl rfl (ok_u rfl (by show u1 + 1 + 0 ≤ 601024; omega) (by show u2 + 6 + 0 ≤ 7293034; omega)) (em112 w298.2 _ h301) ?_
  show Ev 214 (u1 + 1, u2 + 6) (1572, [some (.ref 0), some (.ref 1), some (.ref 138), some (.ref 187), some (.ref 188), some (.int a5), some (.int w296.1), some (.int w298.1)], [.int w300]) (hp N w298.2) _
  refine ev_run (n := 1) (u' := (u1 + 1, u2 + 6)) (f' := (1574, [some (.ref 0), some (.ref 1), some (.ref 138), some (.ref 187), some (.ref 188), some (.int a5), some (.int w296.1), some (.int w298.1)], [.int w296.1, .int w300])) (h' := hp N w298.2) rfl ?_
  rcases ite_or h with ⟨h305, h⟩ | ⟨h305, h⟩
  · refine ev_ict rfl (decide_eq_true h305) ?_
    refine ev_run (n := 1) (u' := (u1 + 1, u2 + 6)) (f' := (1581, [some (.ref 0), some (.ref 1), some (.ref 138), some (.ref 187), some (.ref 188), some (.int a5), some (.int w296.1), some (.int w298.1)], [.int w296.1])) (h' := hp N w298.2) rfl ?_
    rcases ite_or h with ⟨h304, h⟩ | ⟨h304, h⟩
    · refine ev_iff rfl (decide_eq_false (fun w => w h304)) ?_
      refine ev_run (n := 2) (u' := (u1 + 1, u2 + 6)) (f' := (1586, [some (.ref 0), some (.ref 1), some (.ref 138), some (.ref 187), some (.ref 188), some (.int a5), some (.int w296.1), some (.int w298.1)], [.int 0, .ref 187])) (h' := hp N w298.2) rfl ?_
      obtain ⟨h302, h⟩ := cond_some h
      refine ev_lald rfl rfl h302 ?_
      refine ev_run (n := 3) (u' := (u1 + 1, u2 + 6)) (f' := (1591, [some (.ref 0), some (.ref 1), some (.ref 138), some (.ref 187), some (.ref 188), some (.int a5), some (.int w296.1), some (.int w298.1)], [.int (lg_cmp (w298.2.2.1 187 (xi 0)) (Int32.toInt64 w298.1))])) (h' := hp N w298.2) rfl ?_
      rcases ite_or h with ⟨h303, h⟩ | ⟨h303, h⟩
      · refine ev_ift rfl (decide_eq_true h303) ?_
        exact em214_1596 k28 q28 a5 (by omega) (by omega) w298.2 _ h
      · refine ev_iff rfl (decide_eq_false h303) ?_
        refine ev_run (n := 1) (u' := (u1 + 1, u2 + 6)) (f' := (1595, [some (.ref 0), some (.ref 1), some (.ref 138), some (.ref 187), some (.ref 188), some (.int a5), some (.int w296.1), some (.int w298.1)], [.int 0])) (h' := hp N w298.2) rfl ?_
        cases h
        exact ev_iret rfl (end_u (by show _ ≤ 601024; omega) (by show _ ≤ 7293034; omega)) rfl (Or.inr ⟨rfl, rfl⟩)
    · refine ev_ift rfl (decide_eq_true h304) ?_
      exact em214_1596 k28 q28 a5 (by omega) (by omega) w298.2 _ h
  · refine ev_icf rfl (decide_eq_false h305) ?_
    refine ev_run (n := 1) (u' := (u1 + 1, u2 + 6)) (f' := (1578, [some (.ref 0), some (.ref 1), some (.ref 138), some (.ref 187), some (.ref 188), some (.int a5), some (.int w296.1), some (.int w298.1)], [.int 0])) (h' := hp N w298.2) rfl ?_
    cases h
    exact ev_iret rfl (end_u (by show _ ≤ 601024; omega) (by show _ ≤ 7293034; omega)) rfl (Or.inr ⟨rfl, rfl⟩)
def gm214_1664 (N : Nat) (k28 : Int32 → Hs → Option (Int32 × Hs)) (a5 : Int32) (x : Hs) : Option (Int32 × Hs) := gm214_2306 N k28 a5 x
theorem em214_1664 {N n : Nat} (k28 : Int32 → Hs → Option (Int32 × Hs)) (q28 : ∀ {u1 u2 : Nat} (a5 : Int32) (hu1 : u1 + (0 + 4 * n) ≤ 601024) (hu2 : u2 + (0 + 24 * n) ≤ 7293034) (x : Hs) (r : Int32 × Hs), k28 a5 x = some r → Ev 214 (u1, u2) (28, [some (.ref 0), some (.ref 1), some (.ref 138), some (.ref 187), some (.ref 188), some (.int a5), none, none], []) (hp N x) (cvMi N r)) {u1 u2 : Nat} (a5 : Int32) (hu1 : u1 + (0 + 4 * n) ≤ 601024) (hu2 : u2 + (0 + 24 * n) ≤ 7293034) (x : Hs) (r : Int32 × Hs) (h : gm214_1664 N k28 a5 x = some r) : Ev 214 (u1, u2) (1664, [some (.ref 0), some (.ref 1), some (.ref 138), some (.ref 187), some (.ref 188), some (.int a5), none, none], []) (hp N x) (cvMi N r) := by
  unfold gm214_1664 at h
  refine ev_run (n := 1) (u' := (u1, u2)) (f' := (2306, [some (.ref 0), some (.ref 1), some (.ref 138), some (.ref 187), some (.ref 188), some (.int a5), none, none], [])) (h' := hp N x) rfl ?_
  exact em214_2306 k28 q28 a5 (by omega) (by omega) x _ h
def gm214_1599 (N : Nat) (k28 : Int32 → Hs → Option (Int32 × Hs)) (a5 : Int32) (x : Hs) : Option (Int32 × Hs) := cond (aIn (a5 + 1) N) (cond (aIn (a5 + 2) N) ((gm203 (x.1 0 (xi (a5 + 1))) (x.1 0 (xi (a5 + 2))) x).bind fun w308 => (cond (aIn (a5 + 1) N) (cond (aIn (a5 + 2) N) ((gm161 (w308.2.1 0 (xi (a5 + 1))) (w308.2.1 0 (xi (a5 + 2))) w308.2).bind fun w312 => ((gm112 w312.2).bind fun w314 => (if w314 = w308.1 then (if w308.1 = 0 then (cond (aIn 0 1) (if (lg_cmp (w312.2.2.1 187 (xi 0)) (Int32.toInt64 w312.1)) = 0 then (gm214_1664 N k28 a5 w312.2) else (some (0, w312.2))) none) else (gm214_1664 N k28 a5 w312.2)) else (some (0, w312.2))))) none) none)) none) none
theorem em214_1599 {N n : Nat} (k28 : Int32 → Hs → Option (Int32 × Hs)) (q28 : ∀ {u1 u2 : Nat} (a5 : Int32) (hu1 : u1 + (0 + 4 * n) ≤ 601024) (hu2 : u2 + (0 + 24 * n) ≤ 7293034) (x : Hs) (r : Int32 × Hs), k28 a5 x = some r → Ev 214 (u1, u2) (28, [some (.ref 0), some (.ref 1), some (.ref 138), some (.ref 187), some (.ref 188), some (.int a5), none, none], []) (hp N x) (cvMi N r)) {u1 u2 : Nat} (a5 : Int32) (hu1 : u1 + (2 + 4 * n) ≤ 601024) (hu2 : u2 + (12 + 24 * n) ≤ 7293034) (x : Hs) (r : Int32 × Hs) (h : gm214_1599 N k28 a5 x = some r) : Ev 214 (u1, u2) (1599, [some (.ref 0), some (.ref 1), some (.ref 138), some (.ref 187), some (.ref 188), some (.int a5), none, none], []) (hp N x) (cvMi N r) := by
  unfold gm214_1599 at h
  refine ev_run (n := 5) (u' := (u1, u2)) (f' := (1605, [some (.ref 0), some (.ref 1), some (.ref 138), some (.ref 187), some (.ref 188), some (.int a5), none, none], [.int (a5 + 1), .ref 0, .ref 1])) (h' := hp N x) rfl ?_
  obtain ⟨h306, h⟩ := cond_some h
  refine ev_iald rfl rfl h306 ?_
  refine ev_run (n := 4) (u' := (u1, u2)) (f' := (1611, [some (.ref 0), some (.ref 1), some (.ref 138), some (.ref 187), some (.ref 188), some (.int a5), none, none], [.int (a5 + 2), .ref 0, .int (x.1 0 (xi (a5 + 1))), .ref 1])) (h' := hp N x) rfl ?_
  obtain ⟨h307, h⟩ := cond_some h
  refine ev_iald rfl rfl h307 ?_
  refine ev_run (n := 1) (u' := (u1, u2)) (f' := (1613, [some (.ref 0), some (.ref 1), some (.ref 138), some (.ref 187), some (.ref 188), some (.int a5), none, none], [.ref 187, .int (x.1 0 (xi (a5 + 2))), .int (x.1 0 (xi (a5 + 1))), .ref 1])) (h' := hp N x) rfl ?_
  obtain ⟨w308, h309, h⟩ := bind_ok h
  refine ev_call (v := some (.int w308.1)) (h1 := hp N w308.2) rfl rfl rfl (ok_u rfl (by show u1 + 2 ≤ 601024; omega) (by show u2 + 12 ≤ 7293034; omega)) (em203 (x.1 0 (xi (a5 + 1))) (x.1 0 (xi (a5 + 2))) (by decide) (by decide) x _ h309) ?_
  show Ev 214 (u1 + 2, u2 + 12) (1616, [some (.ref 0), some (.ref 1), some (.ref 138), some (.ref 187), some (.ref 188), some (.int a5), none, none], [.int w308.1]) (hp N w308.2) _
  refine ev_run (n := 6) (u' := (u1 + 2, u2 + 12)) (f' := (1624, [some (.ref 0), some (.ref 1), some (.ref 138), some (.ref 187), some (.ref 188), some (.int a5), some (.int w308.1), none], [.int (a5 + 1), .ref 0, .ref 138])) (h' := hp N w308.2) rfl ?_
  obtain ⟨h310, h⟩ := cond_some h
  refine ev_iald rfl rfl h310 ?_
  refine ev_run (n := 4) (u' := (u1 + 2, u2 + 12)) (f' := (1630, [some (.ref 0), some (.ref 1), some (.ref 138), some (.ref 187), some (.ref 188), some (.int a5), some (.int w308.1), none], [.int (a5 + 2), .ref 0, .int (w308.2.1 0 (xi (a5 + 1))), .ref 138])) (h' := hp N w308.2) rfl ?_
  obtain ⟨h311, h⟩ := cond_some h
  refine ev_iald rfl rfl h311 ?_
  obtain ⟨w312, h313, h⟩ := bind_ok h
  refine ev_call (v := some (.int w312.1)) (h1 := hp N w312.2) rfl rfl rfl (ok_u rfl (by show u1 + 2 + 0 ≤ 601024; omega) (by show u2 + 12 + 0 ≤ 7293034; omega)) (em161 (w308.2.1 0 (xi (a5 + 1))) (w308.2.1 0 (xi (a5 + 2))) w308.2 _ h313) ?_
  show Ev 214 (u1 + 2, u2 + 12) (1634, [some (.ref 0), some (.ref 1), some (.ref 138), some (.ref 187), some (.ref 188), some (.int a5), some (.int w308.1), none], [.int w312.1]) (hp N w312.2) _
  refine ev_run (n := 2) (u' := (u1 + 2, u2 + 12)) (f' := (1637, [some (.ref 0), some (.ref 1), some (.ref 138), some (.ref 187), some (.ref 188), some (.int a5), some (.int w308.1), some (.int w312.1)], [.ref 138])) (h' := hp N w312.2) rfl ?_
  obtain ⟨w314, h315, h⟩ := bind_ok h
  refine ev_call (v := some (.int w314)) (h1 := hp N w312.2) rfl rfl rfl (ok_u rfl (by show u1 + 2 + 0 ≤ 601024; omega) (by show u2 + 12 + 0 ≤ 7293034; omega)) (em112 w312.2 _ h315) ?_
  show Ev 214 (u1 + 2, u2 + 12) (1640, [some (.ref 0), some (.ref 1), some (.ref 138), some (.ref 187), some (.ref 188), some (.int a5), some (.int w308.1), some (.int w312.1)], [.int w314]) (hp N w312.2) _
  refine ev_run (n := 1) (u' := (u1 + 2, u2 + 12)) (f' := (1642, [some (.ref 0), some (.ref 1), some (.ref 138), some (.ref 187), some (.ref 188), some (.int a5), some (.int w308.1), some (.int w312.1)], [.int w308.1, .int w314])) (h' := hp N w312.2) rfl ?_
  rcases ite_or h with ⟨h319, h⟩ | ⟨h319, h⟩
  · refine ev_ict rfl (decide_eq_true h319) ?_
    refine ev_run (n := 1) (u' := (u1 + 2, u2 + 12)) (f' := (1649, [some (.ref 0), some (.ref 1), some (.ref 138), some (.ref 187), some (.ref 188), some (.int a5), some (.int w308.1), some (.int w312.1)], [.int w308.1])) (h' := hp N w312.2) rfl ?_
    rcases ite_or h with ⟨h318, h⟩ | ⟨h318, h⟩
    · refine ev_iff rfl (decide_eq_false (fun w => w h318)) ?_
      refine ev_run (n := 2) (u' := (u1 + 2, u2 + 12)) (f' := (1654, [some (.ref 0), some (.ref 1), some (.ref 138), some (.ref 187), some (.ref 188), some (.int a5), some (.int w308.1), some (.int w312.1)], [.int 0, .ref 187])) (h' := hp N w312.2) rfl ?_
      obtain ⟨h316, h⟩ := cond_some h
      refine ev_lald rfl rfl h316 ?_
      refine ev_run (n := 3) (u' := (u1 + 2, u2 + 12)) (f' := (1659, [some (.ref 0), some (.ref 1), some (.ref 138), some (.ref 187), some (.ref 188), some (.int a5), some (.int w308.1), some (.int w312.1)], [.int (lg_cmp (w312.2.2.1 187 (xi 0)) (Int32.toInt64 w312.1))])) (h' := hp N w312.2) rfl ?_
      rcases ite_or h with ⟨h317, h⟩ | ⟨h317, h⟩
      · refine ev_ift rfl (decide_eq_true h317) ?_
        exact em214_1664 k28 q28 a5 (by omega) (by omega) w312.2 _ h
      · refine ev_iff rfl (decide_eq_false h317) ?_
        refine ev_run (n := 1) (u' := (u1 + 2, u2 + 12)) (f' := (1663, [some (.ref 0), some (.ref 1), some (.ref 138), some (.ref 187), some (.ref 188), some (.int a5), some (.int w308.1), some (.int w312.1)], [.int 0])) (h' := hp N w312.2) rfl ?_
        cases h
        exact ev_iret rfl (end_u (by show _ ≤ 601024; omega) (by show _ ≤ 7293034; omega)) rfl (Or.inr ⟨rfl, rfl⟩)
    · refine ev_ift rfl (decide_eq_true h318) ?_
      exact em214_1664 k28 q28 a5 (by omega) (by omega) w312.2 _ h
  · refine ev_icf rfl (decide_eq_false h319) ?_
    refine ev_run (n := 1) (u' := (u1 + 2, u2 + 12)) (f' := (1646, [some (.ref 0), some (.ref 1), some (.ref 138), some (.ref 187), some (.ref 188), some (.int a5), some (.int w308.1), some (.int w312.1)], [.int 0])) (h' := hp N w312.2) rfl ?_
    cases h
    exact ev_iret rfl (end_u (by show _ ≤ 601024; omega) (by show _ ≤ 7293034; omega)) rfl (Or.inr ⟨rfl, rfl⟩)
