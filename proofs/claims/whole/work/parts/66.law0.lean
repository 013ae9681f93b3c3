/-! The law's loop as functions; printed by dec_law.py -/
theorem aIn_32 {x : Int32} (h0 : ¬ x = 0) (h1 : ¬ x = 1) (h2 : ¬ x = 2) (h3 : ¬ x = 3) (h4 : ¬ x = 4) (h5 : ¬ x = 5) (h6 : ¬ x = 6) (h7 : ¬ x = 7) (h8 : ¬ x = 8) (h9 : ¬ x = 9) (h10 : ¬ x = 10) (h11 : ¬ x = 11) (h12 : ¬ x = 12) (h13 : ¬ x = 13) (h14 : ¬ x = 14) (h15 : ¬ x = 15) (h16 : ¬ x = 16) (h17 : ¬ x = 17) (h18 : ¬ x = 18) (h19 : ¬ x = 19) (h20 : ¬ x = 20) (h21 : ¬ x = 21) (h22 : ¬ x = 22) (h23 : ¬ x = 23) (h24 : ¬ x = 24) (h25 : ¬ x = 25) (h26 : ¬ x = 26) (h27 : ¬ x = 27) (h28 : ¬ x = 28) (h29 : ¬ x = 29) (h30 : ¬ x = 30) (h31 : ¬ x = 31) : aIn x 32 = false := by
  cases hh : aIn x 32 with
  | false => rfl
  | true =>
    exfalso
    have k1 : x.toInt.toNat < 32 := lt_of_aIn hh
    have k2 : ¬ x < 0 := by
      unfold aIn at hh
      simp only [Bool.and_eq_true, Bool.not_eq_true', decide_eq_false_iff_not] at hh
      exact hh.1
    have k3 : ¬ x.toInt < 0 := fun z => k2 (Int32.lt_iff_toInt_lt.mpr z)
    have e0 : ¬ x.toInt = 0 := fun e => h0 (Int32.toInt_inj.mp e)
    have e1 : ¬ x.toInt = 1 := fun e => h1 (Int32.toInt_inj.mp e)
    have e2 : ¬ x.toInt = 2 := fun e => h2 (Int32.toInt_inj.mp e)
    have e3 : ¬ x.toInt = 3 := fun e => h3 (Int32.toInt_inj.mp e)
    have e4 : ¬ x.toInt = 4 := fun e => h4 (Int32.toInt_inj.mp e)
    have e5 : ¬ x.toInt = 5 := fun e => h5 (Int32.toInt_inj.mp e)
    have e6 : ¬ x.toInt = 6 := fun e => h6 (Int32.toInt_inj.mp e)
    have e7 : ¬ x.toInt = 7 := fun e => h7 (Int32.toInt_inj.mp e)
    have e8 : ¬ x.toInt = 8 := fun e => h8 (Int32.toInt_inj.mp e)
    have e9 : ¬ x.toInt = 9 := fun e => h9 (Int32.toInt_inj.mp e)
    have e10 : ¬ x.toInt = 10 := fun e => h10 (Int32.toInt_inj.mp e)
    have e11 : ¬ x.toInt = 11 := fun e => h11 (Int32.toInt_inj.mp e)
    have e12 : ¬ x.toInt = 12 := fun e => h12 (Int32.toInt_inj.mp e)
    have e13 : ¬ x.toInt = 13 := fun e => h13 (Int32.toInt_inj.mp e)
    have e14 : ¬ x.toInt = 14 := fun e => h14 (Int32.toInt_inj.mp e)
    have e15 : ¬ x.toInt = 15 := fun e => h15 (Int32.toInt_inj.mp e)
    have e16 : ¬ x.toInt = 16 := fun e => h16 (Int32.toInt_inj.mp e)
    have e17 : ¬ x.toInt = 17 := fun e => h17 (Int32.toInt_inj.mp e)
    have e18 : ¬ x.toInt = 18 := fun e => h18 (Int32.toInt_inj.mp e)
    have e19 : ¬ x.toInt = 19 := fun e => h19 (Int32.toInt_inj.mp e)
    have e20 : ¬ x.toInt = 20 := fun e => h20 (Int32.toInt_inj.mp e)
    have e21 : ¬ x.toInt = 21 := fun e => h21 (Int32.toInt_inj.mp e)
    have e22 : ¬ x.toInt = 22 := fun e => h22 (Int32.toInt_inj.mp e)
    have e23 : ¬ x.toInt = 23 := fun e => h23 (Int32.toInt_inj.mp e)
    have e24 : ¬ x.toInt = 24 := fun e => h24 (Int32.toInt_inj.mp e)
    have e25 : ¬ x.toInt = 25 := fun e => h25 (Int32.toInt_inj.mp e)
    have e26 : ¬ x.toInt = 26 := fun e => h26 (Int32.toInt_inj.mp e)
    have e27 : ¬ x.toInt = 27 := fun e => h27 (Int32.toInt_inj.mp e)
    have e28 : ¬ x.toInt = 28 := fun e => h28 (Int32.toInt_inj.mp e)
    have e29 : ¬ x.toInt = 29 := fun e => h29 (Int32.toInt_inj.mp e)
    have e30 : ¬ x.toInt = 30 := fun e => h30 (Int32.toInt_inj.mp e)
    have e31 : ¬ x.toInt = 31 := fun e => h31 (Int32.toInt_inj.mp e)
    omega
def gm214_2306 (N : Nat) (k28 : Int32 → Hs → Option (Int32 × Hs)) (a5 : Int32) (x : Hs) : Option (Int32 × Hs) := k28 (a5 + 6) x
theorem em214_2306 {N n : Nat} (k28 : Int32 → Hs → Option (Int32 × Hs)) (q28 : ∀ {u1 u2 : Nat} (a5 : Int32) (hu1 : u1 + (0 + 4 * n) ≤ 601024) (hu2 : u2 + (0 + 24 * n) ≤ 7293034) (x : Hs) (r : Int32 × Hs), k28 a5 x = some r → Ev 214 (u1, u2) (28, [some (.ref 0), some (.ref 1), some (.ref 138), some (.ref 187), some (.ref 188), some (.int a5), none, none], []) (hp N x) (cvMi N r)) {u1 u2 : Nat} (a5 : Int32) (hu1 : u1 + (0 + 4 * n) ≤ 601024) (hu2 : u2 + (0 + 24 * n) ≤ 7293034) (x : Hs) (r : Int32 × Hs) (h : gm214_2306 N k28 a5 x = some r) : Ev 214 (u1, u2) (2306, [some (.ref 0), some (.ref 1), some (.ref 138), some (.ref 187), some (.ref 188), some (.int a5), none, none], []) (hp N x) (cvMi N r) := by
  unfold gm214_2306 at h
  refine ev_run (n := 2) (u' := (u1, u2)) (f' := (28, [some (.ref 0), some (.ref 1), some (.ref 138), some (.ref 187), some (.ref 188), some (.int (a5 + 6)), none, none], [])) (h' := hp N x) rfl ?_
  exact q28 (a5 + 6) (by omega) (by omega) x _ h
def gm214_229 (N : Nat) (k28 : Int32 → Hs → Option (Int32 × Hs)) (a5 : Int32) (x : Hs) : Option (Int32 × Hs) := gm214_2306 N k28 a5 x
theorem em214_229 {N n : Nat} (k28 : Int32 → Hs → Option (Int32 × Hs)) (q28 : ∀ {u1 u2 : Nat} (a5 : Int32) (hu1 : u1 + (0 + 4 * n) ≤ 601024) (hu2 : u2 + (0 + 24 * n) ≤ 7293034) (x : Hs) (r : Int32 × Hs), k28 a5 x = some r → Ev 214 (u1, u2) (28, [some (.ref 0), some (.ref 1), some (.ref 138), some (.ref 187), some (.ref 188), some (.int a5), none, none], []) (hp N x) (cvMi N r)) {u1 u2 : Nat} (a5 : Int32) (hu1 : u1 + (0 + 4 * n) ≤ 601024) (hu2 : u2 + (0 + 24 * n) ≤ 7293034) (x : Hs) (r : Int32 × Hs) (h : gm214_229 N k28 a5 x = some r) : Ev 214 (u1, u2) (229, [some (.ref 0), some (.ref 1), some (.ref 138), some (.ref 187), some (.ref 188), some (.int a5), none, none], []) (hp N x) (cvMi N r) := by
  unfold gm214_229 at h
  refine ev_run (n := 1) (u' := (u1, u2)) (f' := (2306, [some (.ref 0), some (.ref 1), some (.ref 138), some (.ref 187), some (.ref 188), some (.int a5), none, none], [])) (h' := hp N x) rfl ?_
  exact em214_2306 k28 q28 a5 (by omega) (by omega) x _ h
def gm214_188 (N : Nat) (k28 : Int32 → Hs → Option (Int32 × Hs)) (a5 : Int32) (x : Hs) : Option (Int32 × Hs) := (gm182 x).bind fun w35 => ((gm120 w35.2).bind fun w37 => ((gm112 w37.2).bind fun w39 => (if w39 = w35.1 then (if w35.1 = 0 then (cond (aIn 0 1) (if (lg_cmp (w37.2.2.1 187 (xi 0)) (Int32.toInt64 w37.1)) = 0 then (gm214_229 N k28 a5 w37.2) else (some (0, w37.2))) none) else (gm214_229 N k28 a5 w37.2)) else (some (0, w37.2)))))
theorem em214_188 {N n : Nat} (k28 : Int32 → Hs → Option (Int32 × Hs)) (q28 : ∀ {u1 u2 : Nat} (a5 : Int32) (hu1 : u1 + (0 + 4 * n) ≤ 601024) (hu2 : u2 + (0 + 24 * n) ≤ 7293034) (x : Hs) (r : Int32 × Hs), k28 a5 x = some r → Ev 214 (u1, u2) (28, [some (.ref 0), some (.ref 1), some (.ref 138), some (.ref 187), some (.ref 188), some (.int a5), none, none], []) (hp N x) (cvMi N r)) {u1 u2 : Nat} (a5 : Int32) (hu1 : u1 + (1 + 4 * n) ≤ 601024) (hu2 : u2 + (6 + 24 * n) ≤ 7293034) (x : Hs) (r : Int32 × Hs) (h : gm214_188 N k28 a5 x = some r) : Ev 214 (u1, u2) (188, [some (.ref 0), some (.ref 1), some (.ref 138), some (.ref 187), some (.ref 188), some (.int a5), none, none], []) (hp N x) (cvMi N r) := by
  unfold gm214_188 at h
  refine ev_run (n := 2) (u' := (u1, u2)) (f' := (190, [some (.ref 0), some (.ref 1), some (.ref 138), some (.ref 187), some (.ref 188), some (.int a5), none, none], [.ref 187, .ref 1])) (h' := hp N x) rfl ?_
  obtain ⟨w35, h36, h⟩ := bind_ok h
  refine ev_call (v := some (.int w35.1)) (h1 := hp N w35.2) rfl rfl rfl (ok_u rfl (by show u1 + 1 ≤ 601024; omega) (by show u2 + 6 ≤ 7293034; omega)) (em182 (by decide) (by decide) x _ h36) ?_
  show Ev 214 (u1 + 1, u2 + 6) (193, [some (.ref 0), some (.ref 1), some (.ref 138), some (.ref 187), some (.ref 188), some (.int a5), none, none], [.int w35.1]) (hp N w35.2) _
  refine ev_run (n := 2) (u' := (u1 + 1, u2 + 6)) (f' := (196, [some (.ref 0), some (.ref 1), some (.ref 138), some (.ref 187), some (.ref 188), some (.int a5), some (.int w35.1), none], [.ref 138])) (h' := hp N w35.2) rfl ?_
  obtain ⟨w37, h38, h⟩ := bind_ok h
  refine ev_call (v := some (.int w37.1)) (h1 := hp N w37.2) rfl rfl rfl (ok_u rfl (by show u1 + 1 + 0 ≤ 601024; omega) (by show u2 + 6 + 0 ≤ 7293034; omega)) (em120 w35.2 _ h38) ?_
  show Ev 214 (u1 + 1, u2 + 6) (199, [some (.ref 0), some (.ref 1), some (.ref 138), some (.ref 187), some (.ref 188), some (.int a5), some (.int w35.1), none], [.int w37.1]) (hp N w37.2) _
  refine ev_run (n := 2) (u' := (u1 + 1, u2 + 6)) (f' := (202, [some (.ref 0), some (.ref 1), some (.ref 138), some (.ref 187), some (.ref 188), some (.int a5), some (.int w35.1), some (.int w37.1)], [.ref 138])) (h' := hp N w37.2) rfl ?_
  obtain ⟨w39, h40, h⟩ := bind_ok h
  refine ev_call (v := some (.int w39)) (h1 := hp N w37.2) rfl rfl rfl (ok_u rfl (by show u1 + 1 + 0 ≤ 601024; omega) (by show u2 + 6 + 0 ≤ 7293034; omega)) (em112 w37.2 _ h40) ?_
  show Ev 214 (u1 + 1, u2 + 6) (205, [some (.ref 0), some (.ref 1), some (.ref 138), some (.ref 187), some (.ref 188), some (.int a5), some (.int w35.1), some (.int w37.1)], [.int w39]) (hp N w37.2) _
  refine ev_run (n := 1) (u' := (u1 + 1, u2 + 6)) (f' := (207, [some (.ref 0), some (.ref 1), some (.ref 138), some (.ref 187), some (.ref 188), some (.int a5), some (.int w35.1), some (.int w37.1)], [.int w35.1, .int w39])) (h' := hp N w37.2) rfl ?_
  rcases ite_or h with ⟨h44, h⟩ | ⟨h44, h⟩
  · refine ev_ict rfl (decide_eq_true h44) ?_
    refine ev_run (n := 1) (u' := (u1 + 1, u2 + 6)) (f' := (214, [some (.ref 0), some (.ref 1), some (.ref 138), some (.ref 187), some (.ref 188), some (.int a5), some (.int w35.1), some (.int w37.1)], [.int w35.1])) (h' := hp N w37.2) rfl ?_
    rcases ite_or h with ⟨h43, h⟩ | ⟨h43, h⟩
    · refine ev_iff rfl (decide_eq_false (fun w => w h43)) ?_
      refine ev_run (n := 2) (u' := (u1 + 1, u2 + 6)) (f' := (219, [some (.ref 0), some (.ref 1), some (.ref 138), some (.ref 187), some (.ref 188), some (.int a5), some (.int w35.1), some (.int w37.1)], [.int 0, .ref 187])) (h' := hp N w37.2) rfl ?_
      obtain ⟨h41, h⟩ := cond_some h
      refine ev_lald rfl rfl h41 ?_
      refine ev_run (n := 3) (u' := (u1 + 1, u2 + 6)) (f' := (224, [some (.ref 0), some (.ref 1), some (.ref 138), some (.ref 187), some (.ref 188), some (.int a5), some (.int w35.1), some (.int w37.1)], [.int (lg_cmp (w37.2.2.1 187 (xi 0)) (Int32.toInt64 w37.1))])) (h' := hp N w37.2) rfl ?_
      rcases ite_or h with ⟨h42, h⟩ | ⟨h42, h⟩
      · refine ev_ift rfl (decide_eq_true h42) ?_
        exact em214_229 k28 q28 a5 (by omega) (by omega) w37.2 _ h
      · refine ev_iff rfl (decide_eq_false h42) ?_
        refine ev_run (n := 1) (u' := (u1 + 1, u2 + 6)) (f' := (228, [some (.ref 0), some (.ref 1), some (.ref 138), some (.ref 187), some (.ref 188), some (.int a5), some (.int w35.1), some (.int w37.1)], [.int 0])) (h' := hp N w37.2) rfl ?_
        cases h
        exact ev_iret rfl (end_u (by show _ ≤ 601024; omega) (by show _ ≤ 7293034; omega)) rfl (Or.inr ⟨rfl, rfl⟩)
    · refine ev_ift rfl (decide_eq_true h43) ?_
      exact em214_229 k28 q28 a5 (by omega) (by omega) w37.2 _ h
  · refine ev_icf rfl (decide_eq_false h44) ?_
    refine ev_run (n := 1) (u' := (u1 + 1, u2 + 6)) (f' := (211, [some (.ref 0), some (.ref 1), some (.ref 138), some (.ref 187), some (.ref 188), some (.int a5), some (.int w35.1), some (.int w37.1)], [.int 0])) (h' := hp N w37.2) rfl ?_
    cases h
    exact ev_iret rfl (end_u (by show _ ≤ 601024; omega) (by show _ ≤ 7293034; omega)) rfl (Or.inr ⟨rfl, rfl⟩)
def gm214_297 (N : Nat) (k28 : Int32 → Hs → Option (Int32 × Hs)) (a5 : Int32) (x : Hs) : Option (Int32 × Hs) := gm214_2306 N k28 a5 x
theorem em214_297 {N n : Nat} (k28 : Int32 → Hs → Option (Int32 × Hs)) (q28 : ∀ {u1 u2 : Nat} (a5 : Int32) (hu1 : u1 + (0 + 4 * n) ≤ 601024) (hu2 : u2 + (0 + 24 * n) ≤ 7293034) (x : Hs) (r : Int32 × Hs), k28 a5 x = some r → Ev 214 (u1, u2) (28, [some (.ref 0), some (.ref 1), some (.ref 138), some (.ref 187), some (.ref 188), some (.int a5), none, none], []) (hp N x) (cvMi N r)) {u1 u2 : Nat} (a5 : Int32) (hu1 : u1 + (0 + 4 * n) ≤ 601024) (hu2 : u2 + (0 + 24 * n) ≤ 7293034) (x : Hs) (r : Int32 × Hs) (h : gm214_297 N k28 a5 x = some r) : Ev 214 (u1, u2) (297, [some (.ref 0), some (.ref 1), some (.ref 138), some (.ref 187), some (.ref 188), some (.int a5), none, none], []) (hp N x) (cvMi N r) := by
  unfold gm214_297 at h
  refine ev_run (n := 1) (u' := (u1, u2)) (f' := (2306, [some (.ref 0), some (.ref 1), some (.ref 138), some (.ref 187), some (.ref 188), some (.int a5), none, none], [])) (h' := hp N x) rfl ?_
  exact em214_2306 k28 q28 a5 (by omega) (by omega) x _ h
def gm214_232 (N : Nat) (k28 : Int32 → Hs → Option (Int32 × Hs)) (a5 : Int32) (x : Hs) : Option (Int32 × Hs) := cond (aIn (a5 + 1) N) (cond (aIn (a5 + 2) N) ((gm183 (x.1 0 (xi (a5 + 1))) (x.1 0 (xi (a5 + 2))) x).bind fun w47 => (cond (aIn (a5 + 1) N) (cond (aIn (a5 + 2) N) ((gm122 (w47.2.1 0 (xi (a5 + 1))) (w47.2.1 0 (xi (a5 + 2))) w47.2).bind fun w51 => ((gm112 w51.2).bind fun w53 => (if w53 = w47.1 then (if w47.1 = 0 then (cond (aIn 0 1) (if (lg_cmp (w51.2.2.1 187 (xi 0)) (Int32.toInt64 w51.1)) = 0 then (gm214_297 N k28 a5 w51.2) else (some (0, w51.2))) none) else (gm214_297 N k28 a5 w51.2)) else (some (0, w51.2))))) none) none)) none) none
theorem em214_232 {N n : Nat} (k28 : Int32 → Hs → Option (Int32 × Hs)) (q28 : ∀ {u1 u2 : Nat} (a5 : Int32) (hu1 : u1 + (0 + 4 * n) ≤ 601024) (hu2 : u2 + (0 + 24 * n) ≤ 7293034) (x : Hs) (r : Int32 × Hs), k28 a5 x = some r → Ev 214 (u1, u2) (28, [some (.ref 0), some (.ref 1), some (.ref 138), some (.ref 187), some (.ref 188), some (.int a5), none, none], []) (hp N x) (cvMi N r)) {u1 u2 : Nat} (a5 : Int32) (hu1 : u1 + (4 + 4 * n) ≤ 601024) (hu2 : u2 + (24 + 24 * n) ≤ 7293034) (x : Hs) (r : Int32 × Hs) (h : gm214_232 N k28 a5 x = some r) : Ev 214 (u1, u2) (232, [some (.ref 0), some (.ref 1), some (.ref 138), some (.ref 187), some (.ref 188), some (.int a5), none, none], []) (hp N x) (cvMi N r) := by
  unfold gm214_232 at h
  refine ev_run (n := 5) (u' := (u1, u2)) (f' := (238, [some (.ref 0), some (.ref 1), some (.ref 138), some (.ref 187), some (.ref 188), some (.int a5), none, none], [.int (a5 + 1), .ref 0, .ref 1])) (h' := hp N x) rfl ?_
  obtain ⟨h45, h⟩ := cond_some h
  refine ev_iald rfl rfl h45 ?_
  refine ev_run (n := 4) (u' := (u1, u2)) (f' := (244, [some (.ref 0), some (.ref 1), some (.ref 138), some (.ref 187), some (.ref 188), some (.int a5), none, none], [.int (a5 + 2), .ref 0, .int (x.1 0 (xi (a5 + 1))), .ref 1])) (h' := hp N x) rfl ?_
  obtain ⟨h46, h⟩ := cond_some h
  refine ev_iald rfl rfl h46 ?_
  refine ev_run (n := 1) (u' := (u1, u2)) (f' := (246, [some (.ref 0), some (.ref 1), some (.ref 138), some (.ref 187), some (.ref 188), some (.int a5), none, none], [.ref 187, .int (x.1 0 (xi (a5 + 2))), .int (x.1 0 (xi (a5 + 1))), .ref 1])) (h' := hp N x) rfl ?_
  obtain ⟨w47, h48, h⟩ := bind_ok h
  refine ev_call (v := some (.int w47.1)) (h1 := hp N w47.2) rfl rfl rfl (ok_u rfl (by show u1 + 4 ≤ 601024; omega) (by show u2 + 24 ≤ 7293034; omega)) (em183 (x.1 0 (xi (a5 + 1))) (x.1 0 (xi (a5 + 2))) (by decide) (by decide) x _ h48) ?_
  show Ev 214 (u1 + 4, u2 + 24) (249, [some (.ref 0), some (.ref 1), some (.ref 138), some (.ref 187), some (.ref 188), some (.int a5), none, none], [.int w47.1]) (hp N w47.2) _
  refine ev_run (n := 6) (u' := (u1 + 4, u2 + 24)) (f' := (257, [some (.ref 0), some (.ref 1), some (.ref 138), some (.ref 187), some (.ref 188), some (.int a5), some (.int w47.1), none], [.int (a5 + 1), .ref 0, .ref 138])) (h' := hp N w47.2) rfl ?_
  obtain ⟨h49, h⟩ := cond_some h
  refine ev_iald rfl rfl h49 ?_
  refine ev_run (n := 4) (u' := (u1 + 4, u2 + 24)) (f' := (263, [some (.ref 0), some (.ref 1), some (.ref 138), some (.ref 187), some (.ref 188), some (.int a5), some (.int w47.1), none], [.int (a5 + 2), .ref 0, .int (w47.2.1 0 (xi (a5 + 1))), .ref 138])) (h' := hp N w47.2) rfl ?_
  obtain ⟨h50, h⟩ := cond_some h
  refine ev_iald rfl rfl h50 ?_
  obtain ⟨w51, h52, h⟩ := bind_ok h
  refine ev_call (v := some (.int w51.1)) (h1 := hp N w51.2) rfl rfl rfl (ok_u rfl (by show u1 + 4 + 0 ≤ 601024; omega) (by show u2 + 24 + 0 ≤ 7293034; omega)) (em122 (w47.2.1 0 (xi (a5 + 1))) (w47.2.1 0 (xi (a5 + 2))) w47.2 _ h52) ?_
  show Ev 214 (u1 + 4, u2 + 24) (267, [some (.ref 0), some (.ref 1), some (.ref 138), some (.ref 187), some (.ref 188), some (.int a5), some (.int w47.1), none], [.int w51.1]) (hp N w51.2) _
  refine ev_run (n := 2) (u' := (u1 + 4, u2 + 24)) (f' := (270, [some (.ref 0), some (.ref 1), some (.ref 138), some (.ref 187), some (.ref 188), some (.int a5), some (.int w47.1), some (.int w51.1)], [.ref 138])) (h' := hp N w51.2) rfl ?_
  obtain ⟨w53, h54, h⟩ := bind_ok h
  refine ev_call (v := some (.int w53)) (h1 := hp N w51.2) rfl rfl rfl (ok_u rfl (by show u1 + 4 + 0 ≤ 601024; omega) (by show u2 + 24 + 0 ≤ 7293034; omega)) (em112 w51.2 _ h54) ?_
  show Ev 214 (u1 + 4, u2 + 24) (273, [some (.ref 0), some (.ref 1), some (.ref 138), some (.ref 187), some (.ref 188), some (.int a5), some (.int w47.1), some (.int w51.1)], [.int w53]) (hp N w51.2) _
  refine ev_run (n := 1) (u' := (u1 + 4, u2 + 24)) (f' := (275, [some (.ref 0), some (.ref 1), some (.ref 138), some (.ref 187), some (.ref 188), some (.int a5), some (.int w47.1), some (.int w51.1)], [.int w47.1, .int w53])) (h' := hp N w51.2) rfl ?_
  rcases ite_or h with ⟨h58, h⟩ | ⟨h58, h⟩
  · refine ev_ict rfl (decide_eq_true h58) ?_
    refine ev_run (n := 1) (u' := (u1 + 4, u2 + 24)) (f' := (282, [some (.ref 0), some (.ref 1), some (.ref 138), some (.ref 187), some (.ref 188), some (.int a5), some (.int w47.1), some (.int w51.1)], [.int w47.1])) (h' := hp N w51.2) rfl ?_
    rcases ite_or h with ⟨h57, h⟩ | ⟨h57, h⟩
    · refine ev_iff rfl (decide_eq_false (fun w => w h57)) ?_
      refine ev_run (n := 2) (u' := (u1 + 4, u2 + 24)) (f' := (287, [some (.ref 0), some (.ref 1), some (.ref 138), some (.ref 187), some (.ref 188), some (.int a5), some (.int w47.1), some (.int w51.1)], [.int 0, .ref 187])) (h' := hp N w51.2) rfl ?_
      obtain ⟨h55, h⟩ := cond_some h
      refine ev_lald rfl rfl h55 ?_
      refine ev_run (n := 3) (u' := (u1 + 4, u2 + 24)) (f' := (292, [some (.ref 0), some (.ref 1), some (.ref 138), some (.ref 187), some (.ref 188), some (.int a5), some (.int w47.1), some (.int w51.1)], [.int (lg_cmp (w51.2.2.1 187 (xi 0)) (Int32.toInt64 w51.1))])) (h' := hp N w51.2) rfl ?_
      rcases ite_or h with ⟨h56, h⟩ | ⟨h56, h⟩
      · refine ev_ift rfl (decide_eq_true h56) ?_
        exact em214_297 k28 q28 a5 (by omega) (by omega) w51.2 _ h
      · refine ev_iff rfl (decide_eq_false h56) ?_
        refine ev_run (n := 1) (u' := (u1 + 4, u2 + 24)) (f' := (296, [some (.ref 0), some (.ref 1), some (.ref 138), some (.ref 187), some (.ref 188), some (.int a5), some (.int w47.1), some (.int w51.1)], [.int 0])) (h' := hp N w51.2) rfl ?_
        cases h
        exact ev_iret rfl (end_u (by show _ ≤ 601024; omega) (by show _ ≤ 7293034; omega)) rfl (Or.inr ⟨rfl, rfl⟩)
    · refine ev_ift rfl (decide_eq_true h57) ?_
      exact em214_297 k28 q28 a5 (by omega) (by omega) w51.2 _ h
  · refine ev_icf rfl (decide_eq_false h58) ?_
    refine ev_run (n := 1) (u' := (u1 + 4, u2 + 24)) (f' := (279, [some (.ref 0), some (.ref 1), some (.ref 138), some (.ref 187), some (.ref 188), some (.int a5), some (.int w47.1), some (.int w51.1)], [.int 0])) (h' := hp N w51.2) rfl ?_
    cases h
    exact ev_iret rfl (end_u (by show _ ≤ 601024; omega) (by show _ ≤ 7293034; omega)) rfl (Or.inr ⟨rfl, rfl⟩)
def gm214_365 (N : Nat) (k28 : Int32 → Hs → Option (Int32 × Hs)) (a5 : Int32) (x : Hs) : Option (Int32 × Hs) := gm214_2306 N k28 a5 x
theorem em214_365 {N n : Nat} (k28 : Int32 → Hs → Option (Int32 × Hs)) (q28 : ∀ {u1 u2 : Nat} (a5 : Int32) (hu1 : u1 + (0 + 4 * n) ≤ 601024) (hu2 : u2 + (0 + 24 * n) ≤ 7293034) (x : Hs) (r : Int32 × Hs), k28 a5 x = some r → Ev 214 (u1, u2) (28, [some (.ref 0), some (.ref 1), some (.ref 138), some (.ref 187), some (.ref 188), some (.int a5), none, none], []) (hp N x) (cvMi N r)) {u1 u2 : Nat} (a5 : Int32) (hu1 : u1 + (0 + 4 * n) ≤ 601024) (hu2 : u2 + (0 + 24 * n) ≤ 7293034) (x : Hs) (r : Int32 × Hs) (h : gm214_365 N k28 a5 x = some r) : Ev 214 (u1, u2) (365, [some (.ref 0), some (.ref 1), some (.ref 138), some (.ref 187), some (.ref 188), some (.int a5), none, none], []) (hp N x) (cvMi N r) := by
  unfold gm214_365 at h
  refine ev_run (n := 1) (u' := (u1, u2)) (f' := (2306, [some (.ref 0), some (.ref 1), some (.ref 138), some (.ref 187), some (.ref 188), some (.int a5), none, none], [])) (h' := hp N x) rfl ?_
  exact em214_2306 k28 q28 a5 (by omega) (by omega) x _ h
def gm214_300 (N : Nat) (k28 : Int32 → Hs → Option (Int32 × Hs)) (a5 : Int32) (x : Hs) : Option (Int32 × Hs) := cond (aIn (a5 + 1) N) (cond (aIn (a5 + 2) N) ((gm184 (x.1 0 (xi (a5 + 1))) (x.1 0 (xi (a5 + 2))) x).bind fun w61 => (cond (aIn (a5 + 1) N) (cond (aIn (a5 + 2) N) ((gm123 (w61.2.1 0 (xi (a5 + 1))) (w61.2.1 0 (xi (a5 + 2))) w61.2).bind fun w65 => ((gm112 w65.2).bind fun w67 => (if w67 = w61.1 then (if w61.1 = 0 then (cond (aIn 0 1) (if (lg_cmp (w65.2.2.1 187 (xi 0)) (Int32.toInt64 w65.1)) = 0 then (gm214_365 N k28 a5 w65.2) else (some (0, w65.2))) none) else (gm214_365 N k28 a5 w65.2)) else (some (0, w65.2))))) none) none)) none) none
theorem em214_300 {N n : Nat} (k28 : Int32 → Hs → Option (Int32 × Hs)) (q28 : ∀ {u1 u2 : Nat} (a5 : Int32) (hu1 : u1 + (0 + 4 * n) ≤ 601024) (hu2 : u2 + (0 + 24 * n) ≤ 7293034) (x : Hs) (r : Int32 × Hs), k28 a5 x = some r → Ev 214 (u1, u2) (28, [some (.ref 0), some (.ref 1), some (.ref 138), some (.ref 187), some (.ref 188), some (.int a5), none, none], []) (hp N x) (cvMi N r)) {u1 u2 : Nat} (a5 : Int32) (hu1 : u1 + (3 + 4 * n) ≤ 601024) (hu2 : u2 + (18 + 24 * n) ≤ 7293034) (x : Hs) (r : Int32 × Hs) (h : gm214_300 N k28 a5 x = some r) : Ev 214 (u1, u2) (300, [some (.ref 0), some (.ref 1), some (.ref 138), some (.ref 187), some (.ref 188), some (.int a5), none, none], []) (hp N x) (cvMi N r) := by
  unfold gm214_300 at h
  refine ev_run (n := 5) (u' := (u1, u2)) (f' := (306, [some (.ref 0), some (.ref 1), some (.ref 138), some (.ref 187), some (.ref 188), some (.int a5), none, none], [.int (a5 + 1), .ref 0, .ref 1])) (h' := hp N x) rfl ?_
  obtain ⟨h59, h⟩ := cond_some h
  refine ev_iald rfl rfl h59 ?_
  refine ev_run (n := 4) (u' := (u1, u2)) (f' := (312, [some (.ref 0), some (.ref 1), some (.ref 138), some (.ref 187), some (.ref 188), some (.int a5), none, none], [.int (a5 + 2), .ref 0, .int (x.1 0 (xi (a5 + 1))), .ref 1])) (h' := hp N x) rfl ?_
  obtain ⟨h60, h⟩ := cond_some h
  refine ev_iald rfl rfl h60 ?_
  refine ev_run (n := 1) (u' := (u1, u2)) (f' := (314, [some (.ref 0), some (.ref 1), some (.ref 138), some (.ref 187), some (.ref 188), some (.int a5), none, none], [.ref 187, .int (x.1 0 (xi (a5 + 2))), .int (x.1 0 (xi (a5 + 1))), .ref 1])) (h' := hp N x) rfl ?_
  obtain ⟨w61, h62, h⟩ := bind_ok h
  refine ev_call (v := some (.int w61.1)) (h1 := hp N w61.2) rfl rfl rfl (ok_u rfl (by show u1 + 3 ≤ 601024; omega) (by show u2 + 18 ≤ 7293034; omega)) (em184 (x.1 0 (xi (a5 + 1))) (x.1 0 (xi (a5 + 2))) (by decide) (by decide) x _ h62) ?_
  show Ev 214 (u1 + 3, u2 + 18) (317, [some (.ref 0), some (.ref 1), some (.ref 138), some (.ref 187), some (.ref 188), some (.int a5), none, none], [.int w61.1]) (hp N w61.2) _
  refine ev_run (n := 6) (u' := (u1 + 3, u2 + 18)) (f' := (325, [some (.ref 0), some (.ref 1), some (.ref 138), some (.ref 187), some (.ref 188), some (.int a5), some (.int w61.1), none], [.int (a5 + 1), .ref 0, .ref 138])) (h' := hp N w61.2) rfl ?_
  obtain ⟨h63, h⟩ := cond_some h
  refine ev_iald rfl rfl h63 ?_
  refine ev_run (n := 4) (u' := (u1 + 3, u2 + 18)) (f' := (331, [some (.ref 0), some (.ref 1), some (.ref 138), some (.ref 187), some (.ref 188), some (.int a5), some (.int w61.1), none], [.int (a5 + 2), .ref 0, .int (w61.2.1 0 (xi (a5 + 1))), .ref 138])) (h' := hp N w61.2) rfl ?_
  obtain ⟨h64, h⟩ := cond_some h
  refine ev_iald rfl rfl h64 ?_
  obtain ⟨w65, h66, h⟩ := bind_ok h
  refine ev_call (v := some (.int w65.1)) (h1 := hp N w65.2) rfl rfl rfl (ok_u rfl (by show u1 + 3 + 0 ≤ 601024; omega) (by show u2 + 18 + 0 ≤ 7293034; omega)) (em123 (w61.2.1 0 (xi (a5 + 1))) (w61.2.1 0 (xi (a5 + 2))) w61.2 _ h66) ?_
  show Ev 214 (u1 + 3, u2 + 18) (335, [some (.ref 0), some (.ref 1), some (.ref 138), some (.ref 187), some (.ref 188), some (.int a5), some (.int w61.1), none], [.int w65.1]) (hp N w65.2) _
  refine ev_run (n := 2) (u' := (u1 + 3, u2 + 18)) (f' := (338, [some (.ref 0), some (.ref 1), some (.ref 138), some (.ref 187), some (.ref 188), some (.int a5), some (.int w61.1), some (.int w65.1)], [.ref 138])) (h' := hp N w65.2) rfl ?_
  obtain ⟨w67, h68, h⟩ := bind_ok h
  refine ev_call (v := some (.int w67)) (h1 := hp N w65.2) rfl rfl rfl (ok_u rfl (by show u1 + 3 + 0 ≤ 601024; omega) (by show u2 + 18 + 0 ≤ 7293034; omega)) (em112 w65.2 _ h68) ?_
  show Ev 214 (u1 + 3, u2 + 18) (341, [some (.ref 0), some (.ref 1), some (.ref 138), some (.ref 187), some (.ref 188), some (.int a5), some (.int w61.1), some (.int w65.1)], [.int w67]) (hp N w65.2) _
  refine ev_run (n := 1) (u' := (u1 + 3, u2 + 18)) (f' := (343, [some (.ref 0), some (.ref 1), some (.ref 138), some (.ref 187), some (.ref 188), some (.int a5), some (.int w61.1), some (.int w65.1)], [.int w61.1, .int w67])) (h' := hp N w65.2) rfl ?_
  rcases ite_or h with ⟨h72, h⟩ | ⟨h72, h⟩
  · refine ev_ict rfl (decide_eq_true h72) ?_
    refine ev_run (n := 1) (u' := (u1 + 3, u2 + 18)) (f' := (350, [some (.ref 0), some (.ref 1), some (.ref 138), some (.ref 187), some (.ref 188), some (.int a5), some (.int w61.1), some (.int w65.1)], [.int w61.1])) (h' := hp N w65.2) rfl ?_
    rcases ite_or h with ⟨h71, h⟩ | ⟨h71, h⟩
    · refine ev_iff rfl (decide_eq_false (fun w => w h71)) ?_
      refine ev_run (n := 2) (u' := (u1 + 3, u2 + 18)) (f' := (355, [some (.ref 0), some (.ref 1), some (.ref 138), some (.ref 187), some (.ref 188), some (.int a5), some (.int w61.1), some (.int w65.1)], [.int 0, .ref 187])) (h' := hp N w65.2) rfl ?_
      obtain ⟨h69, h⟩ := cond_some h
      refine ev_lald rfl rfl h69 ?_
      refine ev_run (n := 3) (u' := (u1 + 3, u2 + 18)) (f' := (360, [some (.ref 0), some (.ref 1), some (.ref 138), some (.ref 187), some (.ref 188), some (.int a5), some (.int w61.1), some (.int w65.1)], [.int (lg_cmp (w65.2.2.1 187 (xi 0)) (Int32.toInt64 w65.1))])) (h' := hp N w65.2) rfl ?_
      rcases ite_or h with ⟨h70, h⟩ | ⟨h70, h⟩
      · refine ev_ift rfl (decide_eq_true h70) ?_
        exact em214_365 k28 q28 a5 (by omega) (by omega) w65.2 _ h
      · refine ev_iff rfl (decide_eq_false h70) ?_
        refine ev_run (n := 1) (u' := (u1 + 3, u2 + 18)) (f' := (364, [some (.ref 0), some (.ref 1), some (.ref 138), some (.ref 187), some (.ref 188), some (.int a5), some (.int w61.1), some (.int w65.1)], [.int 0])) (h' := hp N w65.2) rfl ?_
        cases h
        exact ev_iret rfl (end_u (by show _ ≤ 601024; omega) (by show _ ≤ 7293034; omega)) rfl (Or.inr ⟨rfl, rfl⟩)
    · refine ev_ift rfl (decide_eq_true h71) ?_
      exact em214_365 k28 q28 a5 (by omega) (by omega) w65.2 _ h
  · refine ev_icf rfl (decide_eq_false h72) ?_
    refine ev_run (n := 1) (u' := (u1 + 3, u2 + 18)) (f' := (347, [some (.ref 0), some (.ref 1), some (.ref 138), some (.ref 187), some (.ref 188), some (.int a5), some (.int w61.1), some (.int w65.1)], [.int 0])) (h' := hp N w65.2) rfl ?_
    cases h
    exact ev_iret rfl (end_u (by show _ ≤ 601024; omega) (by show _ ≤ 7293034; omega)) rfl (Or.inr ⟨rfl, rfl⟩)
def gm214_368 (N : Nat) (k28 : Int32 → Hs → Option (Int32 × Hs)) (a5 : Int32) (x : Hs) : Option (Int32 × Hs) := cond (aIn (a5 + 1) N) (cond (aIn (a5 + 2) N) (cond (aIn (a5 + 3) N) (cond (aIn (a5 + 4) N) ((gm185 (x.1 0 (xi (a5 + 1))) (x.1 0 (xi (a5 + 2))) (x.1 0 (xi (a5 + 3))) (x.1 0 (xi (a5 + 4))) x).bind fun w77 => (cond (aIn (a5 + 1) N) (cond (aIn (a5 + 2) N) (cond (aIn (a5 + 3) N) (cond (aIn (a5 + 4) N) ((gm125 (w77.2.1 0 (xi (a5 + 1))) (w77.2.1 0 (xi (a5 + 2))) (w77.2.1 0 (xi (a5 + 3))) (w77.2.1 0 (xi (a5 + 4))) w77.2).bind fun w83 => ((gm112 w83).bind fun w85 => (if w85 = w77.1 then (gm214_2306 N k28 a5 w83) else (some (0, w83))))) none) none) none) none)) none) none) none) none
theorem em214_368 {N n : Nat} (k28 : Int32 → Hs → Option (Int32 × Hs)) (q28 : ∀ {u1 u2 : Nat} (a5 : Int32) (hu1 : u1 + (0 + 4 * n) ≤ 601024) (hu2 : u2 + (0 + 24 * n) ≤ 7293034) (x : Hs) (r : Int32 × Hs), k28 a5 x = some r → Ev 214 (u1, u2) (28, [some (.ref 0), some (.ref 1), some (.ref 138), some (.ref 187), some (.ref 188), some (.int a5), none, none], []) (hp N x) (cvMi N r)) {u1 u2 : Nat} (a5 : Int32) (hu1 : u1 + (4 + 4 * n) ≤ 601024) (hu2 : u2 + (24 + 24 * n) ≤ 7293034) (x : Hs) (r : Int32 × Hs) (h : gm214_368 N k28 a5 x = some r) : Ev 214 (u1, u2) (368, [some (.ref 0), some (.ref 1), some (.ref 138), some (.ref 187), some (.ref 188), some (.int a5), none, none], []) (hp N x) (cvMi N r) := by
  unfold gm214_368 at h
  refine ev_run (n := 5) (u' := (u1, u2)) (f' := (374, [some (.ref 0), some (.ref 1), some (.ref 138), some (.ref 187), some (.ref 188), some (.int a5), none, none], [.int (a5 + 1), .ref 0, .ref 1])) (h' := hp N x) rfl ?_
  obtain ⟨h73, h⟩ := cond_some h
  refine ev_iald rfl rfl h73 ?_
  refine ev_run (n := 4) (u' := (u1, u2)) (f' := (380, [some (.ref 0), some (.ref 1), some (.ref 138), some (.ref 187), some (.ref 188), some (.int a5), none, none], [.int (a5 + 2), .ref 0, .int (x.1 0 (xi (a5 + 1))), .ref 1])) (h' := hp N x) rfl ?_
  obtain ⟨h74, h⟩ := cond_some h
  refine ev_iald rfl rfl h74 ?_
  refine ev_run (n := 4) (u' := (u1, u2)) (f' := (386, [some (.ref 0), some (.ref 1), some (.ref 138), some (.ref 187), some (.ref 188), some (.int a5), none, none], [.int (a5 + 3), .ref 0, .int (x.1 0 (xi (a5 + 2))), .int (x.1 0 (xi (a5 + 1))), .ref 1])) (h' := hp N x) rfl ?_
  obtain ⟨h75, h⟩ := cond_some h
  refine ev_iald rfl rfl h75 ?_
  refine ev_run (n := 4) (u' := (u1, u2)) (f' := (392, [some (.ref 0), some (.ref 1), some (.ref 138), some (.ref 187), some (.ref 188), some (.int a5), none, none], [.int (a5 + 4), .ref 0, .int (x.1 0 (xi (a5 + 3))), .int (x.1 0 (xi (a5 + 2))), .int (x.1 0 (xi (a5 + 1))), .ref 1])) (h' := hp N x) rfl ?_
  obtain ⟨h76, h⟩ := cond_some h
  refine ev_iald rfl rfl h76 ?_
  obtain ⟨w77, h78, h⟩ := bind_ok h
  refine ev_call (v := some (.int w77.1)) (h1 := hp N w77.2) rfl rfl rfl (ok_u rfl (by show u1 + 4 ≤ 601024; omega) (by show u2 + 24 ≤ 7293034; omega)) (em185 (x.1 0 (xi (a5 + 1))) (x.1 0 (xi (a5 + 2))) (x.1 0 (xi (a5 + 3))) (x.1 0 (xi (a5 + 4))) (by decide) (by decide) x _ h78) ?_
  show Ev 214 (u1 + 4, u2 + 24) (396, [some (.ref 0), some (.ref 1), some (.ref 138), some (.ref 187), some (.ref 188), some (.int a5), none, none], [.int w77.1]) (hp N w77.2) _
  refine ev_run (n := 6) (u' := (u1 + 4, u2 + 24)) (f' := (404, [some (.ref 0), some (.ref 1), some (.ref 138), some (.ref 187), some (.ref 188), some (.int a5), some (.int w77.1), none], [.int (a5 + 1), .ref 0, .ref 138])) (h' := hp N w77.2) rfl ?_
  obtain ⟨h79, h⟩ := cond_some h
  refine ev_iald rfl rfl h79 ?_
  refine ev_run (n := 4) (u' := (u1 + 4, u2 + 24)) (f' := (410, [some (.ref 0), some (.ref 1), some (.ref 138), some (.ref 187), some (.ref 188), some (.int a5), some (.int w77.1), none], [.int (a5 + 2), .ref 0, .int (w77.2.1 0 (xi (a5 + 1))), .ref 138])) (h' := hp N w77.2) rfl ?_
  obtain ⟨h80, h⟩ := cond_some h
  refine ev_iald rfl rfl h80 ?_
  refine ev_run (n := 4) (u' := (u1 + 4, u2 + 24)) (f' := (416, [some (.ref 0), some (.ref 1), some (.ref 138), some (.ref 187), some (.ref 188), some (.int a5), some (.int w77.1), none], [.int (a5 + 3), .ref 0, .int (w77.2.1 0 (xi (a5 + 2))), .int (w77.2.1 0 (xi (a5 + 1))), .ref 138])) (h' := hp N w77.2) rfl ?_
  obtain ⟨h81, h⟩ := cond_some h
  refine ev_iald rfl rfl h81 ?_
  refine ev_run (n := 4) (u' := (u1 + 4, u2 + 24)) (f' := (422, [some (.ref 0), some (.ref 1), some (.ref 138), some (.ref 187), some (.ref 188), some (.int a5), some (.int w77.1), none], [.int (a5 + 4), .ref 0, .int (w77.2.1 0 (xi (a5 + 3))), .int (w77.2.1 0 (xi (a5 + 2))), .int (w77.2.1 0 (xi (a5 + 1))), .ref 138])) (h' := hp N w77.2) rfl ?_
  obtain ⟨h82, h⟩ := cond_some h
  refine ev_iald rfl rfl h82 ?_
  obtain ⟨w83, h84, h⟩ := bind_ok h
  refine ev_call (v := none) (h1 := hp N w83) rfl rfl rfl (ok_u rfl (by show u1 + 4 + 0 ≤ 601024; omega) (by show u2 + 24 + 0 ≤ 7293034; omega)) (em125 (w77.2.1 0 (xi (a5 + 1))) (w77.2.1 0 (xi (a5 + 2))) (w77.2.1 0 (xi (a5 + 3))) (w77.2.1 0 (xi (a5 + 4))) w77.2 _ h84) ?_
  show Ev 214 (u1 + 4, u2 + 24) (426, [some (.ref 0), some (.ref 1), some (.ref 138), some (.ref 187), some (.ref 188), some (.int a5), some (.int w77.1), none], []) (hp N w83) _
  refine ev_run (n := 1) (u' := (u1 + 4, u2 + 24)) (f' := (427, [some (.ref 0), some (.ref 1), some (.ref 138), some (.ref 187), some (.ref 188), some (.int a5), some (.int w77.1), none], [.ref 138])) (h' := hp N w83) rfl ?_
  obtain ⟨w85, h86, h⟩ := bind_ok h
  refine ev_call (v := some (.int w85)) (h1 := hp N w83) rfl rfl rfl (ok_u rfl (by show u1 + 4 + 0 ≤ 601024; omega) (by show u2 + 24 + 0 ≤ 7293034; omega)) (em112 w83 _ h86) ?_
  show Ev 214 (u1 + 4, u2 + 24) (430, [some (.ref 0), some (.ref 1), some (.ref 138), some (.ref 187), some (.ref 188), some (.int a5), some (.int w77.1), none], [.int w85]) (hp N w83) _
  refine ev_run (n := 1) (u' := (u1 + 4, u2 + 24)) (f' := (432, [some (.ref 0), some (.ref 1), some (.ref 138), some (.ref 187), some (.ref 188), some (.int a5), some (.int w77.1), none], [.int w77.1, .int w85])) (h' := hp N w83) rfl ?_
  rcases ite_or h with ⟨h87, h⟩ | ⟨h87, h⟩
  · refine ev_ict rfl (decide_eq_true h87) ?_
    refine ev_run (n := 1) (u' := (u1 + 4, u2 + 24)) (f' := (2306, [some (.ref 0), some (.ref 1), some (.ref 138), some (.ref 187), some (.ref 188), some (.int a5), none, none], [])) (h' := hp N w83) rfl ?_
    exact em214_2306 k28 q28 a5 (by omega) (by omega) w83 _ h
  · refine ev_icf rfl (decide_eq_false h87) ?_
    refine ev_run (n := 1) (u' := (u1 + 4, u2 + 24)) (f' := (436, [some (.ref 0), some (.ref 1), some (.ref 138), some (.ref 187), some (.ref 188), some (.int a5), some (.int w77.1), none], [.int 0])) (h' := hp N w83) rfl ?_
    cases h
    exact ev_iret rfl (end_u (by show _ ≤ 601024; omega) (by show _ ≤ 7293034; omega)) rfl (Or.inr ⟨rfl, rfl⟩)
def gm214_440 (N : Nat) (k28 : Int32 → Hs → Option (Int32 × Hs)) (a5 : Int32) (x : Hs) : Option (Int32 × Hs) := cond (aIn (a5 + 1) N) (cond (aIn (a5 + 2) N) ((gm186 (x.1 0 (xi (a5 + 1))) (x.1 0 (xi (a5 + 2))) x).bind fun w90 => (cond (aIn (a5 + 1) N) (cond (aIn (a5 + 2) N) ((gm126 (w90.2.1 0 (xi (a5 + 1))) (w90.2.1 0 (xi (a5 + 2))) w90.2).bind fun w94 => ((gm112 w94).bind fun w96 => (if w96 = w90.1 then (gm214_2306 N k28 a5 w94) else (some (0, w94))))) none) none)) none) none
theorem em214_440 {N n : Nat} (k28 : Int32 → Hs → Option (Int32 × Hs)) (q28 : ∀ {u1 u2 : Nat} (a5 : Int32) (hu1 : u1 + (0 + 4 * n) ≤ 601024) (hu2 : u2 + (0 + 24 * n) ≤ 7293034) (x : Hs) (r : Int32 × Hs), k28 a5 x = some r → Ev 214 (u1, u2) (28, [some (.ref 0), some (.ref 1), some (.ref 138), some (.ref 187), some (.ref 188), some (.int a5), none, none], []) (hp N x) (cvMi N r)) {u1 u2 : Nat} (a5 : Int32) (hu1 : u1 + (3 + 4 * n) ≤ 601024) (hu2 : u2 + (18 + 24 * n) ≤ 7293034) (x : Hs) (r : Int32 × Hs) (h : gm214_440 N k28 a5 x = some r) : Ev 214 (u1, u2) (440, [some (.ref 0), some (.ref 1), some (.ref 138), some (.ref 187), some (.ref 188), some (.int a5), none, none], []) (hp N x) (cvMi N r) := by
  unfold gm214_440 at h
  refine ev_run (n := 5) (u' := (u1, u2)) (f' := (446, [some (.ref 0), some (.ref 1), some (.ref 138), some (.ref 187), some (.ref 188), some (.int a5), none, none], [.int (a5 + 1), .ref 0, .ref 1])) (h' := hp N x) rfl ?_
  obtain ⟨h88, h⟩ := cond_some h
  refine ev_iald rfl rfl h88 ?_
  refine ev_run (n := 4) (u' := (u1, u2)) (f' := (452, [some (.ref 0), some (.ref 1), some (.ref 138), some (.ref 187), some (.ref 188), some (.int a5), none, none], [.int (a5 + 2), .ref 0, .int (x.1 0 (xi (a5 + 1))), .ref 1])) (h' := hp N x) rfl ?_
  obtain ⟨h89, h⟩ := cond_some h
  refine ev_iald rfl rfl h89 ?_
  obtain ⟨w90, h91, h⟩ := bind_ok h
  refine ev_call (v := some (.int w90.1)) (h1 := hp N w90.2) rfl rfl rfl (ok_u rfl (by show u1 + 3 ≤ 601024; omega) (by show u2 + 18 ≤ 7293034; omega)) (em186 (x.1 0 (xi (a5 + 1))) (x.1 0 (xi (a5 + 2))) (by decide) (by decide) x _ h91) ?_
  show Ev 214 (u1 + 3, u2 + 18) (456, [some (.ref 0), some (.ref 1), some (.ref 138), some (.ref 187), some (.ref 188), some (.int a5), none, none], [.int w90.1]) (hp N w90.2) _
  refine ev_run (n := 6) (u' := (u1 + 3, u2 + 18)) (f' := (464, [some (.ref 0), some (.ref 1), some (.ref 138), some (.ref 187), some (.ref 188), some (.int a5), some (.int w90.1), none], [.int (a5 + 1), .ref 0, .ref 138])) (h' := hp N w90.2) rfl ?_
  obtain ⟨h92, h⟩ := cond_some h
  refine ev_iald rfl rfl h92 ?_
  refine ev_run (n := 4) (u' := (u1 + 3, u2 + 18)) (f' := (470, [some (.ref 0), some (.ref 1), some (.ref 138), some (.ref 187), some (.ref 188), some (.int a5), some (.int w90.1), none], [.int (a5 + 2), .ref 0, .int (w90.2.1 0 (xi (a5 + 1))), .ref 138])) (h' := hp N w90.2) rfl ?_
  obtain ⟨h93, h⟩ := cond_some h
  refine ev_iald rfl rfl h93 ?_
  obtain ⟨w94, h95, h⟩ := bind_ok h
  refine ev_call (v := none) (h1 := hp N w94) rfl rfl rfl (ok_u rfl (by show u1 + 3 + 0 ≤ 601024; omega) (by show u2 + 18 + 0 ≤ 7293034; omega)) (em126 (w90.2.1 0 (xi (a5 + 1))) (w90.2.1 0 (xi (a5 + 2))) w90.2 _ h95) ?_
  show Ev 214 (u1 + 3, u2 + 18) (474, [some (.ref 0), some (.ref 1), some (.ref 138), some (.ref 187), some (.ref 188), some (.int a5), some (.int w90.1), none], []) (hp N w94) _
  refine ev_run (n := 1) (u' := (u1 + 3, u2 + 18)) (f' := (475, [some (.ref 0), some (.ref 1), some (.ref 138), some (.ref 187), some (.ref 188), some (.int a5), some (.int w90.1), none], [.ref 138])) (h' := hp N w94) rfl ?_
  obtain ⟨w96, h97, h⟩ := bind_ok h
  refine ev_call (v := some (.int w96)) (h1 := hp N w94) rfl rfl rfl (ok_u rfl (by show u1 + 3 + 0 ≤ 601024; omega) (by show u2 + 18 + 0 ≤ 7293034; omega)) (em112 w94 _ h97) ?_
  show Ev 214 (u1 + 3, u2 + 18) (478, [some (.ref 0), some (.ref 1), some (.ref 138), some (.ref 187), some (.ref 188), some (.int a5), some (.int w90.1), none], [.int w96]) (hp N w94) _
  refine ev_run (n := 1) (u' := (u1 + 3, u2 + 18)) (f' := (480, [some (.ref 0), some (.ref 1), some (.ref 138), some (.ref 187), some (.ref 188), some (.int a5), some (.int w90.1), none], [.int w90.1, .int w96])) (h' := hp N w94) rfl ?_
  rcases ite_or h with ⟨h98, h⟩ | ⟨h98, h⟩
  · refine ev_ict rfl (decide_eq_true h98) ?_
    refine ev_run (n := 1) (u' := (u1 + 3, u2 + 18)) (f' := (2306, [some (.ref 0), some (.ref 1), some (.ref 138), some (.ref 187), some (.ref 188), some (.int a5), none, none], [])) (h' := hp N w94) rfl ?_
    exact em214_2306 k28 q28 a5 (by omega) (by omega) w94 _ h
  · refine ev_icf rfl (decide_eq_false h98) ?_
    refine ev_run (n := 1) (u' := (u1 + 3, u2 + 18)) (f' := (484, [some (.ref 0), some (.ref 1), some (.ref 138), some (.ref 187), some (.ref 188), some (.int a5), some (.int w90.1), none], [.int 0])) (h' := hp N w94) rfl ?_
    cases h
    exact ev_iret rfl (end_u (by show _ ≤ 601024; omega) (by show _ ≤ 7293034; omega)) rfl (Or.inr ⟨rfl, rfl⟩)
def gm214_548 (N : Nat) (k28 : Int32 → Hs → Option (Int32 × Hs)) (a5 : Int32) (x : Hs) : Option (Int32 × Hs) := gm214_2306 N k28 a5 x
theorem em214_548 {N n : Nat} (k28 : Int32 → Hs → Option (Int32 × Hs)) (q28 : ∀ {u1 u2 : Nat} (a5 : Int32) (hu1 : u1 + (0 + 4 * n) ≤ 601024) (hu2 : u2 + (0 + 24 * n) ≤ 7293034) (x : Hs) (r : Int32 × Hs), k28 a5 x = some r → Ev 214 (u1, u2) (28, [some (.ref 0), some (.ref 1), some (.ref 138), some (.ref 187), some (.ref 188), some (.int a5), none, none], []) (hp N x) (cvMi N r)) {u1 u2 : Nat} (a5 : Int32) (hu1 : u1 + (0 + 4 * n) ≤ 601024) (hu2 : u2 + (0 + 24 * n) ≤ 7293034) (x : Hs) (r : Int32 × Hs) (h : gm214_548 N k28 a5 x = some r) : Ev 214 (u1, u2) (548, [some (.ref 0), some (.ref 1), some (.ref 138), some (.ref 187), some (.ref 188), some (.int a5), none, none], []) (hp N x) (cvMi N r) := by
  unfold gm214_548 at h
  refine ev_run (n := 1) (u' := (u1, u2)) (f' := (2306, [some (.ref 0), some (.ref 1), some (.ref 138), some (.ref 187), some (.ref 188), some (.int a5), none, none], [])) (h' := hp N x) rfl ?_
  exact em214_2306 k28 q28 a5 (by omega) (by omega) x _ h
def gm214_542 (N : Nat) (k28 : Int32 → Hs → Option (Int32 × Hs)) (a5 : Int32) (s0 : Int64) (s1 : Int64) (x : Hs) : Option (Int32 × Hs) := if (lg_cmp s0 s1) = 0 then (gm214_548 N k28 a5 x) else (some (0, x))
theorem em214_542 {N n : Nat} (k28 : Int32 → Hs → Option (Int32 × Hs)) (q28 : ∀ {u1 u2 : Nat} (a5 : Int32) (hu1 : u1 + (0 + 4 * n) ≤ 601024) (hu2 : u2 + (0 + 24 * n) ≤ 7293034) (x : Hs) (r : Int32 × Hs), k28 a5 x = some r → Ev 214 (u1, u2) (28, [some (.ref 0), some (.ref 1), some (.ref 138), some (.ref 187), some (.ref 188), some (.int a5), none, none], []) (hp N x) (cvMi N r)) {u1 u2 : Nat} (a5 : Int32) (s0 : Int64) (s1 : Int64) (hu1 : u1 + (0 + 4 * n) ≤ 601024) (hu2 : u2 + (0 + 24 * n) ≤ 7293034) (x : Hs) (r : Int32 × Hs) (h : gm214_542 N k28 a5 s0 s1 x = some r) : Ev 214 (u1, u2) (542, [some (.ref 0), some (.ref 1), some (.ref 138), some (.ref 187), some (.ref 188), some (.int a5), none, none], [.long s1, .long s0]) (hp N x) (cvMi N r) := by
  unfold gm214_542 at h
  refine ev_run (n := 1) (u' := (u1, u2)) (f' := (543, [some (.ref 0), some (.ref 1), some (.ref 138), some (.ref 187), some (.ref 188), some (.int a5), none, none], [.int (lg_cmp s0 s1)])) (h' := hp N x) rfl ?_
  rcases ite_or h with ⟨h452, h⟩ | ⟨h452, h⟩
  · refine ev_ift rfl (decide_eq_true h452) ?_
    exact em214_548 k28 q28 a5 (by omega) (by omega) x _ h
  · refine ev_iff rfl (decide_eq_false h452) ?_
    refine ev_run (n := 1) (u' := (u1, u2)) (f' := (547, [some (.ref 0), some (.ref 1), some (.ref 138), some (.ref 187), some (.ref 188), some (.int a5), none, none], [.int 0])) (h' := hp N x) rfl ?_
    cases h
    exact ev_iret rfl (end_u (by show _ ≤ 601024; omega) (by show _ ≤ 7293034; omega)) rfl (Or.inr ⟨rfl, rfl⟩)
def gm214_488 (N : Nat) (k28 : Int32 → Hs → Option (Int32 × Hs)) (a5 : Int32) (x : Hs) : Option (Int32 × Hs) := cond (aIn (a5 + 1) N) ((gm187 (x.1 0 (xi (a5 + 1))) x).bind fun w100 => (cond (aIn (a5 + 1) N) ((gm127 (w100.2.1 0 (xi (a5 + 1))) w100.2).bind fun w103 => ((gm112 w103.2).bind fun w105 => (if w105 = w100.1 then (if w100.1 = 0 then (cond (aIn 0 1) (if w103.1 = 0 then (gm214_542 N k28 a5 (w103.2.2.1 187 (xi 0)) 0 w103.2) else (gm214_542 N k28 a5 (w103.2.2.1 187 (xi 0)) 1 w103.2)) none) else (gm214_548 N k28 a5 w103.2)) else (some (0, w103.2))))) none)) none
theorem em214_488 {N n : Nat} (k28 : Int32 → Hs → Option (Int32 × Hs)) (q28 : ∀ {u1 u2 : Nat} (a5 : Int32) (hu1 : u1 + (0 + 4 * n) ≤ 601024) (hu2 : u2 + (0 + 24 * n) ≤ 7293034) (x : Hs) (r : Int32 × Hs), k28 a5 x = some r → Ev 214 (u1, u2) (28, [some (.ref 0), some (.ref 1), some (.ref 138), some (.ref 187), some (.ref 188), some (.int a5), none, none], []) (hp N x) (cvMi N r)) {u1 u2 : Nat} (a5 : Int32) (hu1 : u1 + (1 + 4 * n) ≤ 601024) (hu2 : u2 + (6 + 24 * n) ≤ 7293034) (x : Hs) (r : Int32 × Hs) (h : gm214_488 N k28 a5 x = some r) : Ev 214 (u1, u2) (488, [some (.ref 0), some (.ref 1), some (.ref 138), some (.ref 187), some (.ref 188), some (.int a5), none, none], []) (hp N x) (cvMi N r) := by
  unfold gm214_488 at h
  refine ev_run (n := 5) (u' := (u1, u2)) (f' := (494, [some (.ref 0), some (.ref 1), some (.ref 138), some (.ref 187), some (.ref 188), some (.int a5), none, none], [.int (a5 + 1), .ref 0, .ref 1])) (h' := hp N x) rfl ?_
  obtain ⟨h99, h⟩ := cond_some h
  refine ev_iald rfl rfl h99 ?_
  refine ev_run (n := 1) (u' := (u1, u2)) (f' := (496, [some (.ref 0), some (.ref 1), some (.ref 138), some (.ref 187), some (.ref 188), some (.int a5), none, none], [.ref 187, .int (x.1 0 (xi (a5 + 1))), .ref 1])) (h' := hp N x) rfl ?_
  obtain ⟨w100, h101, h⟩ := bind_ok h
  refine ev_call (v := some (.int w100.1)) (h1 := hp N w100.2) rfl rfl rfl (ok_u rfl (by show u1 + 1 ≤ 601024; omega) (by show u2 + 6 ≤ 7293034; omega)) (em187 (x.1 0 (xi (a5 + 1))) (by decide) (by decide) x _ h101) ?_
  show Ev 214 (u1 + 1, u2 + 6) (499, [some (.ref 0), some (.ref 1), some (.ref 138), some (.ref 187), some (.ref 188), some (.int a5), none, none], [.int w100.1]) (hp N w100.2) _
  refine ev_run (n := 6) (u' := (u1 + 1, u2 + 6)) (f' := (507, [some (.ref 0), some (.ref 1), some (.ref 138), some (.ref 187), some (.ref 188), some (.int a5), some (.int w100.1), none], [.int (a5 + 1), .ref 0, .ref 138])) (h' := hp N w100.2) rfl ?_
  obtain ⟨h102, h⟩ := cond_some h
  refine ev_iald rfl rfl h102 ?_
  obtain ⟨w103, h104, h⟩ := bind_ok h
  refine ev_call (v := some (.int w103.1)) (h1 := hp N w103.2) rfl rfl rfl (ok_u rfl (by show u1 + 1 + 0 ≤ 601024; omega) (by show u2 + 6 + 0 ≤ 7293034; omega)) (em127 (w100.2.1 0 (xi (a5 + 1))) w100.2 _ h104) ?_
  show Ev 214 (u1 + 1, u2 + 6) (511, [some (.ref 0), some (.ref 1), some (.ref 138), some (.ref 187), some (.ref 188), some (.int a5), some (.int w100.1), none], [.int w103.1]) (hp N w103.2) _
  refine ev_run (n := 2) (u' := (u1 + 1, u2 + 6)) (f' := (514, [some (.ref 0), some (.ref 1), some (.ref 138), some (.ref 187), some (.ref 188), some (.int a5), some (.int w100.1), some (.int w103.1)], [.ref 138])) (h' := hp N w103.2) rfl ?_
  obtain ⟨w105, h106, h⟩ := bind_ok h
  refine ev_call (v := some (.int w105)) (h1 := hp N w103.2) rfl rfl rfl (ok_u rfl (by show u1 + 1 + 0 ≤ 601024; omega) (by show u2 + 6 + 0 ≤ 7293034; omega)) (em112 w103.2 _ h106) ?_
  show Ev 214 (u1 + 1, u2 + 6) (517, [some (.ref 0), some (.ref 1), some (.ref 138), some (.ref 187), some (.ref 188), some (.int a5), some (.int w100.1), some (.int w103.1)], [.int w105]) (hp N w103.2) _
  refine ev_run (n := 1) (u' := (u1 + 1, u2 + 6)) (f' := (519, [some (.ref 0), some (.ref 1), some (.ref 138), some (.ref 187), some (.ref 188), some (.int a5), some (.int w100.1), some (.int w103.1)], [.int w100.1, .int w105])) (h' := hp N w103.2) rfl ?_
  rcases ite_or h with ⟨h110, h⟩ | ⟨h110, h⟩
  · refine ev_ict rfl (decide_eq_true h110) ?_
    refine ev_run (n := 1) (u' := (u1 + 1, u2 + 6)) (f' := (526, [some (.ref 0), some (.ref 1), some (.ref 138), some (.ref 187), some (.ref 188), some (.int a5), some (.int w100.1), some (.int w103.1)], [.int w100.1])) (h' := hp N w103.2) rfl ?_
    rcases ite_or h with ⟨h109, h⟩ | ⟨h109, h⟩
    · refine ev_iff rfl (decide_eq_false (fun w => w h109)) ?_
      refine ev_run (n := 2) (u' := (u1 + 1, u2 + 6)) (f' := (531, [some (.ref 0), some (.ref 1), some (.ref 138), some (.ref 187), some (.ref 188), some (.int a5), some (.int w100.1), some (.int w103.1)], [.int 0, .ref 187])) (h' := hp N w103.2) rfl ?_
      obtain ⟨h107, h⟩ := cond_some h
      refine ev_lald rfl rfl h107 ?_
      refine ev_run (n := 1) (u' := (u1 + 1, u2 + 6)) (f' := (534, [some (.ref 0), some (.ref 1), some (.ref 138), some (.ref 187), some (.ref 188), some (.int a5), some (.int w100.1), some (.int w103.1)], [.int w103.1, .long (w103.2.2.1 187 (xi 0))])) (h' := hp N w103.2) rfl ?_
      rcases ite_or h with ⟨h108, h⟩ | ⟨h108, h⟩
      · refine ev_ift rfl (decide_eq_true h108) ?_
        refine ev_run (n := 1) (u' := (u1 + 1, u2 + 6)) (f' := (542, [some (.ref 0), some (.ref 1), some (.ref 138), some (.ref 187), some (.ref 188), some (.int a5), none, none], [.long 0, .long (w103.2.2.1 187 (xi 0))])) (h' := hp N w103.2) rfl ?_
        exact em214_542 k28 q28 a5 (w103.2.2.1 187 (xi 0)) 0 (by omega) (by omega) w103.2 _ h
      · refine ev_iff rfl (decide_eq_false h108) ?_
        refine ev_run (n := 2) (u' := (u1 + 1, u2 + 6)) (f' := (542, [some (.ref 0), some (.ref 1), some (.ref 138), some (.ref 187), some (.ref 188), some (.int a5), none, none], [.long 1, .long (w103.2.2.1 187 (xi 0))])) (h' := hp N w103.2) rfl ?_
        exact em214_542 k28 q28 a5 (w103.2.2.1 187 (xi 0)) 1 (by omega) (by omega) w103.2 _ h
    · refine ev_ift rfl (decide_eq_true h109) ?_
      exact em214_548 k28 q28 a5 (by omega) (by omega) w103.2 _ h
  · refine ev_icf rfl (decide_eq_false h110) ?_
    refine ev_run (n := 1) (u' := (u1 + 1, u2 + 6)) (f' := (523, [some (.ref 0), some (.ref 1), some (.ref 138), some (.ref 187), some (.ref 188), some (.int a5), some (.int w100.1), some (.int w103.1)], [.int 0])) (h' := hp N w103.2) rfl ?_
    cases h
    exact ev_iret rfl (end_u (by show _ ≤ 601024; omega) (by show _ ≤ 7293034; omega)) rfl (Or.inr ⟨rfl, rfl⟩)
def gm214_616 (N : Nat) (k28 : Int32 → Hs → Option (Int32 × Hs)) (a5 : Int32) (x : Hs) : Option (Int32 × Hs) := gm214_2306 N k28 a5 x
theorem em214_616 {N n : Nat} (k28 : Int32 → Hs → Option (Int32 × Hs)) (q28 : ∀ {u1 u2 : Nat} (a5 : Int32) (hu1 : u1 + (0 + 4 * n) ≤ 601024) (hu2 : u2 + (0 + 24 * n) ≤ 7293034) (x : Hs) (r : Int32 × Hs), k28 a5 x = some r → Ev 214 (u1, u2) (28, [some (.ref 0), some (.ref 1), some (.ref 138), some (.ref 187), some (.ref 188), some (.int a5), none, none], []) (hp N x) (cvMi N r)) {u1 u2 : Nat} (a5 : Int32) (hu1 : u1 + (0 + 4 * n) ≤ 601024) (hu2 : u2 + (0 + 24 * n) ≤ 7293034) (x : Hs) (r : Int32 × Hs) (h : gm214_616 N k28 a5 x = some r) : Ev 214 (u1, u2) (616, [some (.ref 0), some (.ref 1), some (.ref 138), some (.ref 187), some (.ref 188), some (.int a5), none, none], []) (hp N x) (cvMi N r) := by
  unfold gm214_616 at h
  refine ev_run (n := 1) (u' := (u1, u2)) (f' := (2306, [some (.ref 0), some (.ref 1), some (.ref 138), some (.ref 187), some (.ref 188), some (.int a5), none, none], [])) (h' := hp N x) rfl ?_
  exact em214_2306 k28 q28 a5 (by omega) (by omega) x _ h
def gm214_551 (N : Nat) (k28 : Int32 → Hs → Option (Int32 × Hs)) (a5 : Int32) (x : Hs) : Option (Int32 × Hs) := cond (aIn (a5 + 1) N) (cond (aIn (a5 + 2) N) ((gm188 (x.1 0 (xi (a5 + 1))) (x.1 0 (xi (a5 + 2))) x).bind fun w113 => (cond (aIn (a5 + 1) N) (cond (aIn (a5 + 2) N) ((gm129 (w113.2.1 0 (xi (a5 + 1))) (w113.2.1 0 (xi (a5 + 2))) w113.2).bind fun w117 => ((gm112 w117.2).bind fun w119 => (if w119 = w113.1 then (if w113.1 = 0 then (cond (aIn 0 1) (if (lg_cmp (w117.2.2.1 187 (xi 0)) (Int32.toInt64 w117.1)) = 0 then (gm214_616 N k28 a5 w117.2) else (some (0, w117.2))) none) else (gm214_616 N k28 a5 w117.2)) else (some (0, w117.2))))) none) none)) none) none
theorem em214_551 {N n : Nat} (k28 : Int32 → Hs → Option (Int32 × Hs)) (q28 : ∀ {u1 u2 : Nat} (a5 : Int32) (hu1 : u1 + (0 + 4 * n) ≤ 601024) (hu2 : u2 + (0 + 24 * n) ≤ 7293034) (x : Hs) (r : Int32 × Hs), k28 a5 x = some r → Ev 214 (u1, u2) (28, [some (.ref 0), some (.ref 1), some (.ref 138), some (.ref 187), some (.ref 188), some (.int a5), none, none], []) (hp N x) (cvMi N r)) {u1 u2 : Nat} (a5 : Int32) (hu1 : u1 + (4 + 4 * n) ≤ 601024) (hu2 : u2 + (24 + 24 * n) ≤ 7293034) (x : Hs) (r : Int32 × Hs) (h : gm214_551 N k28 a5 x = some r) : Ev 214 (u1, u2) (551, [some (.ref 0), some (.ref 1), some (.ref 138), some (.ref 187), some (.ref 188), some (.int a5), none, none], []) (hp N x) (cvMi N r) := by
  unfold gm214_551 at h
  refine ev_run (n := 5) (u' := (u1, u2)) (f' := (557, [some (.ref 0), some (.ref 1), some (.ref 138), some (.ref 187), some (.ref 188), some (.int a5), none, none], [.int (a5 + 1), .ref 0, .ref 1])) (h' := hp N x) rfl ?_
  obtain ⟨h111, h⟩ := cond_some h
  refine ev_iald rfl rfl h111 ?_
  refine ev_run (n := 4) (u' := (u1, u2)) (f' := (563, [some (.ref 0), some (.ref 1), some (.ref 138), some (.ref 187), some (.ref 188), some (.int a5), none, none], [.int (a5 + 2), .ref 0, .int (x.1 0 (xi (a5 + 1))), .ref 1])) (h' := hp N x) rfl ?_
  obtain ⟨h112, h⟩ := cond_some h
  refine ev_iald rfl rfl h112 ?_
  refine ev_run (n := 1) (u' := (u1, u2)) (f' := (565, [some (.ref 0), some (.ref 1), some (.ref 138), some (.ref 187), some (.ref 188), some (.int a5), none, none], [.ref 187, .int (x.1 0 (xi (a5 + 2))), .int (x.1 0 (xi (a5 + 1))), .ref 1])) (h' := hp N x) rfl ?_
  obtain ⟨w113, h114, h⟩ := bind_ok h
  refine ev_call (v := some (.int w113.1)) (h1 := hp N w113.2) rfl rfl rfl (ok_u rfl (by show u1 + 4 ≤ 601024; omega) (by show u2 + 24 ≤ 7293034; omega)) (em188 (x.1 0 (xi (a5 + 1))) (x.1 0 (xi (a5 + 2))) (by decide) (by decide) x _ h114) ?_
  show Ev 214 (u1 + 4, u2 + 24) (568, [some (.ref 0), some (.ref 1), some (.ref 138), some (.ref 187), some (.ref 188), some (.int a5), none, none], [.int w113.1]) (hp N w113.2) _
  refine ev_run (n := 6) (u' := (u1 + 4, u2 + 24)) (f' := (576, [some (.ref 0), some (.ref 1), some (.ref 138), some (.ref 187), some (.ref 188), some (.int a5), some (.int w113.1), none], [.int (a5 + 1), .ref 0, .ref 138])) (h' := hp N w113.2) rfl ?_
  obtain ⟨h115, h⟩ := cond_some h
  refine ev_iald rfl rfl h115 ?_
  refine ev_run (n := 4) (u' := (u1 + 4, u2 + 24)) (f' := (582, [some (.ref 0), some (.ref 1), some (.ref 138), some (.ref 187), some (.ref 188), some (.int a5), some (.int w113.1), none], [.int (a5 + 2), .ref 0, .int (w113.2.1 0 (xi (a5 + 1))), .ref 138])) (h' := hp N w113.2) rfl ?_
  obtain ⟨h116, h⟩ := cond_some h
  refine ev_iald rfl rfl h116 ?_
  obtain ⟨w117, h118, h⟩ := bind_ok h
  refine ev_call (v := some (.int w117.1)) (h1 := hp N w117.2) rfl rfl rfl (ok_u rfl (by show u1 + 4 + 0 ≤ 601024; omega) (by show u2 + 24 + 0 ≤ 7293034; omega)) (em129 (w113.2.1 0 (xi (a5 + 1))) (w113.2.1 0 (xi (a5 + 2))) w113.2 _ h118) ?_
  show Ev 214 (u1 + 4, u2 + 24) (586, [some (.ref 0), some (.ref 1), some (.ref 138), some (.ref 187), some (.ref 188), some (.int a5), some (.int w113.1), none], [.int w117.1]) (hp N w117.2) _
  refine ev_run (n := 2) (u' := (u1 + 4, u2 + 24)) (f' := (589, [some (.ref 0), some (.ref 1), some (.ref 138), some (.ref 187), some (.ref 188), some (.int a5), some (.int w113.1), some (.int w117.1)], [.ref 138])) (h' := hp N w117.2) rfl ?_
  obtain ⟨w119, h120, h⟩ := bind_ok h
  refine ev_call (v := some (.int w119)) (h1 := hp N w117.2) rfl rfl rfl (ok_u rfl (by show u1 + 4 + 0 ≤ 601024; omega) (by show u2 + 24 + 0 ≤ 7293034; omega)) (em112 w117.2 _ h120) ?_
  show Ev 214 (u1 + 4, u2 + 24) (592, [some (.ref 0), some (.ref 1), some (.ref 138), some (.ref 187), some (.ref 188), some (.int a5), some (.int w113.1), some (.int w117.1)], [.int w119]) (hp N w117.2) _
  refine ev_run (n := 1) (u' := (u1 + 4, u2 + 24)) (f' := (594, [some (.ref 0), some (.ref 1), some (.ref 138), some (.ref 187), some (.ref 188), some (.int a5), some (.int w113.1), some (.int w117.1)], [.int w113.1, .int w119])) (h' := hp N w117.2) rfl ?_
  rcases ite_or h with ⟨h124, h⟩ | ⟨h124, h⟩
  · refine ev_ict rfl (decide_eq_true h124) ?_
    refine ev_run (n := 1) (u' := (u1 + 4, u2 + 24)) (f' := (601, [some (.ref 0), some (.ref 1), some (.ref 138), some (.ref 187), some (.ref 188), some (.int a5), some (.int w113.1), some (.int w117.1)], [.int w113.1])) (h' := hp N w117.2) rfl ?_
    rcases ite_or h with ⟨h123, h⟩ | ⟨h123, h⟩
    · refine ev_iff rfl (decide_eq_false (fun w => w h123)) ?_
      refine ev_run (n := 2) (u' := (u1 + 4, u2 + 24)) (f' := (606, [some (.ref 0), some (.ref 1), some (.ref 138), some (.ref 187), some (.ref 188), some (.int a5), some (.int w113.1), some (.int w117.1)], [.int 0, .ref 187])) (h' := hp N w117.2) rfl ?_
      obtain ⟨h121, h⟩ := cond_some h
      refine ev_lald rfl rfl h121 ?_
      refine ev_run (n := 3) (u' := (u1 + 4, u2 + 24)) (f' := (611, [some (.ref 0), some (.ref 1), some (.ref 138), some (.ref 187), some (.ref 188), some (.int a5), some (.int w113.1), some (.int w117.1)], [.int (lg_cmp (w117.2.2.1 187 (xi 0)) (Int32.toInt64 w117.1))])) (h' := hp N w117.2) rfl ?_
      rcases ite_or h with ⟨h122, h⟩ | ⟨h122, h⟩
      · refine ev_ift rfl (decide_eq_true h122) ?_
        exact em214_616 k28 q28 a5 (by omega) (by omega) w117.2 _ h
      · refine ev_iff rfl (decide_eq_false h122) ?_
        refine ev_run (n := 1) (u' := (u1 + 4, u2 + 24)) (f' := (615, [some (.ref 0), some (.ref 1), some (.ref 138), some (.ref 187), some (.ref 188), some (.int a5), some (.int w113.1), some (.int w117.1)], [.int 0])) (h' := hp N w117.2) rfl ?_
        cases h
        exact ev_iret rfl (end_u (by show _ ≤ 601024; omega) (by show _ ≤ 7293034; omega)) rfl (Or.inr ⟨rfl, rfl⟩)
    · refine ev_ift rfl (decide_eq_true h123) ?_
      exact em214_616 k28 q28 a5 (by omega) (by omega) w117.2 _ h
  · refine ev_icf rfl (decide_eq_false h124) ?_
    refine ev_run (n := 1) (u' := (u1 + 4, u2 + 24)) (f' := (598, [some (.ref 0), some (.ref 1), some (.ref 138), some (.ref 187), some (.ref 188), some (.int a5), some (.int w113.1), some (.int w117.1)], [.int 0])) (h' := hp N w117.2) rfl ?_
    cases h
    exact ev_iret rfl (end_u (by show _ ≤ 601024; omega) (by show _ ≤ 7293034; omega)) rfl (Or.inr ⟨rfl, rfl⟩)
def gm214_672 (N : Nat) (k28 : Int32 → Hs → Option (Int32 × Hs)) (a5 : Int32) (x : Hs) : Option (Int32 × Hs) := gm214_2306 N k28 a5 x
theorem em214_672 {N n : Nat} (k28 : Int32 → Hs → Option (Int32 × Hs)) (q28 : ∀ {u1 u2 : Nat} (a5 : Int32) (hu1 : u1 + (0 + 4 * n) ≤ 601024) (hu2 : u2 + (0 + 24 * n) ≤ 7293034) (x : Hs) (r : Int32 × Hs), k28 a5 x = some r → Ev 214 (u1, u2) (28, [some (.ref 0), some (.ref 1), some (.ref 138), some (.ref 187), some (.ref 188), some (.int a5), none, none], []) (hp N x) (cvMi N r)) {u1 u2 : Nat} (a5 : Int32) (hu1 : u1 + (0 + 4 * n) ≤ 601024) (hu2 : u2 + (0 + 24 * n) ≤ 7293034) (x : Hs) (r : Int32 × Hs) (h : gm214_672 N k28 a5 x = some r) : Ev 214 (u1, u2) (672, [some (.ref 0), some (.ref 1), some (.ref 138), some (.ref 187), some (.ref 188), some (.int a5), none, none], []) (hp N x) (cvMi N r) := by
  unfold gm214_672 at h
  refine ev_run (n := 1) (u' := (u1, u2)) (f' := (2306, [some (.ref 0), some (.ref 1), some (.ref 138), some (.ref 187), some (.ref 188), some (.int a5), none, none], [])) (h' := hp N x) rfl ?_
  exact em214_2306 k28 q28 a5 (by omega) (by omega) x _ h
def gm214_619 (N : Nat) (k28 : Int32 → Hs → Option (Int32 × Hs)) (a5 : Int32) (x : Hs) : Option (Int32 × Hs) := cond (aIn (a5 + 1) N) ((gm189 (x.1 0 (xi (a5 + 1))) x).bind fun w126 => (cond (aIn (a5 + 1) N) ((gm134 (w126.2.1 0 (xi (a5 + 1))) w126.2).bind fun w129 => ((gm112 w129.2).bind fun w131 => (if w131 = w126.1 then (if w126.1 = 0 then (cond (aIn 0 1) (if (lg_cmp (w129.2.2.1 187 (xi 0)) (Int32.toInt64 w129.1)) = 0 then (gm214_672 N k28 a5 w129.2) else (some (0, w129.2))) none) else (gm214_672 N k28 a5 w129.2)) else (some (0, w129.2))))) none)) none
theorem em214_619 {N n : Nat} (k28 : Int32 → Hs → Option (Int32 × Hs)) (q28 : ∀ {u1 u2 : Nat} (a5 : Int32) (hu1 : u1 + (0 + 4 * n) ≤ 601024) (hu2 : u2 + (0 + 24 * n) ≤ 7293034) (x : Hs) (r : Int32 × Hs), k28 a5 x = some r → Ev 214 (u1, u2) (28, [some (.ref 0), some (.ref 1), some (.ref 138), some (.ref 187), some (.ref 188), some (.int a5), none, none], []) (hp N x) (cvMi N r)) {u1 u2 : Nat} (a5 : Int32) (hu1 : u1 + (2 + 4 * n) ≤ 601024) (hu2 : u2 + (12 + 24 * n) ≤ 7293034) (x : Hs) (r : Int32 × Hs) (h : gm214_619 N k28 a5 x = some r) : Ev 214 (u1, u2) (619, [some (.ref 0), some (.ref 1), some (.ref 138), some (.ref 187), some (.ref 188), some (.int a5), none, none], []) (hp N x) (cvMi N r) := by
  unfold gm214_619 at h
  refine ev_run (n := 5) (u' := (u1, u2)) (f' := (625, [some (.ref 0), some (.ref 1), some (.ref 138), some (.ref 187), some (.ref 188), some (.int a5), none, none], [.int (a5 + 1), .ref 0, .ref 1])) (h' := hp N x) rfl ?_
  obtain ⟨h125, h⟩ := cond_some h
  refine ev_iald rfl rfl h125 ?_
  refine ev_run (n := 1) (u' := (u1, u2)) (f' := (627, [some (.ref 0), some (.ref 1), some (.ref 138), some (.ref 187), some (.ref 188), some (.int a5), none, none], [.ref 187, .int (x.1 0 (xi (a5 + 1))), .ref 1])) (h' := hp N x) rfl ?_
  obtain ⟨w126, h127, h⟩ := bind_ok h
  refine ev_call (v := some (.int w126.1)) (h1 := hp N w126.2) rfl rfl rfl (ok_u rfl (by show u1 + 2 ≤ 601024; omega) (by show u2 + 12 ≤ 7293034; omega)) (em189 (x.1 0 (xi (a5 + 1))) (by decide) (by decide) x _ h127) ?_
  show Ev 214 (u1 + 2, u2 + 12) (630, [some (.ref 0), some (.ref 1), some (.ref 138), some (.ref 187), some (.ref 188), some (.int a5), none, none], [.int w126.1]) (hp N w126.2) _
  refine ev_run (n := 6) (u' := (u1 + 2, u2 + 12)) (f' := (638, [some (.ref 0), some (.ref 1), some (.ref 138), some (.ref 187), some (.ref 188), some (.int a5), some (.int w126.1), none], [.int (a5 + 1), .ref 0, .ref 138])) (h' := hp N w126.2) rfl ?_
  obtain ⟨h128, h⟩ := cond_some h
  refine ev_iald rfl rfl h128 ?_
  obtain ⟨w129, h130, h⟩ := bind_ok h
  refine ev_call (v := some (.int w129.1)) (h1 := hp N w129.2) rfl rfl rfl (ok_u rfl (by show u1 + 2 + 0 ≤ 601024; omega) (by show u2 + 12 + 0 ≤ 7293034; omega)) (em134 (w126.2.1 0 (xi (a5 + 1))) w126.2 _ h130) ?_
  show Ev 214 (u1 + 2, u2 + 12) (642, [some (.ref 0), some (.ref 1), some (.ref 138), some (.ref 187), some (.ref 188), some (.int a5), some (.int w126.1), none], [.int w129.1]) (hp N w129.2) _
  refine ev_run (n := 2) (u' := (u1 + 2, u2 + 12)) (f' := (645, [some (.ref 0), some (.ref 1), some (.ref 138), some (.ref 187), some (.ref 188), some (.int a5), some (.int w126.1), some (.int w129.1)], [.ref 138])) (h' := hp N w129.2) rfl ?_
  obtain ⟨w131, h132, h⟩ := bind_ok h
  refine ev_call (v := some (.int w131)) (h1 := hp N w129.2) rfl rfl rfl (ok_u rfl (by show u1 + 2 + 0 ≤ 601024; omega) (by show u2 + 12 + 0 ≤ 7293034; omega)) (em112 w129.2 _ h132) ?_
  show Ev 214 (u1 + 2, u2 + 12) (648, [some (.ref 0), some (.ref 1), some (.ref 138), some (.ref 187), some (.ref 188), some (.int a5), some (.int w126.1), some (.int w129.1)], [.int w131]) (hp N w129.2) _
  refine ev_run (n := 1) (u' := (u1 + 2, u2 + 12)) (f' := (650, [some (.ref 0), some (.ref 1), some (.ref 138), some (.ref 187), some (.ref 188), some (.int a5), some (.int w126.1), some (.int w129.1)], [.int w126.1, .int w131])) (h' := hp N w129.2) rfl ?_
  rcases ite_or h with ⟨h136, h⟩ | ⟨h136, h⟩
  · refine ev_ict rfl (decide_eq_true h136) ?_
    refine ev_run (n := 1) (u' := (u1 + 2, u2 + 12)) (f' := (657, [some (.ref 0), some (.ref 1), some (.ref 138), some (.ref 187), some (.ref 188), some (.int a5), some (.int w126.1), some (.int w129.1)], [.int w126.1])) (h' := hp N w129.2) rfl ?_
    rcases ite_or h with ⟨h135, h⟩ | ⟨h135, h⟩
    · refine ev_iff rfl (decide_eq_false (fun w => w h135)) ?_
      refine ev_run (n := 2) (u' := (u1 + 2, u2 + 12)) (f' := (662, [some (.ref 0), some (.ref 1), some (.ref 138), some (.ref 187), some (.ref 188), some (.int a5), some (.int w126.1), some (.int w129.1)], [.int 0, .ref 187])) (h' := hp N w129.2) rfl ?_
      obtain ⟨h133, h⟩ := cond_some h
      refine ev_lald rfl rfl h133 ?_
      refine ev_run (n := 3) (u' := (u1 + 2, u2 + 12)) (f' := (667, [some (.ref 0), some (.ref 1), some (.ref 138), some (.ref 187), some (.ref 188), some (.int a5), some (.int w126.1), some (.int w129.1)], [.int (lg_cmp (w129.2.2.1 187 (xi 0)) (Int32.toInt64 w129.1))])) (h' := hp N w129.2) rfl ?_
      rcases ite_or h with ⟨h134, h⟩ | ⟨h134, h⟩
      · refine ev_ift rfl (decide_eq_true h134) ?_
        exact em214_672 k28 q28 a5 (by omega) (by omega) w129.2 _ h
      · refine ev_iff rfl (decide_eq_false h134) ?_
        refine ev_run (n := 1) (u' := (u1 + 2, u2 + 12)) (f' := (671, [some (.ref 0), some (.ref 1), some (.ref 138), some (.ref 187), some (.ref 188), some (.int a5), some (.int w126.1), some (.int w129.1)], [.int 0])) (h' := hp N w129.2) rfl ?_
        cases h
        exact ev_iret rfl (end_u (by show _ ≤ 601024; omega) (by show _ ≤ 7293034; omega)) rfl (Or.inr ⟨rfl, rfl⟩)
    · refine ev_ift rfl (decide_eq_true h135) ?_
      exact em214_672 k28 q28 a5 (by omega) (by omega) w129.2 _ h
  · refine ev_icf rfl (decide_eq_false h136) ?_
    refine ev_run (n := 1) (u' := (u1 + 2, u2 + 12)) (f' := (654, [some (.ref 0), some (.ref 1), some (.ref 138), some (.ref 187), some (.ref 188), some (.int a5), some (.int w126.1), some (.int w129.1)], [.int 0])) (h' := hp N w129.2) rfl ?_
    cases h
    exact ev_iret rfl (end_u (by show _ ≤ 601024; omega) (by show _ ≤ 7293034; omega)) rfl (Or.inr ⟨rfl, rfl⟩)
