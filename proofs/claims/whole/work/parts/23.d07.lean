/-! The methods as functions; printed by dec.py -/
def gm135_36 (k4 : Int32 → Int32 → Int32 → Hs → Option (Int32)) (a1 : Int32) (a3 : Int32) (x : Hs) : Option (Int32) := cond (aIn a3 8) (if x.1 164 (xi a3) > x.1 138 0 then (gm135_66 k4 a1 a3 x) else (cond (aIn a3 8) (if x.1 138 0 ≥ x.1 165 (xi a3) then (gm135_66 k4 a1 a3 x) else (gm135_62 k4 a1 a3 x)) none)) none
theorem em135_36 {N : Nat} (k4 : Int32 → Int32 → Int32 → Hs → Option (Int32)) (q4 : ∀ (a1 : Int32) (a2 : Int32) (a3 : Int32) (x : Hs) (r : Int32), k4 a1 a2 a3 x = some r → Ev 135 (0, 0) (4, [some (.ref 138), some (.int a1), some (.int a2), some (.int a3)], []) (hp N x) (cvPi N x r)) (a1 : Int32) (a3 : Int32) (x : Hs) (r : Int32) (h : gm135_36 k4 a1 a3 x = some r) : Ev 135 (0, 0) (36, [some (.ref 138), some (.int a1), none, some (.int a3)], []) (hp N x) (cvPi N x r) := by
  unfold gm135_36 at h
  refine ev_run (n := 3) (u' := (0, 0)) (f' := (41, [some (.ref 138), some (.int a1), none, some (.int a3)], [.int a3, .ref 164])) (h' := hp N x) rfl ?_
  obtain ⟨h8, h⟩ := cond_some h
  refine ev_iald rfl rfl h8 ?_
  refine ev_run (n := 2) (u' := (0, 0)) (f' := (46, [some (.ref 138), some (.int a1), none, some (.int a3)], [.int (x.1 138 0), .int (x.1 164 (xi a3))])) (h' := hp N x) rfl ?_
  rcases ite_or h with ⟨h11, h⟩ | ⟨h11, h⟩
  · refine ev_ict rfl (decide_eq_true h11) ?_
    exact em135_66 k4 q4 a1 a3 x _ h
  · refine ev_icf rfl (decide_eq_false h11) ?_
    refine ev_run (n := 5) (u' := (0, 0)) (f' := (58, [some (.ref 138), some (.int a1), none, some (.int a3)], [.int a3, .ref 165, .int (x.1 138 0)])) (h' := hp N x) rfl ?_
    obtain ⟨h9, h⟩ := cond_some h
    refine ev_iald rfl rfl h9 ?_
    rcases ite_or h with ⟨h10, h⟩ | ⟨h10, h⟩
    · refine ev_ict rfl (decide_eq_true h10) ?_
      exact em135_66 k4 q4 a1 a3 x _ h
    · refine ev_icf rfl (decide_eq_false h10) ?_
      exact em135_62 k4 q4 a1 a3 x _ h
theorem em135_36_k1 {N : Nat} (k4 : Int32 → Int32 → Int32 → Hs → Option (Int32)) (q4 : ∀ (a1 : Int32) (a2 : Int32) (a3 : Int32) (x : Hs) (r : Int32), k4 a1 a2 a3 x = some r → Ev 135 (0, 0) (4, [some (.ref 138), some (.int a1), some (.int a2), some (.int a3)], []) (hp N x) (cvPi N x r)) (a1 : Int32) (a2 : Int32) (a3 : Int32) (x : Hs) (r : Int32) (h : gm135_36 k4 a1 a3 x = some r) : Ev 135 (0, 0) (36, [some (.ref 138), some (.int a1), some (.int a2), some (.int a3)], []) (hp N x) (cvPi N x r) := by
  unfold gm135_36 at h
  refine ev_run (n := 3) (u' := (0, 0)) (f' := (41, [some (.ref 138), some (.int a1), some (.int a2), some (.int a3)], [.int a3, .ref 164])) (h' := hp N x) rfl ?_
  obtain ⟨h12, h⟩ := cond_some h
  refine ev_iald rfl rfl h12 ?_
  refine ev_run (n := 2) (u' := (0, 0)) (f' := (46, [some (.ref 138), some (.int a1), some (.int a2), some (.int a3)], [.int (x.1 138 0), .int (x.1 164 (xi a3))])) (h' := hp N x) rfl ?_
  rcases ite_or h with ⟨h15, h⟩ | ⟨h15, h⟩
  · refine ev_ict rfl (decide_eq_true h15) ?_
    exact em135_66 k4 q4 a1 a3 x _ h
  · refine ev_icf rfl (decide_eq_false h15) ?_
    refine ev_run (n := 5) (u' := (0, 0)) (f' := (58, [some (.ref 138), some (.int a1), some (.int a2), some (.int a3)], [.int a3, .ref 165, .int (x.1 138 0)])) (h' := hp N x) rfl ?_
    obtain ⟨h13, h⟩ := cond_some h
    refine ev_iald rfl rfl h13 ?_
    rcases ite_or h with ⟨h14, h⟩ | ⟨h14, h⟩
    · refine ev_ict rfl (decide_eq_true h14) ?_
      exact em135_66 k4 q4 a1 a3 x _ h
    · refine ev_icf rfl (decide_eq_false h14) ?_
      exact em135_62_k1 k4 q4 a1 a2 a3 x _ h
def gm135_4 : Nat → Int32 → Int32 → Int32 → Hs → Option (Int32)
  | 0, _, _, _, _ => none
  | n + 1, a1, a2, a3, x => if a3 ≥ x.1 138 27 then (cond (aBit a2) (some a2) none) else (if a2 = 0 then (cond (aIn a3 8) (if x.1 163 (xi a3) = (-1) then (gm135_36 (gm135_4 n) a1 a3 x) else (cond (aIn a3 8) (if x.1 163 (xi a3) = a1 then (gm135_36 (gm135_4 n) a1 a3 x) else (gm135_66 (gm135_4 n) a1 a3 x)) none)) none) else (gm135_62 (gm135_4 n) a1 a3 x))
theorem em135_4 {N : Nat} : ∀ (n : Nat) (a1 : Int32) (a2 : Int32) (a3 : Int32) (x : Hs) (r : Int32), gm135_4 n a1 a2 a3 x = some r → Ev 135 (0, 0) (4, [some (.ref 138), some (.int a1), some (.int a2), some (.int a3)], []) (hp N x) (cvPi N x r)
  | 0, a1, a2, a3, x, r, h => by
    have e9 : (none : Option (Int32)) = some r := h
    cases e9
  | n + 1, a1, a2, a3, x, r, h => by
    have q4 := em135_4 (N := N) n
    rw [gm135_4] at h
    refine ev_run (n := 3) (u' := (0, 0)) (f' := (9, [some (.ref 138), some (.int a1), some (.int a2), some (.int a3)], [.int (x.1 138 27), .int a3])) (h' := hp N x) rfl ?_
    rcases ite_or h with ⟨h7, h⟩ | ⟨h7, h⟩
    · refine ev_ict rfl (decide_eq_true h7) ?_
      refine ev_run (n := 1) (u' := (0, 0)) (f' := (75, [none, none, some (.int a2), none], [.int a2])) (h' := hp N x) rfl ?_
      obtain ⟨h1, h⟩ := cond_some h
      cases h
      exact ev_iret rfl rfl rfl (Or.inr ⟨rfl, h1⟩)
    · refine ev_icf rfl (decide_eq_false h7) ?_
      refine ev_run (n := 1) (u' := (0, 0)) (f' := (13, [some (.ref 138), some (.int a1), some (.int a2), some (.int a3)], [.int a2])) (h' := hp N x) rfl ?_
      rcases ite_or h with ⟨h6, h⟩ | ⟨h6, h⟩
      · refine ev_iff rfl (decide_eq_false (fun w => w h6)) ?_
        refine ev_run (n := 3) (u' := (0, 0)) (f' := (21, [some (.ref 138), some (.int a1), some (.int a2), some (.int a3)], [.int a3, .ref 163])) (h' := hp N x) rfl ?_
        obtain ⟨h2, h⟩ := cond_some h
        refine ev_iald rfl rfl h2 ?_
        refine ev_run (n := 1) (u' := (0, 0)) (f' := (23, [some (.ref 138), some (.int a1), some (.int a2), some (.int a3)], [.int (-1), .int (x.1 163 (xi a3))])) (h' := hp N x) rfl ?_
        rcases ite_or h with ⟨h5, h⟩ | ⟨h5, h⟩
        · refine ev_ict rfl (decide_eq_true h5) ?_
          exact em135_36 (gm135_4 n) q4 a1 a3 x _ h
        · refine ev_icf rfl (decide_eq_false h5) ?_
          refine ev_run (n := 3) (u' := (0, 0)) (f' := (31, [some (.ref 138), some (.int a1), some (.int a2), some (.int a3)], [.int a3, .ref 163])) (h' := hp N x) rfl ?_
          obtain ⟨h3, h⟩ := cond_some h
          refine ev_iald rfl rfl h3 ?_
          refine ev_run (n := 1) (u' := (0, 0)) (f' := (33, [some (.ref 138), some (.int a1), some (.int a2), some (.int a3)], [.int a1, .int (x.1 163 (xi a3))])) (h' := hp N x) rfl ?_
          rcases ite_or h with ⟨h4, h⟩ | ⟨h4, h⟩
          · refine ev_icf rfl (decide_eq_false (fun w => w h4)) ?_
            exact em135_36_k1 (gm135_4 n) q4 a1 a2 a3 x _ h
          · refine ev_ict rfl (decide_eq_true h4) ?_
            exact em135_66 (gm135_4 n) q4 a1 a3 x _ h
      · refine ev_ift rfl (decide_eq_true h6) ?_
        exact em135_62 (gm135_4 n) q4 a1 a3 x _ h
def gm135 (a1 : Int32) (x : Hs) : Option (Int32) := gm135_4 FU a1 0 0 x
theorem em135 {N : Nat} (a1 : Int32) (x : Hs) (r : Int32) (h : gm135 a1 x = some r) : Ev 135 (0, 0) (0, aPad [.ref 138, .int a1] 4, []) (hp N x) (cvPi N x r) := by
  show Ev 135 (0, 0) (0, [some (.ref 138), some (.int a1), none, none], []) (hp N x) _
  unfold gm135 at h
  refine ev_run (n := 4) (u' := (0, 0)) (f' := (4, [some (.ref 138), some (.int a1), some (.int 0), some (.int 0)], [])) (h' := hp N x) rfl ?_
  exact em135_4 FU a1 0 0 x _ h
def gm136_68 (k4 : Int32 → Int32 → Int32 → Hs → Option (Int32)) (a1 : Int32) (a3 : Int32) (s0 : Int32) (x : Hs) : Option (Int32) := k4 a1 s0 (a3 + 1) x
theorem em136_68 {N : Nat} (k4 : Int32 → Int32 → Int32 → Hs → Option (Int32)) (q4 : ∀ (a1 : Int32) (a2 : Int32) (a3 : Int32) (x : Hs) (r : Int32), k4 a1 a2 a3 x = some r → Ev 136 (0, 0) (4, [some (.ref 138), some (.int a1), some (.int a2), some (.int a3)], []) (hp N x) (cvPi N x r)) (a1 : Int32) (a3 : Int32) (s0 : Int32) (x : Hs) (r : Int32) (h : gm136_68 k4 a1 a3 s0 x = some r) : Ev 136 (0, 0) (68, [some (.ref 138), some (.int a1), none, some (.int a3)], [.int s0]) (hp N x) (cvPi N x r) := by
  unfold gm136_68 at h
  refine ev_run (n := 3) (u' := (0, 0)) (f' := (4, [some (.ref 138), some (.int a1), some (.int s0), some (.int (a3 + 1))], [])) (h' := hp N x) rfl ?_
  exact q4 a1 s0 (a3 + 1) x _ h
def gm136_63 (k4 : Int32 → Int32 → Int32 → Hs → Option (Int32)) (a1 : Int32) (a3 : Int32) (x : Hs) : Option (Int32) := gm136_68 k4 a1 a3 1 x
theorem em136_63 {N : Nat} (k4 : Int32 → Int32 → Int32 → Hs → Option (Int32)) (q4 : ∀ (a1 : Int32) (a2 : Int32) (a3 : Int32) (x : Hs) (r : Int32), k4 a1 a2 a3 x = some r → Ev 136 (0, 0) (4, [some (.ref 138), some (.int a1), some (.int a2), some (.int a3)], []) (hp N x) (cvPi N x r)) (a1 : Int32) (a3 : Int32) (x : Hs) (r : Int32) (h : gm136_63 k4 a1 a3 x = some r) : Ev 136 (0, 0) (63, [some (.ref 138), some (.int a1), none, some (.int a3)], []) (hp N x) (cvPi N x r) := by
  unfold gm136_63 at h
  refine ev_run (n := 2) (u' := (0, 0)) (f' := (68, [some (.ref 138), some (.int a1), none, some (.int a3)], [.int 1])) (h' := hp N x) rfl ?_
  exact em136_68 k4 q4 a1 a3 1 x _ h
theorem em136_63_k1 {N : Nat} (k4 : Int32 → Int32 → Int32 → Hs → Option (Int32)) (q4 : ∀ (a1 : Int32) (a2 : Int32) (a3 : Int32) (x : Hs) (r : Int32), k4 a1 a2 a3 x = some r → Ev 136 (0, 0) (4, [some (.ref 138), some (.int a1), some (.int a2), some (.int a3)], []) (hp N x) (cvPi N x r)) (a1 : Int32) (a2 : Int32) (a3 : Int32) (x : Hs) (r : Int32) (h : gm136_63 k4 a1 a3 x = some r) : Ev 136 (0, 0) (63, [some (.ref 138), some (.int a1), some (.int a2), some (.int a3)], []) (hp N x) (cvPi N x r) := by
  unfold gm136_63 at h
  refine ev_run (n := 2) (u' := (0, 0)) (f' := (68, [some (.ref 138), some (.int a1), none, some (.int a3)], [.int 1])) (h' := hp N x) rfl ?_
  exact em136_68 k4 q4 a1 a3 1 x _ h
def gm136_67 (k4 : Int32 → Int32 → Int32 → Hs → Option (Int32)) (a1 : Int32) (a3 : Int32) (x : Hs) : Option (Int32) := gm136_68 k4 a1 a3 0 x
theorem em136_67 {N : Nat} (k4 : Int32 → Int32 → Int32 → Hs → Option (Int32)) (q4 : ∀ (a1 : Int32) (a2 : Int32) (a3 : Int32) (x : Hs) (r : Int32), k4 a1 a2 a3 x = some r → Ev 136 (0, 0) (4, [some (.ref 138), some (.int a1), some (.int a2), some (.int a3)], []) (hp N x) (cvPi N x r)) (a1 : Int32) (a3 : Int32) (x : Hs) (r : Int32) (h : gm136_67 k4 a1 a3 x = some r) : Ev 136 (0, 0) (67, [some (.ref 138), some (.int a1), none, some (.int a3)], []) (hp N x) (cvPi N x r) := by
  unfold gm136_67 at h
  refine ev_run (n := 1) (u' := (0, 0)) (f' := (68, [some (.ref 138), some (.int a1), none, some (.int a3)], [.int 0])) (h' := hp N x) rfl ?_
  exact em136_68 k4 q4 a1 a3 0 x _ h
def gm136_4 : Nat → Int32 → Int32 → Int32 → Hs → Option (Int32)
  | 0, _, _, _, _ => none
  | n + 1, a1, a2, a3, x => if a3 ≥ x.1 138 42 then (cond (aBit a2) (some a2) none) else (if a2 = 0 then (cond (aIn a3 12) (if x.1 181 (xi a3) = 0 then (cond (aIn a3 12) (if x.1 175 (xi a3) < 2 then (gm136_67 (gm136_4 n) a1 a3 x) else (cond (aIn a3 12) (if x.1 174 (xi a3) = a1 then (gm136_63 (gm136_4 n) a1 a3 x) else (cond (aIn a1 5) (cond (aIn a3 12) ((gm115 (x.1 139 (xi a1)) (x.1 174 (xi a3)) x).bind fun w7 => (if w7 = 0 then (gm136_67 (gm136_4 n) a1 a3 x) else (gm136_63 (gm136_4 n) a1 a3 x))) none) none)) none)) none) else (gm136_67 (gm136_4 n) a1 a3 x)) none) else (gm136_63 (gm136_4 n) a1 a3 x))
theorem em136_4 {N : Nat} : ∀ (n : Nat) (a1 : Int32) (a2 : Int32) (a3 : Int32) (x : Hs) (r : Int32), gm136_4 n a1 a2 a3 x = some r → Ev 136 (0, 0) (4, [some (.ref 138), some (.int a1), some (.int a2), some (.int a3)], []) (hp N x) (cvPi N x r)
  | 0, a1, a2, a3, x, r, h => by
    have e9 : (none : Option (Int32)) = some r := h
    cases e9
  | n + 1, a1, a2, a3, x, r, h => by
    have q4 := em136_4 (N := N) n
    rw [gm136_4] at h
    refine ev_run (n := 3) (u' := (0, 0)) (f' := (9, [some (.ref 138), some (.int a1), some (.int a2), some (.int a3)], [.int (x.1 138 42), .int a3])) (h' := hp N x) rfl ?_
    rcases ite_or h with ⟨h14, h⟩ | ⟨h14, h⟩
    · refine ev_ict rfl (decide_eq_true h14) ?_
      refine ev_run (n := 1) (u' := (0, 0)) (f' := (76, [none, none, some (.int a2), none], [.int a2])) (h' := hp N x) rfl ?_
      obtain ⟨h1, h⟩ := cond_some h
      cases h
      exact ev_iret rfl rfl rfl (Or.inr ⟨rfl, h1⟩)
    · refine ev_icf rfl (decide_eq_false h14) ?_
      refine ev_run (n := 1) (u' := (0, 0)) (f' := (13, [some (.ref 138), some (.int a1), some (.int a2), some (.int a3)], [.int a2])) (h' := hp N x) rfl ?_
      rcases ite_or h with ⟨h13, h⟩ | ⟨h13, h⟩
      · refine ev_iff rfl (decide_eq_false (fun w => w h13)) ?_
        refine ev_run (n := 3) (u' := (0, 0)) (f' := (21, [some (.ref 138), some (.int a1), some (.int a2), some (.int a3)], [.int a3, .ref 181])) (h' := hp N x) rfl ?_
        obtain ⟨h2, h⟩ := cond_some h
        refine ev_bald rfl rfl h2 ?_
        rcases ite_or h with ⟨h12, h⟩ | ⟨h12, h⟩
        · refine ev_iff rfl (decide_eq_false (fun w => w h12)) ?_
          refine ev_run (n := 3) (u' := (0, 0)) (f' := (30, [some (.ref 138), some (.int a1), some (.int a2), some (.int a3)], [.int a3, .ref 175])) (h' := hp N x) rfl ?_
          obtain ⟨h3, h⟩ := cond_some h
          refine ev_iald rfl rfl h3 ?_
          refine ev_run (n := 1) (u' := (0, 0)) (f' := (32, [some (.ref 138), some (.int a1), some (.int a2), some (.int a3)], [.int 2, .int (x.1 175 (xi a3))])) (h' := hp N x) rfl ?_
          rcases ite_or h with ⟨h11, h⟩ | ⟨h11, h⟩
          · refine ev_ict rfl (decide_eq_true h11) ?_
            exact em136_67 (gm136_4 n) q4 a1 a3 x _ h
          · refine ev_icf rfl (decide_eq_false h11) ?_
            refine ev_run (n := 3) (u' := (0, 0)) (f' := (40, [some (.ref 138), some (.int a1), some (.int a2), some (.int a3)], [.int a3, .ref 174])) (h' := hp N x) rfl ?_
            obtain ⟨h4, h⟩ := cond_some h
            refine ev_iald rfl rfl h4 ?_
            refine ev_run (n := 1) (u' := (0, 0)) (f' := (42, [some (.ref 138), some (.int a1), some (.int a2), some (.int a3)], [.int a1, .int (x.1 174 (xi a3))])) (h' := hp N x) rfl ?_
            rcases ite_or h with ⟨h10, h⟩ | ⟨h10, h⟩
            · refine ev_ict rfl (decide_eq_true h10) ?_
              exact em136_63 (gm136_4 n) q4 a1 a3 x _ h
            · refine ev_icf rfl (decide_eq_false h10) ?_
              refine ev_run (n := 3) (u' := (0, 0)) (f' := (50, [some (.ref 138), some (.int a1), some (.int a2), some (.int a3)], [.int a1, .ref 139])) (h' := hp N x) rfl ?_
              obtain ⟨h5, h⟩ := cond_some h
              refine ev_iald rfl rfl h5 ?_
              refine ev_run (n := 3) (u' := (0, 0)) (f' := (56, [some (.ref 138), some (.int a1), some (.int a2), some (.int a3)], [.int a3, .ref 174, .int (x.1 139 (xi a1))])) (h' := hp N x) rfl ?_
              obtain ⟨h6, h⟩ := cond_some h
              refine ev_iald rfl rfl h6 ?_
              obtain ⟨w7, h8, h⟩ := bind_ok h
              refine ev_call (v := some (.int w7)) (h1 := hp N x) rfl rfl rfl rfl (em115 (x.1 139 (xi a1)) (x.1 174 (xi a3)) x _ h8) ?_
              show Ev 136 (0, 0) (60, [some (.ref 138), some (.int a1), some (.int a2), some (.int a3)], [.int w7]) (hp N x) _
              rcases ite_or h with ⟨h9, h⟩ | ⟨h9, h⟩
              · refine ev_ift rfl (decide_eq_true h9) ?_
                exact em136_67 (gm136_4 n) q4 a1 a3 x _ h
              · refine ev_iff rfl (decide_eq_false h9) ?_
                exact em136_63_k1 (gm136_4 n) q4 a1 a2 a3 x _ h
        · refine ev_ift rfl (decide_eq_true h12) ?_
          exact em136_67 (gm136_4 n) q4 a1 a3 x _ h
      · refine ev_ift rfl (decide_eq_true h13) ?_
        exact em136_63 (gm136_4 n) q4 a1 a3 x _ h
def gm136 (a1 : Int32) (x : Hs) : Option (Int32) := gm136_4 FU a1 0 0 x
theorem em136 {N : Nat} (a1 : Int32) (x : Hs) (r : Int32) (h : gm136 a1 x = some r) : Ev 136 (0, 0) (0, aPad [.ref 138, .int a1] 4, []) (hp N x) (cvPi N x r) := by
  show Ev 136 (0, 0) (0, [some (.ref 138), some (.int a1), none, none], []) (hp N x) _
  unfold gm136 at h
  refine ev_run (n := 4) (u' := (0, 0)) (f' := (4, [some (.ref 138), some (.int a1), some (.int 0), some (.int 0)], [])) (h' := hp N x) rfl ?_
  exact em136_4 FU a1 0 0 x _ h
def gm137 (a1 : Int32) (x : Hs) : Option (Int32) := cond (aIn a1 5) (if x.1 160 (xi a1) = (x.1 138 0 / 60) then (some 1) else (some 0)) none
theorem em137 {N : Nat} (a1 : Int32) (x : Hs) (r : Int32) (h : gm137 a1 x = some r) : Ev 137 (0, 0) (0, aPad [.ref 138, .int a1] 2, []) (hp N x) (cvPi N x r) := by
  show Ev 137 (0, 0) (0, [some (.ref 138), some (.int a1)], []) (hp N x) _
  unfold gm137 at h
  refine ev_run (n := 3) (u' := (0, 0)) (f' := (5, [some (.ref 138), some (.int a1)], [.int a1, .ref 160])) (h' := hp N x) rfl ?_
  obtain ⟨h1, h⟩ := cond_some h
  refine ev_iald rfl rfl h1 ?_
  refine ev_run (n := 3) (u' := (0, 0)) (f' := (12, [some (.ref 138), some (.int a1)], [.int 60, .int (x.1 138 0), .int (x.1 160 (xi a1))])) (h' := hp N x) rfl ?_
  refine ev_idiv rfl (by decide) ?_
  rcases ite_or h with ⟨h2, h⟩ | ⟨h2, h⟩
  · refine ev_icf rfl (decide_eq_false (fun w => w h2)) ?_
    refine ev_run (n := 2) (u' := (0, 0)) (f' := (21, [none, none], [.int 1])) (h' := hp N x) rfl ?_
    cases h
    exact ev_iret rfl rfl rfl (Or.inr ⟨rfl, rfl⟩)
  · refine ev_ict rfl (decide_eq_true h2) ?_
    refine ev_run (n := 1) (u' := (0, 0)) (f' := (21, [none, none], [.int 0])) (h' := hp N x) rfl ?_
    cases h
    exact ev_iret rfl rfl rfl (Or.inr ⟨rfl, rfl⟩)
def gm138 (a1 : Int32) (x : Hs) : Option (Int32) := (gm137 a1 x).bind fun w1 => (if w1 = 0 then (some 0) else (cond (aIn a1 5) (if x.1 161 (xi a1) ≤ 0 then (some 0) else (cond (aIn a1 5) (cond (aIn a1 5) (cond (aIn a1 5) (if (lg_cmp (1000 * (Int32.toInt64 (x.1 162 (xi a1)))) ((Int32.toInt64 (x.1 159 (xi a1))) * (Int32.toInt64 (x.1 161 (xi a1))))) ≤ 0 then (some 0) else (some 1)) none) none) none)) none))
theorem em138 {N : Nat} (a1 : Int32) (x : Hs) (r : Int32) (h : gm138 a1 x = some r) : Ev 138 (0, 0) (0, aPad [.ref 138, .int a1] 2, []) (hp N x) (cvPi N x r) := by
  show Ev 138 (0, 0) (0, [some (.ref 138), some (.int a1)], []) (hp N x) _
  unfold gm138 at h
  refine ev_run (n := 2) (u' := (0, 0)) (f' := (2, [some (.ref 138), some (.int a1)], [.int a1, .ref 138])) (h' := hp N x) rfl ?_
  obtain ⟨w1, h2, h⟩ := bind_ok h
  refine ev_call (v := some (.int w1)) (h1 := hp N x) rfl rfl rfl rfl (em137 a1 x _ h2) ?_
  show Ev 138 (0, 0) (5, [some (.ref 138), some (.int a1)], [.int w1]) (hp N x) _
  rcases ite_or h with ⟨h9, h⟩ | ⟨h9, h⟩
  · refine ev_ift rfl (decide_eq_true h9) ?_
    refine ev_run (n := 1) (u' := (0, 0)) (f' := (52, [none, none], [.int 0])) (h' := hp N x) rfl ?_
    cases h
    exact ev_iret rfl rfl rfl (Or.inr ⟨rfl, rfl⟩)
  · refine ev_iff rfl (decide_eq_false h9) ?_
    refine ev_run (n := 3) (u' := (0, 0)) (f' := (13, [some (.ref 138), some (.int a1)], [.int a1, .ref 161])) (h' := hp N x) rfl ?_
    obtain ⟨h3, h⟩ := cond_some h
    refine ev_iald rfl rfl h3 ?_
    rcases ite_or h with ⟨h8, h⟩ | ⟨h8, h⟩
    · refine ev_ift rfl (decide_eq_true h8) ?_
      refine ev_run (n := 1) (u' := (0, 0)) (f' := (52, [none, none], [.int 0])) (h' := hp N x) rfl ?_
      cases h
      exact ev_iret rfl rfl rfl (Or.inr ⟨rfl, rfl⟩)
    · refine ev_iff rfl (decide_eq_false h8) ?_
      refine ev_run (n := 4) (u' := (0, 0)) (f' := (25, [some (.ref 138), some (.int a1)], [.int a1, .ref 162, .long 1000])) (h' := hp N x) rfl ?_
      obtain ⟨h4, h⟩ := cond_some h
      refine ev_iald rfl rfl h4 ?_
      refine ev_run (n := 5) (u' := (0, 0)) (f' := (33, [some (.ref 138), some (.int a1)], [.int a1, .ref 159, .long (1000 * (Int32.toInt64 (x.1 162 (xi a1))))])) (h' := hp N x) rfl ?_
      obtain ⟨h5, h⟩ := cond_some h
      refine ev_iald rfl rfl h5 ?_
      refine ev_run (n := 4) (u' := (0, 0)) (f' := (40, [some (.ref 138), some (.int a1)], [.int a1, .ref 161, .long (Int32.toInt64 (x.1 159 (xi a1))), .long (1000 * (Int32.toInt64 (x.1 162 (xi a1))))])) (h' := hp N x) rfl ?_
      obtain ⟨h6, h⟩ := cond_some h
      refine ev_iald rfl rfl h6 ?_
      refine ev_run (n := 3) (u' := (0, 0)) (f' := (44, [some (.ref 138), some (.int a1)], [.int (lg_cmp (1000 * (Int32.toInt64 (x.1 162 (xi a1)))) ((Int32.toInt64 (x.1 159 (xi a1))) * (Int32.toInt64 (x.1 161 (xi a1)))))])) (h' := hp N x) rfl ?_
      rcases ite_or h with ⟨h7, h⟩ | ⟨h7, h⟩
      · refine ev_ift rfl (decide_eq_true h7) ?_
        refine ev_run (n := 1) (u' := (0, 0)) (f' := (52, [none, none], [.int 0])) (h' := hp N x) rfl ?_
        cases h
        exact ev_iret rfl rfl rfl (Or.inr ⟨rfl, rfl⟩)
      · refine ev_iff rfl (decide_eq_false h7) ?_
        refine ev_run (n := 2) (u' := (0, 0)) (f' := (52, [none, none], [.int 1])) (h' := hp N x) rfl ?_
        cases h
        exact ev_iret rfl rfl rfl (Or.inr ⟨rfl, rfl⟩)
def gm139_311 (s0 : Int64) (s1 : Int64) (s2 : Int32) (x : Hs) : Option (Int32 × Hs) := if (lg_cmp s0 (s1 * (Int32.toInt64 s2))) ≤ 0 then (some (0, x)) else (some (8, x))
theorem em139_311 {N : Nat} (s0 : Int64) (s1 : Int64) (s2 : Int32) (x : Hs) (r : Int32 × Hs) (h : gm139_311 s0 s1 s2 x = some r) : Ev 139 (0, 0) (311, [none, none, none, none, none, none, none, none, none], [.int s2, .long s1, .long s0]) (hp N x) (cvMi N r) := by
  unfold gm139_311 at h
  refine ev_run (n := 3) (u' := (0, 0)) (f' := (314, [none, none, none, none, none, none, none, none, none], [.int (lg_cmp s0 (s1 * (Int32.toInt64 s2)))])) (h' := hp N x) rfl ?_
  rcases ite_or h with ⟨h49, h⟩ | ⟨h49, h⟩
  · refine ev_ift rfl (decide_eq_true h49) ?_
    refine ev_run (n := 1) (u' := (0, 0)) (f' := (323, [none, none, none, none, none, none, none, none, none], [.int 0])) (h' := hp N x) rfl ?_
    cases h
    exact ev_iret rfl rfl rfl (Or.inl rfl)
  · refine ev_iff rfl (decide_eq_false h49) ?_
    refine ev_run (n := 2) (u' := (0, 0)) (f' := (323, [none, none, none, none, none, none, none, none, none], [.int 8])) (h' := hp N x) rfl ?_
    cases h
    exact ev_iret rfl rfl rfl (Or.inl rfl)
def gm139_279 (a4 : Int32) (a6 : Int32) (s0 : Int64) (x : Hs) : Option (Int32 × Hs) := cond (aIn a4 20) (if a6 = 0 then (gm139_311 s0 (5 * (Int32.toInt64 (x.1 151 (xi a4)))) 1 x) else (cond (aIn a4 20) (gm139_311 s0 (5 * (Int32.toInt64 (x.1 151 (xi a4)))) (x.1 153 (xi a4)) x) none)) none
theorem em139_279 {N : Nat} (a4 : Int32) (a6 : Int32) (s0 : Int64) (x : Hs) (r : Int32 × Hs) (h : gm139_279 a4 a6 s0 x = some r) : Ev 139 (0, 0) (279, [some (.ref 138), none, none, none, some (.int a4), none, some (.int a6), none, none], [.long s0]) (hp N x) (cvMi N r) := by
  unfold gm139_279 at h
  refine ev_run (n := 6) (u' := (0, 0)) (f' := (292, [some (.ref 138), none, none, none, some (.int a4), none, some (.int a6), some (.long s0), none], [.int a4, .ref 151, .long 5, .long s0])) (h' := hp N x) rfl ?_
  obtain ⟨h46, h⟩ := cond_some h
  refine ev_iald rfl rfl h46 ?_
  refine ev_run (n := 3) (u' := (0, 0)) (f' := (297, [some (.ref 138), none, none, none, some (.int a4), none, some (.int a6), some (.long s0), none], [.int a6, .long (5 * (Int32.toInt64 (x.1 151 (xi a4)))), .long s0])) (h' := hp N x) rfl ?_
  rcases ite_or h with ⟨h48, h⟩ | ⟨h48, h⟩
  · refine ev_ift rfl (decide_eq_true h48) ?_
    refine ev_run (n := 1) (u' := (0, 0)) (f' := (311, [none, none, none, none, none, none, none, none, none], [.int 1, .long (5 * (Int32.toInt64 (x.1 151 (xi a4)))), .long s0])) (h' := hp N x) rfl ?_
    exact em139_311 s0 (5 * (Int32.toInt64 (x.1 151 (xi a4)))) 1 x _ h
  · refine ev_iff rfl (decide_eq_false h48) ?_
    refine ev_run (n := 3) (u' := (0, 0)) (f' := (306, [some (.ref 138), none, none, none, some (.int a4), none, some (.int a6), some (.long s0), none], [.int a4, .ref 153, .long (5 * (Int32.toInt64 (x.1 151 (xi a4)))), .long s0])) (h' := hp N x) rfl ?_
    obtain ⟨h47, h⟩ := cond_some h
    refine ev_iald rfl rfl h47 ?_
    refine ev_run (n := 1) (u' := (0, 0)) (f' := (311, [none, none, none, none, none, none, none, none, none], [.int (x.1 153 (xi a4)), .long (5 * (Int32.toInt64 (x.1 151 (xi a4)))), .long s0])) (h' := hp N x) rfl ?_
    exact em139_311 s0 (5 * (Int32.toInt64 (x.1 151 (xi a4)))) (x.1 153 (xi a4)) x _ h
def gm139_220 (a4 : Int32) (a6 : Int32) (x : Hs) : Option (Int32 × Hs) := if a6 = 0 then (cond (aIn a4 20) (gm139_279 a4 a6 (100 * (Int32.toInt64 (x.1 152 (xi a4)))) x) none) else (cond (aIn a4 20) (cond (aIn a4 20) (cond (aIn a4 20) (cond (aIn a4 20) (gm139_279 a4 a6 (100 * (((Int32.toInt64 (x.1 152 (xi a4))) * (Int32.toInt64 (x.1 153 (xi a4)))) - ((Int32.toInt64 (x.1 154 (xi a4))) * (Int32.toInt64 (x.1 151 (xi a4)))))) x) none) none) none) none)
theorem em139_220 {N : Nat} (a4 : Int32) (a6 : Int32) (x : Hs) (r : Int32 × Hs) (h : gm139_220 a4 a6 x = some r) : Ev 139 (0, 0) (220, [some (.ref 138), none, none, none, some (.int a4), none, some (.int a6), none, none], []) (hp N x) (cvMi N r) := by
  unfold gm139_220 at h
  refine ev_run (n := 1) (u' := (0, 0)) (f' := (222, [some (.ref 138), none, none, none, some (.int a4), none, some (.int a6), none, none], [.int a6])) (h' := hp N x) rfl ?_
  rcases ite_or h with ⟨h45, h⟩ | ⟨h45, h⟩
  · refine ev_ift rfl (decide_eq_true h45) ?_
    refine ev_run (n := 4) (u' := (0, 0)) (f' := (276, [some (.ref 138), none, none, none, some (.int a4), none, some (.int a6), none, none], [.int a4, .ref 152, .long 100])) (h' := hp N x) rfl ?_
    obtain ⟨h40, h⟩ := cond_some h
    refine ev_iald rfl rfl h40 ?_
    refine ev_run (n := 2) (u' := (0, 0)) (f' := (279, [some (.ref 138), none, none, none, some (.int a4), none, some (.int a6), none, none], [.long (100 * (Int32.toInt64 (x.1 152 (xi a4))))])) (h' := hp N x) rfl ?_
    exact em139_279 a4 a6 (100 * (Int32.toInt64 (x.1 152 (xi a4)))) x _ h
  · refine ev_iff rfl (decide_eq_false h45) ?_
    refine ev_run (n := 4) (u' := (0, 0)) (f' := (234, [some (.ref 138), none, none, none, some (.int a4), none, some (.int a6), none, none], [.int a4, .ref 152, .long 100])) (h' := hp N x) rfl ?_
    obtain ⟨h41, h⟩ := cond_some h
    refine ev_iald rfl rfl h41 ?_
    refine ev_run (n := 4) (u' := (0, 0)) (f' := (242, [some (.ref 138), none, none, none, some (.int a4), none, some (.int a6), none, none], [.int a4, .ref 153, .long (Int32.toInt64 (x.1 152 (xi a4))), .long 100])) (h' := hp N x) rfl ?_
    obtain ⟨h42, h⟩ := cond_some h
    refine ev_iald rfl rfl h42 ?_
    refine ev_run (n := 5) (u' := (0, 0)) (f' := (251, [some (.ref 138), none, none, none, some (.int a4), none, some (.int a6), none, none], [.int a4, .ref 154, .long ((Int32.toInt64 (x.1 152 (xi a4))) * (Int32.toInt64 (x.1 153 (xi a4)))), .long 100])) (h' := hp N x) rfl ?_
    obtain ⟨h43, h⟩ := cond_some h
    refine ev_iald rfl rfl h43 ?_
    refine ev_run (n := 4) (u' := (0, 0)) (f' := (259, [some (.ref 138), none, none, none, some (.int a4), none, some (.int a6), none, none], [.int a4, .ref 151, .long (Int32.toInt64 (x.1 154 (xi a4))), .long ((Int32.toInt64 (x.1 152 (xi a4))) * (Int32.toInt64 (x.1 153 (xi a4)))), .long 100])) (h' := hp N x) rfl ?_
    obtain ⟨h44, h⟩ := cond_some h
    refine ev_iald rfl rfl h44 ?_
    refine ev_run (n := 5) (u' := (0, 0)) (f' := (279, [some (.ref 138), none, none, none, some (.int a4), none, some (.int a6), none, none], [.long (100 * (((Int32.toInt64 (x.1 152 (xi a4))) * (Int32.toInt64 (x.1 153 (xi a4)))) - ((Int32.toInt64 (x.1 154 (xi a4))) * (Int32.toInt64 (x.1 151 (xi a4))))))])) (h' := hp N x) rfl ?_
    exact em139_279 a4 a6 (100 * (((Int32.toInt64 (x.1 152 (xi a4))) * (Int32.toInt64 (x.1 153 (xi a4)))) - ((Int32.toInt64 (x.1 154 (xi a4))) * (Int32.toInt64 (x.1 151 (xi a4)))))) x _ h
def gm139_186 (a4 : Int32) (s0 : Int32) (x : Hs) : Option (Int32 × Hs) := cond (aIn a4 20) (if x.1 151 (xi a4) < 20 then (some (7, x)) else (if s0 = 0 then (gm139_220 a4 s0 x) else (cond (aIn a4 20) (if x.1 153 (xi a4) ≥ 20 then (gm139_220 a4 s0 x) else (some (7, x))) none))) none
theorem em139_186 {N : Nat} (a4 : Int32) (s0 : Int32) (x : Hs) (r : Int32 × Hs) (h : gm139_186 a4 s0 x = some r) : Ev 139 (0, 0) (186, [some (.ref 138), none, none, none, some (.int a4), none, none, none, none], [.int s0]) (hp N x) (cvMi N r) := by
  unfold gm139_186 at h
  refine ev_run (n := 4) (u' := (0, 0)) (f' := (194, [some (.ref 138), none, none, none, some (.int a4), none, some (.int s0), none, none], [.int a4, .ref 151])) (h' := hp N x) rfl ?_
  obtain ⟨h35, h⟩ := cond_some h
  refine ev_iald rfl rfl h35 ?_
  refine ev_run (n := 1) (u' := (0, 0)) (f' := (197, [some (.ref 138), none, none, none, some (.int a4), none, some (.int s0), none, none], [.int 20, .int (x.1 151 (xi a4))])) (h' := hp N x) rfl ?_
  rcases ite_or h with ⟨h39, h⟩ | ⟨h39, h⟩
  · refine ev_ict rfl (decide_eq_true h39) ?_
    refine ev_run (n := 1) (u' := (0, 0)) (f' := (219, [none, none, none, none, none, none, none, none, none], [.int 7])) (h' := hp N x) rfl ?_
    cases h
    exact ev_iret rfl rfl rfl (Or.inl rfl)
  · refine ev_icf rfl (decide_eq_false h39) ?_
    refine ev_run (n := 1) (u' := (0, 0)) (f' := (202, [some (.ref 138), none, none, none, some (.int a4), none, some (.int s0), none, none], [.int s0])) (h' := hp N x) rfl ?_
    rcases ite_or h with ⟨h38, h⟩ | ⟨h38, h⟩
    · refine ev_ift rfl (decide_eq_true h38) ?_
      exact em139_220 a4 s0 x _ h
    · refine ev_iff rfl (decide_eq_false h38) ?_
      refine ev_run (n := 3) (u' := (0, 0)) (f' := (211, [some (.ref 138), none, none, none, some (.int a4), none, some (.int s0), none, none], [.int a4, .ref 153])) (h' := hp N x) rfl ?_
      obtain ⟨h36, h⟩ := cond_some h
      refine ev_iald rfl rfl h36 ?_
      refine ev_run (n := 1) (u' := (0, 0)) (f' := (214, [some (.ref 138), none, none, none, some (.int a4), none, some (.int s0), none, none], [.int 20, .int (x.1 153 (xi a4))])) (h' := hp N x) rfl ?_
      rcases ite_or h with ⟨h37, h⟩ | ⟨h37, h⟩
      · refine ev_ict rfl (decide_eq_true h37) ?_
        exact em139_220 a4 s0 x _ h
      · refine ev_icf rfl (decide_eq_false h37) ?_
        refine ev_run (n := 1) (u' := (0, 0)) (f' := (219, [some (.ref 138), none, none, none, some (.int a4), none, some (.int s0), none, none], [.int 7])) (h' := hp N x) rfl ?_
        cases h
        exact ev_iret rfl rfl rfl (Or.inl rfl)
def gm139_135 (a3 : Int32) (a4 : Int32) (a5 : Int32) (x : Hs) : Option (Int32 × Hs) := if a5 = 0 then (if a3 ≤ 0 then (some (0, x)) else (cond (aIn (a4 - 5) 20) (if (x.1 138 0 - x.1 150 (xi (a4 - 5))) ≥ 30 then (some (0, x)) else (some (6, x))) none)) else (cond (aIn a4 20) (if x.1 147 (xi a4) = (-1) then (gm139_186 a4 0 x) else (gm139_186 a4 1 x)) none)
theorem em139_135 {N : Nat} (a3 : Int32) (a4 : Int32) (a5 : Int32) (x : Hs) (r : Int32 × Hs) (h : gm139_135 a3 a4 a5 x = some r) : Ev 139 (0, 0) (135, [some (.ref 138), none, none, some (.int a3), some (.int a4), some (.int a5), none, none, none], []) (hp N x) (cvMi N r) := by
  unfold gm139_135 at h
  refine ev_run (n := 1) (u' := (0, 0)) (f' := (137, [some (.ref 138), none, none, some (.int a3), some (.int a4), some (.int a5), none, none, none], [.int a5])) (h' := hp N x) rfl ?_
  rcases ite_or h with ⟨h34, h⟩ | ⟨h34, h⟩
  · refine ev_iff rfl (decide_eq_false (fun w => w h34)) ?_
    refine ev_run (n := 1) (u' := (0, 0)) (f' := (141, [some (.ref 138), none, none, some (.int a3), some (.int a4), some (.int a5), none, none, none], [.int a3])) (h' := hp N x) rfl ?_
    rcases ite_or h with ⟨h33, h⟩ | ⟨h33, h⟩
    · refine ev_ift rfl (decide_eq_true h33) ?_
      refine ev_run (n := 1) (u' := (0, 0)) (f' := (169, [none, none, none, none, none, none, none, none, none], [.int 0])) (h' := hp N x) rfl ?_
      cases h
      exact ev_iret rfl rfl rfl (Or.inl rfl)
    · refine ev_iff rfl (decide_eq_false h33) ?_
      refine ev_run (n := 7) (u' := (0, 0)) (f' := (156, [some (.ref 138), none, none, some (.int a3), some (.int a4), some (.int a5), none, none, none], [.int (a4 - 5), .ref 150, .int (x.1 138 0)])) (h' := hp N x) rfl ?_
      obtain ⟨h31, h⟩ := cond_some h
      refine ev_iald rfl rfl h31 ?_
      refine ev_run (n := 2) (u' := (0, 0)) (f' := (160, [some (.ref 138), none, none, some (.int a3), some (.int a4), some (.int a5), none, none, none], [.int 30, .int (x.1 138 0 - x.1 150 (xi (a4 - 5)))])) (h' := hp N x) rfl ?_
      rcases ite_or h with ⟨h32, h⟩ | ⟨h32, h⟩
      · refine ev_ict rfl (decide_eq_true h32) ?_
        refine ev_run (n := 1) (u' := (0, 0)) (f' := (169, [none, none, none, none, none, none, none, none, none], [.int 0])) (h' := hp N x) rfl ?_
        cases h
        exact ev_iret rfl rfl rfl (Or.inl rfl)
      · refine ev_icf rfl (decide_eq_false h32) ?_
        refine ev_run (n := 2) (u' := (0, 0)) (f' := (169, [none, none, none, none, none, none, none, none, none], [.int 6])) (h' := hp N x) rfl ?_
        cases h
        exact ev_iret rfl rfl rfl (Or.inl rfl)
  · refine ev_ift rfl (decide_eq_true h34) ?_
    refine ev_run (n := 3) (u' := (0, 0)) (f' := (176, [some (.ref 138), none, none, none, some (.int a4), none, none, none, none], [.int a4, .ref 147])) (h' := hp N x) rfl ?_
    obtain ⟨h29, h⟩ := cond_some h
    refine ev_iald rfl rfl h29 ?_
    refine ev_run (n := 1) (u' := (0, 0)) (f' := (178, [some (.ref 138), none, none, none, some (.int a4), none, none, none, none], [.int (-1), .int (x.1 147 (xi a4))])) (h' := hp N x) rfl ?_
    rcases ite_or h with ⟨h30, h⟩ | ⟨h30, h⟩
    · refine ev_ict rfl (decide_eq_true h30) ?_
      refine ev_run (n := 1) (u' := (0, 0)) (f' := (186, [some (.ref 138), none, none, none, some (.int a4), none, none, none, none], [.int 0])) (h' := hp N x) rfl ?_
      exact em139_186 a4 0 x _ h
    · refine ev_icf rfl (decide_eq_false h30) ?_
      refine ev_run (n := 2) (u' := (0, 0)) (f' := (186, [some (.ref 138), none, none, none, some (.int a4), none, none, none, none], [.int 1])) (h' := hp N x) rfl ?_
      exact em139_186 a4 1 x _ h
def gm139_58 (a1 : Int32) (a2 : Int32) (a3 : Int32) (a4 : Int32) (a5 : Int32) (x : Hs) : Option (Int32 × Hs) := (gm136 a1 x).bind fun w10 => (if w10 = 0 then ((gm138 a1 x).bind fun w12 => (if w12 = 0 then (cond (aIn a2 24) (if x.1 145 (xi a2) = 0 then ((gm130 a2 x).bind fun w15 => (if w15 = 0 then (some (4, x)) else (if a5 = 0 then (cond (aIn a4 20) ((gm133 a4 (x.1 147 (xi a4)) a2 x).bind fun w18 => (if w18.1 = 0 then (some (5, w18.2)) else (gm139_135 a3 a4 a5 w18.2))) none) else ((gm133 a4 a2 (-1) x).bind fun w21 => (if w21.1 = 0 then (some (5, w21.2)) else (gm139_135 a3 a4 a5 w21.2)))))) else (some (4, x))) none) else (some (3, x)))) else (some (2, x)))
theorem em139_58 {N : Nat} (a1 : Int32) (a2 : Int32) (a3 : Int32) (a4 : Int32) (a5 : Int32) (x : Hs) (r : Int32 × Hs) (h : gm139_58 a1 a2 a3 a4 a5 x = some r) : Ev 139 (0, 0) (58, [some (.ref 138), some (.int a1), some (.int a2), some (.int a3), some (.int a4), some (.int a5), none, none, none], []) (hp N x) (cvMi N r) := by
  unfold gm139_58 at h
  refine ev_run (n := 2) (u' := (0, 0)) (f' := (60, [some (.ref 138), some (.int a1), some (.int a2), some (.int a3), some (.int a4), some (.int a5), none, none, none], [.int a1, .ref 138])) (h' := hp N x) rfl ?_
  obtain ⟨w10, h11, h⟩ := bind_ok h
  refine ev_call (v := some (.int w10)) (h1 := hp N x) rfl rfl rfl rfl (em136 a1 x _ h11) ?_
  show Ev 139 (0, 0) (63, [some (.ref 138), some (.int a1), some (.int a2), some (.int a3), some (.int a4), some (.int a5), none, none, none], [.int w10]) (hp N x) _
  rcases ite_or h with ⟨h28, h⟩ | ⟨h28, h⟩
  · refine ev_ift rfl (decide_eq_true h28) ?_
    refine ev_run (n := 2) (u' := (0, 0)) (f' := (70, [some (.ref 138), some (.int a1), some (.int a2), some (.int a3), some (.int a4), some (.int a5), none, none, none], [.int a1, .ref 138])) (h' := hp N x) rfl ?_
    obtain ⟨w12, h13, h⟩ := bind_ok h
    refine ev_call (v := some (.int w12)) (h1 := hp N x) rfl rfl rfl rfl (em138 a1 x _ h13) ?_
    show Ev 139 (0, 0) (73, [some (.ref 138), some (.int a1), some (.int a2), some (.int a3), some (.int a4), some (.int a5), none, none, none], [.int w12]) (hp N x) _
    rcases ite_or h with ⟨h27, h⟩ | ⟨h27, h⟩
    · refine ev_ift rfl (decide_eq_true h27) ?_
      refine ev_run (n := 3) (u' := (0, 0)) (f' := (83, [some (.ref 138), none, some (.int a2), some (.int a3), some (.int a4), some (.int a5), none, none, none], [.int a2, .ref 145])) (h' := hp N x) rfl ?_
      obtain ⟨h14, h⟩ := cond_some h
      refine ev_bald rfl rfl h14 ?_
      rcases ite_or h with ⟨h26, h⟩ | ⟨h26, h⟩
      · refine ev_iff rfl (decide_eq_false (fun w => w h26)) ?_
        refine ev_run (n := 2) (u' := (0, 0)) (f' := (89, [some (.ref 138), none, some (.int a2), some (.int a3), some (.int a4), some (.int a5), none, none, none], [.int a2, .ref 138])) (h' := hp N x) rfl ?_
        obtain ⟨w15, h16, h⟩ := bind_ok h
        refine ev_call (v := some (.int w15)) (h1 := hp N x) rfl rfl rfl rfl (em130 a2 x _ h16) ?_
        show Ev 139 (0, 0) (92, [some (.ref 138), none, some (.int a2), some (.int a3), some (.int a4), some (.int a5), none, none, none], [.int w15]) (hp N x) _
        rcases ite_or h with ⟨h25, h⟩ | ⟨h25, h⟩
        · refine ev_iff rfl (decide_eq_false (fun w => w h25)) ?_
          refine ev_run (n := 1) (u' := (0, 0)) (f' := (96, [some (.ref 138), none, some (.int a2), some (.int a3), some (.int a4), some (.int a5), none, none, none], [.int 4])) (h' := hp N x) rfl ?_
          cases h
          exact ev_iret rfl rfl rfl (Or.inl rfl)
        · refine ev_ift rfl (decide_eq_true h25) ?_
          refine ev_run (n := 1) (u' := (0, 0)) (f' := (99, [some (.ref 138), none, some (.int a2), some (.int a3), some (.int a4), some (.int a5), none, none, none], [.int a5])) (h' := hp N x) rfl ?_
          rcases ite_or h with ⟨h24, h⟩ | ⟨h24, h⟩
          · refine ev_ift rfl (decide_eq_true h24) ?_
            refine ev_run (n := 5) (u' := (0, 0)) (f' := (125, [some (.ref 138), none, some (.int a2), some (.int a3), some (.int a4), some (.int a5), none, none, none], [.int a4, .ref 147, .int a4, .ref 138])) (h' := hp N x) rfl ?_
            obtain ⟨h17, h⟩ := cond_some h
            refine ev_iald rfl rfl h17 ?_
            refine ev_run (n := 1) (u' := (0, 0)) (f' := (127, [some (.ref 138), none, some (.int a2), some (.int a3), some (.int a4), some (.int a5), none, none, none], [.int a2, .int (x.1 147 (xi a4)), .int a4, .ref 138])) (h' := hp N x) rfl ?_
            obtain ⟨w18, h19, h⟩ := bind_ok h
            refine ev_call (v := some (.int w18.1)) (h1 := hp N w18.2) rfl rfl rfl rfl (em133 a4 (x.1 147 (xi a4)) a2 x _ h19) ?_
            show Ev 139 (0, 0) (130, [some (.ref 138), none, some (.int a2), some (.int a3), some (.int a4), some (.int a5), none, none, none], [.int w18.1]) (hp N w18.2) _
            rcases ite_or h with ⟨h20, h⟩ | ⟨h20, h⟩
            · refine ev_iff rfl (decide_eq_false (fun w => w h20)) ?_
              refine ev_run (n := 1) (u' := (0, 0)) (f' := (134, [some (.ref 138), none, some (.int a2), some (.int a3), some (.int a4), some (.int a5), none, none, none], [.int 5])) (h' := hp N w18.2) rfl ?_
              cases h
              exact ev_iret rfl rfl rfl (Or.inl rfl)
            · refine ev_ift rfl (decide_eq_true h20) ?_
              exact em139_135 a3 a4 a5 w18.2 _ h
          · refine ev_iff rfl (decide_eq_false h24) ?_
            refine ev_run (n := 4) (u' := (0, 0)) (f' := (107, [some (.ref 138), none, some (.int a2), some (.int a3), some (.int a4), some (.int a5), none, none, none], [.int (-1), .int a2, .int a4, .ref 138])) (h' := hp N x) rfl ?_
            obtain ⟨w21, h22, h⟩ := bind_ok h
            refine ev_call (v := some (.int w21.1)) (h1 := hp N w21.2) rfl rfl rfl rfl (em133 a4 a2 (-1) x _ h22) ?_
            show Ev 139 (0, 0) (110, [some (.ref 138), none, some (.int a2), some (.int a3), some (.int a4), some (.int a5), none, none, none], [.int w21.1]) (hp N w21.2) _
            rcases ite_or h with ⟨h23, h⟩ | ⟨h23, h⟩
            · refine ev_ift rfl (decide_eq_true h23) ?_
              refine ev_run (n := 1) (u' := (0, 0)) (f' := (134, [none, none, none, none, none, none, none, none, none], [.int 5])) (h' := hp N w21.2) rfl ?_
              cases h
              exact ev_iret rfl rfl rfl (Or.inl rfl)
            · refine ev_iff rfl (decide_eq_false h23) ?_
              refine ev_run (n := 1) (u' := (0, 0)) (f' := (135, [some (.ref 138), none, none, some (.int a3), some (.int a4), some (.int a5), none, none, none], [])) (h' := hp N w21.2) rfl ?_
              exact em139_135 a3 a4 a5 w21.2 _ h
      · refine ev_ift rfl (decide_eq_true h26) ?_
        refine ev_run (n := 1) (u' := (0, 0)) (f' := (96, [none, none, none, none, none, none, none, none, none], [.int 4])) (h' := hp N x) rfl ?_
        cases h
        exact ev_iret rfl rfl rfl (Or.inl rfl)
    · refine ev_iff rfl (decide_eq_false h27) ?_
      refine ev_run (n := 1) (u' := (0, 0)) (f' := (77, [some (.ref 138), some (.int a1), some (.int a2), some (.int a3), some (.int a4), some (.int a5), none, none, none], [.int 3])) (h' := hp N x) rfl ?_
      cases h
      exact ev_iret rfl rfl rfl (Or.inl rfl)
  · refine ev_iff rfl (decide_eq_false h28) ?_
    refine ev_run (n := 1) (u' := (0, 0)) (f' := (67, [some (.ref 138), some (.int a1), some (.int a2), some (.int a3), some (.int a4), some (.int a5), none, none, none], [.int 2])) (h' := hp N x) rfl ?_
    cases h
    exact ev_iret rfl rfl rfl (Or.inl rfl)
def gm139_37 (a1 : Int32) (a2 : Int32) (a3 : Int32) (a4 : Int32) (s0 : Int32) (x : Hs) : Option (Int32 × Hs) := (gm135 a1 x).bind fun w5 => (if w5 = 0 then (gm139_58 a1 a2 a3 a4 s0 x) else (cond (aIn a1 5) (if x.1 158 (xi a1) = 0 then (some (1, x)) else (gm139_58 a1 a2 a3 a4 s0 x)) none))
theorem em139_37 {N : Nat} (a1 : Int32) (a2 : Int32) (a3 : Int32) (a4 : Int32) (s0 : Int32) (x : Hs) (r : Int32 × Hs) (h : gm139_37 a1 a2 a3 a4 s0 x = some r) : Ev 139 (0, 0) (37, [some (.ref 138), some (.int a1), some (.int a2), some (.int a3), some (.int a4), none, none, none, none], [.int s0]) (hp N x) (cvMi N r) := by
  unfold gm139_37 at h
  refine ev_run (n := 3) (u' := (0, 0)) (f' := (41, [some (.ref 138), some (.int a1), some (.int a2), some (.int a3), some (.int a4), some (.int s0), none, none, none], [.int a1, .ref 138])) (h' := hp N x) rfl ?_
  obtain ⟨w5, h6, h⟩ := bind_ok h
  refine ev_call (v := some (.int w5)) (h1 := hp N x) rfl rfl rfl rfl (em135 a1 x _ h6) ?_
  show Ev 139 (0, 0) (44, [some (.ref 138), some (.int a1), some (.int a2), some (.int a3), some (.int a4), some (.int s0), none, none, none], [.int w5]) (hp N x) _
  rcases ite_or h with ⟨h9, h⟩ | ⟨h9, h⟩
  · refine ev_ift rfl (decide_eq_true h9) ?_
    exact em139_58 a1 a2 a3 a4 s0 x _ h
  · refine ev_iff rfl (decide_eq_false h9) ?_
    refine ev_run (n := 3) (u' := (0, 0)) (f' := (52, [some (.ref 138), some (.int a1), some (.int a2), some (.int a3), some (.int a4), some (.int s0), none, none, none], [.int a1, .ref 158])) (h' := hp N x) rfl ?_
    obtain ⟨h7, h⟩ := cond_some h
    refine ev_iald rfl rfl h7 ?_
    rcases ite_or h with ⟨h8, h⟩ | ⟨h8, h⟩
    · refine ev_iff rfl (decide_eq_false (fun w => w h8)) ?_
      refine ev_run (n := 1) (u' := (0, 0)) (f' := (57, [some (.ref 138), some (.int a1), some (.int a2), some (.int a3), some (.int a4), some (.int s0), none, none, none], [.int 1])) (h' := hp N x) rfl ?_
      cases h
      exact ev_iret rfl rfl rfl (Or.inl rfl)
    · refine ev_ift rfl (decide_eq_true h8) ?_
      exact em139_58 a1 a2 a3 a4 s0 x _ h
def gm139 (a1 : Int32) (x : Hs) : Option (Int32 × Hs) := cond (aIn a1 5) (cond (aIn a1 5) (cond (aIn ((5 * x.1 156 (xi a1)) + a1) 20) (if x.1 148 (xi ((5 * x.1 156 (xi a1)) + a1)) = x.1 155 (xi a1) then (gm139_37 a1 (x.1 155 (xi a1)) (x.1 156 (xi a1)) ((5 * x.1 156 (xi a1)) + a1) 1 x) else (gm139_37 a1 (x.1 155 (xi a1)) (x.1 156 (xi a1)) ((5 * x.1 156 (xi a1)) + a1) 0 x)) none) none) none
theorem em139 {N : Nat} (a1 : Int32) (x : Hs) (r : Int32 × Hs) (h : gm139 a1 x = some r) : Ev 139 (0, 0) (0, aPad [.ref 138, .int a1] 9, []) (hp N x) (cvMi N r) := by
  show Ev 139 (0, 0) (0, [some (.ref 138), some (.int a1), none, none, none, none, none, none, none], []) (hp N x) _
  unfold gm139 at h
  refine ev_run (n := 3) (u' := (0, 0)) (f' := (5, [some (.ref 138), some (.int a1), none, none, none, none, none, none, none], [.int a1, .ref 155])) (h' := hp N x) rfl ?_
  obtain ⟨h1, h⟩ := cond_some h
  refine ev_iald rfl rfl h1 ?_
  refine ev_run (n := 4) (u' := (0, 0)) (f' := (12, [some (.ref 138), some (.int a1), some (.int (x.1 155 (xi a1))), none, none, none, none, none, none], [.int a1, .ref 156])) (h' := hp N x) rfl ?_
  obtain ⟨h2, h⟩ := cond_some h
  refine ev_iald rfl rfl h2 ?_
  refine ev_run (n := 10) (u' := (0, 0)) (f' := (27, [some (.ref 138), some (.int a1), some (.int (x.1 155 (xi a1))), some (.int (x.1 156 (xi a1))), some (.int ((5 * x.1 156 (xi a1)) + a1)), none, none, none, none], [.int ((5 * x.1 156 (xi a1)) + a1), .ref 148])) (h' := hp N x) rfl ?_
  obtain ⟨h3, h⟩ := cond_some h
  refine ev_iald rfl rfl h3 ?_
  refine ev_run (n := 1) (u' := (0, 0)) (f' := (29, [some (.ref 138), some (.int a1), some (.int (x.1 155 (xi a1))), some (.int (x.1 156 (xi a1))), some (.int ((5 * x.1 156 (xi a1)) + a1)), none, none, none, none], [.int (x.1 155 (xi a1)), .int (x.1 148 (xi ((5 * x.1 156 (xi a1)) + a1)))])) (h' := hp N x) rfl ?_
  rcases ite_or h with ⟨h4, h⟩ | ⟨h4, h⟩
  · refine ev_icf rfl (decide_eq_false (fun w => w h4)) ?_
    refine ev_run (n := 2) (u' := (0, 0)) (f' := (37, [some (.ref 138), some (.int a1), some (.int (x.1 155 (xi a1))), some (.int (x.1 156 (xi a1))), some (.int ((5 * x.1 156 (xi a1)) + a1)), none, none, none, none], [.int 1])) (h' := hp N x) rfl ?_
    exact em139_37 a1 (x.1 155 (xi a1)) (x.1 156 (xi a1)) ((5 * x.1 156 (xi a1)) + a1) 1 x _ h
  · refine ev_ict rfl (decide_eq_true h4) ?_
    refine ev_run (n := 1) (u' := (0, 0)) (f' := (37, [some (.ref 138), some (.int a1), some (.int (x.1 155 (xi a1))), some (.int (x.1 156 (xi a1))), some (.int ((5 * x.1 156 (xi a1)) + a1)), none, none, none, none], [.int 0])) (h' := hp N x) rfl ?_
    exact em139_37 a1 (x.1 155 (xi a1)) (x.1 156 (xi a1)) ((5 * x.1 156 (xi a1)) + a1) 0 x _ h
def gm140_190 (s1 : Int32) (s2 : Int32) (x : Hs) : Option (Int32 × Hs) := cond (aIn s1 5) (some (0, (wI x 155 (xi s1) s2))) none
theorem em140_190 {N : Nat} (a1 : Int32) (s1 : Int32) (s2 : Int32) (x : Hs) (r : Int32 × Hs) (h : gm140_190 s1 s2 x = some r) : Ev 140 (0, 0) (190, [some (.ref 138), some (.int a1), none, none, none], [.int s2, .int s1, .ref 155]) (hp N x) (cvMi N r) := by
  unfold gm140_190 at h
  obtain ⟨h40, h⟩ := cond_some h
  refine ev_iast rfl rfl h40 ?_
  show Ev 140 (0, 0) (191, [some (.ref 138), some (.int a1), none, none, none], []) (hp N (wI x 155 (xi s1) s2)) _
  refine ev_run (n := 2) (u' := (0, 0)) (f' := (240, [none, none, none, none, none], [.int 0])) (h' := hp N (wI x 155 (xi s1) s2)) rfl ?_
  cases h
  exact ev_iret rfl rfl rfl (Or.inl rfl)
theorem em140_190_k1 {N : Nat} (s1 : Int32) (s2 : Int32) (x : Hs) (r : Int32 × Hs) (h : gm140_190 s1 s2 x = some r) : Ev 140 (0, 0) (190, [none, none, none, none, none], [.int s2, .int s1, .ref 155]) (hp N x) (cvMi N r) := by
  unfold gm140_190 at h
  obtain ⟨h41, h⟩ := cond_some h
  refine ev_iast rfl rfl h41 ?_
  show Ev 140 (0, 0) (191, [none, none, none, none, none], []) (hp N (wI x 155 (xi s1) s2)) _
  refine ev_run (n := 2) (u' := (0, 0)) (f' := (240, [none, none, none, none, none], [.int 0])) (h' := hp N (wI x 155 (xi s1) s2)) rfl ?_
  cases h
  exact ev_iret rfl rfl rfl (Or.inl rfl)
def gm140_91 (a1 : Int32) (a4 : Int32) (s1 : Int32) (s2 : Int32) (s3 : Int32) (x : Hs) : Option (Int32 × Hs) := cond (aIn s1 5) (cond (aIn a4 20) (cond (aIn a1 5) (if (wI x 158 (xi s1) (s2 - s3)).1 148 (xi a4) = (wI x 158 (xi s1) (s2 - s3)).1 155 (xi a1) then (cond (aIn a4 20) (cond (aIn a4 20) (cond (aIn a1 5) (cond (aIn a4 20) (cond (aIn a4 20) (cond (aIn a4 20) (cond (aIn a1 5) (cond (aIn a1 5) (cond (aIn a1 5) (if (wI (wI (wI (wI (wI (wI x 158 (xi s1) (s2 - s3)) 149 (xi a4) ((wI x 158 (xi s1) (s2 - s3)).1 147 (xi a4))) 147 (xi a4) ((wI (wI x 158 (xi s1) (s2 - s3)) 149 (xi a4) ((wI x 158 (xi s1) (s2 - s3)).1 147 (xi a4))).1 155 (xi a1))) 148 (xi a4) (-1)) 150 (xi a4) ((wI (wI (wI (wI x 158 (xi s1) (s2 - s3)) 149 (xi a4) ((wI x 158 (xi s1) (s2 - s3)).1 147 (xi a4))) 147 (xi a4) ((wI (wI x 158 (xi s1) (s2 - s3)) 149 (xi a4) ((wI x 158 (xi s1) (s2 - s3)).1 147 (xi a4))).1 155 (xi a1))) 148 (xi a4) (-1)).1 138 0)) 156 (xi a1) ((wI (wI (wI (wI (wI x 158 (xi s1) (s2 - s3)) 149 (xi a4) ((wI x 158 (xi s1) (s2 - s3)).1 147 (xi a4))) 147 (xi a4) ((wI (wI x 158 (xi s1) (s2 - s3)) 149 (xi a4) ((wI x 158 (xi s1) (s2 - s3)).1 147 (xi a4))).1 155 (xi a1))) 148 (xi a4) (-1)) 150 (xi a4) ((wI (wI (wI (wI x 158 (xi s1) (s2 - s3)) 149 (xi a4) ((wI x 158 (xi s1) (s2 - s3)).1 147 (xi a4))) 147 (xi a4) ((wI (wI x 158 (xi s1) (s2 - s3)) 149 (xi a4) ((wI x 158 (xi s1) (s2 - s3)).1 147 (xi a4))).1 155 (xi a1))) 148 (xi a4) (-1)).1 138 0)).1 156 (xi a1) + 1)).1 156 (xi a1) = 4 then (gm140_190 a1 (-1) (wI (wI (wI (wI (wI (wI x 158 (xi s1) (s2 - s3)) 149 (xi a4) ((wI x 158 (xi s1) (s2 - s3)).1 147 (xi a4))) 147 (xi a4) ((wI (wI x 158 (xi s1) (s2 - s3)) 149 (xi a4) ((wI x 158 (xi s1) (s2 - s3)).1 147 (xi a4))).1 155 (xi a1))) 148 (xi a4) (-1)) 150 (xi a4) ((wI (wI (wI (wI x 158 (xi s1) (s2 - s3)) 149 (xi a4) ((wI x 158 (xi s1) (s2 - s3)).1 147 (xi a4))) 147 (xi a4) ((wI (wI x 158 (xi s1) (s2 - s3)) 149 (xi a4) ((wI x 158 (xi s1) (s2 - s3)).1 147 (xi a4))).1 155 (xi a1))) 148 (xi a4) (-1)).1 138 0)) 156 (xi a1) ((wI (wI (wI (wI (wI x 158 (xi s1) (s2 - s3)) 149 (xi a4) ((wI x 158 (xi s1) (s2 - s3)).1 147 (xi a4))) 147 (xi a4) ((wI (wI x 158 (xi s1) (s2 - s3)) 149 (xi a4) ((wI x 158 (xi s1) (s2 - s3)).1 147 (xi a4))).1 155 (xi a1))) 148 (xi a4) (-1)) 150 (xi a4) ((wI (wI (wI (wI x 158 (xi s1) (s2 - s3)) 149 (xi a4) ((wI x 158 (xi s1) (s2 - s3)).1 147 (xi a4))) 147 (xi a4) ((wI (wI x 158 (xi s1) (s2 - s3)) 149 (xi a4) ((wI x 158 (xi s1) (s2 - s3)).1 147 (xi a4))).1 155 (xi a1))) 148 (xi a4) (-1)).1 138 0)).1 156 (xi a1) + 1))) else (cond (aIn a1 5) (gm140_190 a1 ((wI (wI (wI (wI (wI (wI x 158 (xi s1) (s2 - s3)) 149 (xi a4) ((wI x 158 (xi s1) (s2 - s3)).1 147 (xi a4))) 147 (xi a4) ((wI (wI x 158 (xi s1) (s2 - s3)) 149 (xi a4) ((wI x 158 (xi s1) (s2 - s3)).1 147 (xi a4))).1 155 (xi a1))) 148 (xi a4) (-1)) 150 (xi a4) ((wI (wI (wI (wI x 158 (xi s1) (s2 - s3)) 149 (xi a4) ((wI x 158 (xi s1) (s2 - s3)).1 147 (xi a4))) 147 (xi a4) ((wI (wI x 158 (xi s1) (s2 - s3)) 149 (xi a4) ((wI x 158 (xi s1) (s2 - s3)).1 147 (xi a4))).1 155 (xi a1))) 148 (xi a4) (-1)).1 138 0)) 156 (xi a1) ((wI (wI (wI (wI (wI x 158 (xi s1) (s2 - s3)) 149 (xi a4) ((wI x 158 (xi s1) (s2 - s3)).1 147 (xi a4))) 147 (xi a4) ((wI (wI x 158 (xi s1) (s2 - s3)) 149 (xi a4) ((wI x 158 (xi s1) (s2 - s3)).1 147 (xi a4))).1 155 (xi a1))) 148 (xi a4) (-1)) 150 (xi a4) ((wI (wI (wI (wI x 158 (xi s1) (s2 - s3)) 149 (xi a4) ((wI x 158 (xi s1) (s2 - s3)).1 147 (xi a4))) 147 (xi a4) ((wI (wI x 158 (xi s1) (s2 - s3)) 149 (xi a4) ((wI x 158 (xi s1) (s2 - s3)).1 147 (xi a4))).1 155 (xi a1))) 148 (xi a4) (-1)).1 138 0)).1 156 (xi a1) + 1)).1 155 (xi a1)) (wI (wI (wI (wI (wI (wI x 158 (xi s1) (s2 - s3)) 149 (xi a4) ((wI x 158 (xi s1) (s2 - s3)).1 147 (xi a4))) 147 (xi a4) ((wI (wI x 158 (xi s1) (s2 - s3)) 149 (xi a4) ((wI x 158 (xi s1) (s2 - s3)).1 147 (xi a4))).1 155 (xi a1))) 148 (xi a4) (-1)) 150 (xi a4) ((wI (wI (wI (wI x 158 (xi s1) (s2 - s3)) 149 (xi a4) ((wI x 158 (xi s1) (s2 - s3)).1 147 (xi a4))) 147 (xi a4) ((wI (wI x 158 (xi s1) (s2 - s3)) 149 (xi a4) ((wI x 158 (xi s1) (s2 - s3)).1 147 (xi a4))).1 155 (xi a1))) 148 (xi a4) (-1)).1 138 0)) 156 (xi a1) ((wI (wI (wI (wI (wI x 158 (xi s1) (s2 - s3)) 149 (xi a4) ((wI x 158 (xi s1) (s2 - s3)).1 147 (xi a4))) 147 (xi a4) ((wI (wI x 158 (xi s1) (s2 - s3)) 149 (xi a4) ((wI x 158 (xi s1) (s2 - s3)).1 147 (xi a4))).1 155 (xi a1))) 148 (xi a4) (-1)) 150 (xi a4) ((wI (wI (wI (wI x 158 (xi s1) (s2 - s3)) 149 (xi a4) ((wI x 158 (xi s1) (s2 - s3)).1 147 (xi a4))) 147 (xi a4) ((wI (wI x 158 (xi s1) (s2 - s3)) 149 (xi a4) ((wI x 158 (xi s1) (s2 - s3)).1 147 (xi a4))).1 155 (xi a1))) 148 (xi a4) (-1)).1 138 0)).1 156 (xi a1) + 1))) none)) none) none) none) none) none) none) none) none) none) else (cond (aIn a1 5) (cond (aIn a4 20) (cond (aIn a4 20) (cond (aIn a4 20) (cond (aIn a4 20) (cond (aIn a4 20) (some (0, (wI (wI (wI (wI (wI (wI x 158 (xi s1) (s2 - s3)) 148 (xi a4) ((wI x 158 (xi s1) (s2 - s3)).1 155 (xi a1))) 151 (xi a4) 0) 152 (xi a4) 0) 153 (xi a4) 0) 154 (xi a4) 0))) none) none) none) none) none) none)) none) none) none
theorem em140_91 {N : Nat} (a1 : Int32) (a4 : Int32) (s1 : Int32) (s2 : Int32) (s3 : Int32) (x : Hs) (r : Int32 × Hs) (h : gm140_91 a1 a4 s1 s2 s3 x = some r) : Ev 140 (0, 0) (91, [some (.ref 138), some (.int a1), none, none, some (.int a4)], [.int s3, .int s2, .int s1, .ref 158]) (hp N x) (cvMi N r) := by
  unfold gm140_91 at h
  refine ev_run (n := 1) (u' := (0, 0)) (f' := (92, [some (.ref 138), some (.int a1), none, none, some (.int a4)], [.int (s2 - s3), .int s1, .ref 158])) (h' := hp N x) rfl ?_
  obtain ⟨h19, h⟩ := cond_some h
  refine ev_iast rfl rfl h19 ?_
  show Ev 140 (0, 0) (93, [some (.ref 138), some (.int a1), none, none, some (.int a4)], []) (hp N (wI x 158 (xi s1) (s2 - s3))) _
  refine ev_run (n := 3) (u' := (0, 0)) (f' := (99, [some (.ref 138), some (.int a1), none, none, some (.int a4)], [.int a4, .ref 148])) (h' := hp N (wI x 158 (xi s1) (s2 - s3))) rfl ?_
  obtain ⟨h20, h⟩ := cond_some h
  refine ev_iald rfl rfl h20 ?_
  refine ev_run (n := 3) (u' := (0, 0)) (f' := (105, [some (.ref 138), some (.int a1), none, none, some (.int a4)], [.int a1, .ref 155, .int ((wI x 158 (xi s1) (s2 - s3)).1 148 (xi a4))])) (h' := hp N (wI x 158 (xi s1) (s2 - s3))) rfl ?_
  obtain ⟨h21, h⟩ := cond_some h
  refine ev_iald rfl rfl h21 ?_
  rcases ite_or h with ⟨h39, h⟩ | ⟨h39, h⟩
  · refine ev_icf rfl (decide_eq_false (fun w => w h39)) ?_
    refine ev_run (n := 6) (u' := (0, 0)) (f' := (121, [some (.ref 138), some (.int a1), none, none, some (.int a4)], [.int a4, .ref 147, .int a4, .ref 149])) (h' := hp N (wI x 158 (xi s1) (s2 - s3))) rfl ?_
    obtain ⟨h28, h⟩ := cond_some h
    refine ev_iald rfl rfl h28 ?_
    obtain ⟨h29, h⟩ := cond_some h
    refine ev_iast rfl rfl h29 ?_
    show Ev 140 (0, 0) (123, [some (.ref 138), some (.int a1), none, none, some (.int a4)], []) (hp N (wI (wI x 158 (xi s1) (s2 - s3)) 149 (xi a4) ((wI x 158 (xi s1) (s2 - s3)).1 147 (xi a4)))) _
    refine ev_run (n := 6) (u' := (0, 0)) (f' := (134, [some (.ref 138), some (.int a1), none, none, some (.int a4)], [.int a1, .ref 155, .int a4, .ref 147])) (h' := hp N (wI (wI x 158 (xi s1) (s2 - s3)) 149 (xi a4) ((wI x 158 (xi s1) (s2 - s3)).1 147 (xi a4)))) rfl ?_
    obtain ⟨h30, h⟩ := cond_some h
    refine ev_iald rfl rfl h30 ?_
    obtain ⟨h31, h⟩ := cond_some h
    refine ev_iast rfl rfl h31 ?_
    show Ev 140 (0, 0) (136, [some (.ref 138), some (.int a1), none, none, some (.int a4)], []) (hp N (wI (wI (wI x 158 (xi s1) (s2 - s3)) 149 (xi a4) ((wI x 158 (xi s1) (s2 - s3)).1 147 (xi a4))) 147 (xi a4) ((wI (wI x 158 (xi s1) (s2 - s3)) 149 (xi a4) ((wI x 158 (xi s1) (s2 - s3)).1 147 (xi a4))).1 155 (xi a1)))) _
    refine ev_run (n := 4) (u' := (0, 0)) (f' := (143, [some (.ref 138), some (.int a1), none, none, some (.int a4)], [.int (-1), .int a4, .ref 148])) (h' := hp N (wI (wI (wI x 158 (xi s1) (s2 - s3)) 149 (xi a4) ((wI x 158 (xi s1) (s2 - s3)).1 147 (xi a4))) 147 (xi a4) ((wI (wI x 158 (xi s1) (s2 - s3)) 149 (xi a4) ((wI x 158 (xi s1) (s2 - s3)).1 147 (xi a4))).1 155 (xi a1)))) rfl ?_
    obtain ⟨h32, h⟩ := cond_some h
    refine ev_iast rfl rfl h32 ?_
    show Ev 140 (0, 0) (144, [some (.ref 138), some (.int a1), none, none, some (.int a4)], []) (hp N (wI (wI (wI (wI x 158 (xi s1) (s2 - s3)) 149 (xi a4) ((wI x 158 (xi s1) (s2 - s3)).1 147 (xi a4))) 147 (xi a4) ((wI (wI x 158 (xi s1) (s2 - s3)) 149 (xi a4) ((wI x 158 (xi s1) (s2 - s3)).1 147 (xi a4))).1 155 (xi a1))) 148 (xi a4) (-1))) _
    refine ev_run (n := 5) (u' := (0, 0)) (f' := (154, [some (.ref 138), some (.int a1), none, none, some (.int a4)], [.int ((wI (wI (wI (wI x 158 (xi s1) (s2 - s3)) 149 (xi a4) ((wI x 158 (xi s1) (s2 - s3)).1 147 (xi a4))) 147 (xi a4) ((wI (wI x 158 (xi s1) (s2 - s3)) 149 (xi a4) ((wI x 158 (xi s1) (s2 - s3)).1 147 (xi a4))).1 155 (xi a1))) 148 (xi a4) (-1)).1 138 0), .int a4, .ref 150])) (h' := hp N (wI (wI (wI (wI x 158 (xi s1) (s2 - s3)) 149 (xi a4) ((wI x 158 (xi s1) (s2 - s3)).1 147 (xi a4))) 147 (xi a4) ((wI (wI x 158 (xi s1) (s2 - s3)) 149 (xi a4) ((wI x 158 (xi s1) (s2 - s3)).1 147 (xi a4))).1 155 (xi a1))) 148 (xi a4) (-1))) rfl ?_
    obtain ⟨h33, h⟩ := cond_some h
    refine ev_iast rfl rfl h33 ?_
    show Ev 140 (0, 0) (155, [some (.ref 138), some (.int a1), none, none, some (.int a4)], []) (hp N (wI (wI (wI (wI (wI x 158 (xi s1) (s2 - s3)) 149 (xi a4) ((wI x 158 (xi s1) (s2 - s3)).1 147 (xi a4))) 147 (xi a4) ((wI (wI x 158 (xi s1) (s2 - s3)) 149 (xi a4) ((wI x 158 (xi s1) (s2 - s3)).1 147 (xi a4))).1 155 (xi a1))) 148 (xi a4) (-1)) 150 (xi a4) ((wI (wI (wI (wI x 158 (xi s1) (s2 - s3)) 149 (xi a4) ((wI x 158 (xi s1) (s2 - s3)).1 147 (xi a4))) 147 (xi a4) ((wI (wI x 158 (xi s1) (s2 - s3)) 149 (xi a4) ((wI x 158 (xi s1) (s2 - s3)).1 147 (xi a4))).1 155 (xi a1))) 148 (xi a4) (-1)).1 138 0))) _
    refine ev_run (n := 4) (u' := (0, 0)) (f' := (161, [some (.ref 138), some (.int a1), none, none, some (.int a4)], [.int a1, .ref 156, .int a1, .ref 156])) (h' := hp N (wI (wI (wI (wI (wI x 158 (xi s1) (s2 - s3)) 149 (xi a4) ((wI x 158 (xi s1) (s2 - s3)).1 147 (xi a4))) 147 (xi a4) ((wI (wI x 158 (xi s1) (s2 - s3)) 149 (xi a4) ((wI x 158 (xi s1) (s2 - s3)).1 147 (xi a4))).1 155 (xi a1))) 148 (xi a4) (-1)) 150 (xi a4) ((wI (wI (wI (wI x 158 (xi s1) (s2 - s3)) 149 (xi a4) ((wI x 158 (xi s1) (s2 - s3)).1 147 (xi a4))) 147 (xi a4) ((wI (wI x 158 (xi s1) (s2 - s3)) 149 (xi a4) ((wI x 158 (xi s1) (s2 - s3)).1 147 (xi a4))).1 155 (xi a1))) 148 (xi a4) (-1)).1 138 0))) rfl ?_
    obtain ⟨h34, h⟩ := cond_some h
    refine ev_iald rfl rfl h34 ?_
    refine ev_run (n := 2) (u' := (0, 0)) (f' := (164, [some (.ref 138), some (.int a1), none, none, some (.int a4)], [.int ((wI (wI (wI (wI (wI x 158 (xi s1) (s2 - s3)) 149 (xi a4) ((wI x 158 (xi s1) (s2 - s3)).1 147 (xi a4))) 147 (xi a4) ((wI (wI x 158 (xi s1) (s2 - s3)) 149 (xi a4) ((wI x 158 (xi s1) (s2 - s3)).1 147 (xi a4))).1 155 (xi a1))) 148 (xi a4) (-1)) 150 (xi a4) ((wI (wI (wI (wI x 158 (xi s1) (s2 - s3)) 149 (xi a4) ((wI x 158 (xi s1) (s2 - s3)).1 147 (xi a4))) 147 (xi a4) ((wI (wI x 158 (xi s1) (s2 - s3)) 149 (xi a4) ((wI x 158 (xi s1) (s2 - s3)).1 147 (xi a4))).1 155 (xi a1))) 148 (xi a4) (-1)).1 138 0)).1 156 (xi a1) + 1), .int a1, .ref 156])) (h' := hp N (wI (wI (wI (wI (wI x 158 (xi s1) (s2 - s3)) 149 (xi a4) ((wI x 158 (xi s1) (s2 - s3)).1 147 (xi a4))) 147 (xi a4) ((wI (wI x 158 (xi s1) (s2 - s3)) 149 (xi a4) ((wI x 158 (xi s1) (s2 - s3)).1 147 (xi a4))).1 155 (xi a1))) 148 (xi a4) (-1)) 150 (xi a4) ((wI (wI (wI (wI x 158 (xi s1) (s2 - s3)) 149 (xi a4) ((wI x 158 (xi s1) (s2 - s3)).1 147 (xi a4))) 147 (xi a4) ((wI (wI x 158 (xi s1) (s2 - s3)) 149 (xi a4) ((wI x 158 (xi s1) (s2 - s3)).1 147 (xi a4))).1 155 (xi a1))) 148 (xi a4) (-1)).1 138 0))) rfl ?_
    obtain ⟨h35, h⟩ := cond_some h
    refine ev_iast rfl rfl h35 ?_
    show Ev 140 (0, 0) (165, [some (.ref 138), some (.int a1), none, none, some (.int a4)], []) (hp N (wI (wI (wI (wI (wI (wI x 158 (xi s1) (s2 - s3)) 149 (xi a4) ((wI x 158 (xi s1) (s2 - s3)).1 147 (xi a4))) 147 (xi a4) ((wI (wI x 158 (xi s1) (s2 - s3)) 149 (xi a4) ((wI x 158 (xi s1) (s2 - s3)).1 147 (xi a4))).1 155 (xi a1))) 148 (xi a4) (-1)) 150 (xi a4) ((wI (wI (wI (wI x 158 (xi s1) (s2 - s3)) 149 (xi a4) ((wI x 158 (xi s1) (s2 - s3)).1 147 (xi a4))) 147 (xi a4) ((wI (wI x 158 (xi s1) (s2 - s3)) 149 (xi a4) ((wI x 158 (xi s1) (s2 - s3)).1 147 (xi a4))).1 155 (xi a1))) 148 (xi a4) (-1)).1 138 0)) 156 (xi a1) ((wI (wI (wI (wI (wI x 158 (xi s1) (s2 - s3)) 149 (xi a4) ((wI x 158 (xi s1) (s2 - s3)).1 147 (xi a4))) 147 (xi a4) ((wI (wI x 158 (xi s1) (s2 - s3)) 149 (xi a4) ((wI x 158 (xi s1) (s2 - s3)).1 147 (xi a4))).1 155 (xi a1))) 148 (xi a4) (-1)) 150 (xi a4) ((wI (wI (wI (wI x 158 (xi s1) (s2 - s3)) 149 (xi a4) ((wI x 158 (xi s1) (s2 - s3)).1 147 (xi a4))) 147 (xi a4) ((wI (wI x 158 (xi s1) (s2 - s3)) 149 (xi a4) ((wI x 158 (xi s1) (s2 - s3)).1 147 (xi a4))).1 155 (xi a1))) 148 (xi a4) (-1)).1 138 0)).1 156 (xi a1) + 1))) _
    refine ev_run (n := 6) (u' := (0, 0)) (f' := (175, [some (.ref 138), some (.int a1), none, none, some (.int a4)], [.int a1, .ref 156, .int a1, .ref 155])) (h' := hp N (wI (wI (wI (wI (wI (wI x 158 (xi s1) (s2 - s3)) 149 (xi a4) ((wI x 158 (xi s1) (s2 - s3)).1 147 (xi a4))) 147 (xi a4) ((wI (wI x 158 (xi s1) (s2 - s3)) 149 (xi a4) ((wI x 158 (xi s1) (s2 - s3)).1 147 (xi a4))).1 155 (xi a1))) 148 (xi a4) (-1)) 150 (xi a4) ((wI (wI (wI (wI x 158 (xi s1) (s2 - s3)) 149 (xi a4) ((wI x 158 (xi s1) (s2 - s3)).1 147 (xi a4))) 147 (xi a4) ((wI (wI x 158 (xi s1) (s2 - s3)) 149 (xi a4) ((wI x 158 (xi s1) (s2 - s3)).1 147 (xi a4))).1 155 (xi a1))) 148 (xi a4) (-1)).1 138 0)) 156 (xi a1) ((wI (wI (wI (wI (wI x 158 (xi s1) (s2 - s3)) 149 (xi a4) ((wI x 158 (xi s1) (s2 - s3)).1 147 (xi a4))) 147 (xi a4) ((wI (wI x 158 (xi s1) (s2 - s3)) 149 (xi a4) ((wI x 158 (xi s1) (s2 - s3)).1 147 (xi a4))).1 155 (xi a1))) 148 (xi a4) (-1)) 150 (xi a4) ((wI (wI (wI (wI x 158 (xi s1) (s2 - s3)) 149 (xi a4) ((wI x 158 (xi s1) (s2 - s3)).1 147 (xi a4))) 147 (xi a4) ((wI (wI x 158 (xi s1) (s2 - s3)) 149 (xi a4) ((wI x 158 (xi s1) (s2 - s3)).1 147 (xi a4))).1 155 (xi a1))) 148 (xi a4) (-1)).1 138 0)).1 156 (xi a1) + 1))) rfl ?_
    obtain ⟨h36, h⟩ := cond_some h
    refine ev_iald rfl rfl h36 ?_
    refine ev_run (n := 1) (u' := (0, 0)) (f' := (177, [some (.ref 138), some (.int a1), none, none, some (.int a4)], [.int 4, .int ((wI (wI (wI (wI (wI (wI x 158 (xi s1) (s2 - s3)) 149 (xi a4) ((wI x 158 (xi s1) (s2 - s3)).1 147 (xi a4))) 147 (xi a4) ((wI (wI x 158 (xi s1) (s2 - s3)) 149 (xi a4) ((wI x 158 (xi s1) (s2 - s3)).1 147 (xi a4))).1 155 (xi a1))) 148 (xi a4) (-1)) 150 (xi a4) ((wI (wI (wI (wI x 158 (xi s1) (s2 - s3)) 149 (xi a4) ((wI x 158 (xi s1) (s2 - s3)).1 147 (xi a4))) 147 (xi a4) ((wI (wI x 158 (xi s1) (s2 - s3)) 149 (xi a4) ((wI x 158 (xi s1) (s2 - s3)).1 147 (xi a4))).1 155 (xi a1))) 148 (xi a4) (-1)).1 138 0)) 156 (xi a1) ((wI (wI (wI (wI (wI x 158 (xi s1) (s2 - s3)) 149 (xi a4) ((wI x 158 (xi s1) (s2 - s3)).1 147 (xi a4))) 147 (xi a4) ((wI (wI x 158 (xi s1) (s2 - s3)) 149 (xi a4) ((wI x 158 (xi s1) (s2 - s3)).1 147 (xi a4))).1 155 (xi a1))) 148 (xi a4) (-1)) 150 (xi a4) ((wI (wI (wI (wI x 158 (xi s1) (s2 - s3)) 149 (xi a4) ((wI x 158 (xi s1) (s2 - s3)).1 147 (xi a4))) 147 (xi a4) ((wI (wI x 158 (xi s1) (s2 - s3)) 149 (xi a4) ((wI x 158 (xi s1) (s2 - s3)).1 147 (xi a4))).1 155 (xi a1))) 148 (xi a4) (-1)).1 138 0)).1 156 (xi a1) + 1)).1 156 (xi a1)), .int a1, .ref 155])) (h' := hp N (wI (wI (wI (wI (wI (wI x 158 (xi s1) (s2 - s3)) 149 (xi a4) ((wI x 158 (xi s1) (s2 - s3)).1 147 (xi a4))) 147 (xi a4) ((wI (wI x 158 (xi s1) (s2 - s3)) 149 (xi a4) ((wI x 158 (xi s1) (s2 - s3)).1 147 (xi a4))).1 155 (xi a1))) 148 (xi a4) (-1)) 150 (xi a4) ((wI (wI (wI (wI x 158 (xi s1) (s2 - s3)) 149 (xi a4) ((wI x 158 (xi s1) (s2 - s3)).1 147 (xi a4))) 147 (xi a4) ((wI (wI x 158 (xi s1) (s2 - s3)) 149 (xi a4) ((wI x 158 (xi s1) (s2 - s3)).1 147 (xi a4))).1 155 (xi a1))) 148 (xi a4) (-1)).1 138 0)) 156 (xi a1) ((wI (wI (wI (wI (wI x 158 (xi s1) (s2 - s3)) 149 (xi a4) ((wI x 158 (xi s1) (s2 - s3)).1 147 (xi a4))) 147 (xi a4) ((wI (wI x 158 (xi s1) (s2 - s3)) 149 (xi a4) ((wI x 158 (xi s1) (s2 - s3)).1 147 (xi a4))).1 155 (xi a1))) 148 (xi a4) (-1)) 150 (xi a4) ((wI (wI (wI (wI x 158 (xi s1) (s2 - s3)) 149 (xi a4) ((wI x 158 (xi s1) (s2 - s3)).1 147 (xi a4))) 147 (xi a4) ((wI (wI x 158 (xi s1) (s2 - s3)) 149 (xi a4) ((wI x 158 (xi s1) (s2 - s3)).1 147 (xi a4))).1 155 (xi a1))) 148 (xi a4) (-1)).1 138 0)).1 156 (xi a1) + 1))) rfl ?_
    rcases ite_or h with ⟨h38, h⟩ | ⟨h38, h⟩
    · refine ev_icf rfl (decide_eq_false (fun w => w h38)) ?_
      refine ev_run (n := 2) (u' := (0, 0)) (f' := (190, [none, none, none, none, none], [.int (-1), .int a1, .ref 155])) (h' := hp N (wI (wI (wI (wI (wI (wI x 158 (xi s1) (s2 - s3)) 149 (xi a4) ((wI x 158 (xi s1) (s2 - s3)).1 147 (xi a4))) 147 (xi a4) ((wI (wI x 158 (xi s1) (s2 - s3)) 149 (xi a4) ((wI x 158 (xi s1) (s2 - s3)).1 147 (xi a4))).1 155 (xi a1))) 148 (xi a4) (-1)) 150 (xi a4) ((wI (wI (wI (wI x 158 (xi s1) (s2 - s3)) 149 (xi a4) ((wI x 158 (xi s1) (s2 - s3)).1 147 (xi a4))) 147 (xi a4) ((wI (wI x 158 (xi s1) (s2 - s3)) 149 (xi a4) ((wI x 158 (xi s1) (s2 - s3)).1 147 (xi a4))).1 155 (xi a1))) 148 (xi a4) (-1)).1 138 0)) 156 (xi a1) ((wI (wI (wI (wI (wI x 158 (xi s1) (s2 - s3)) 149 (xi a4) ((wI x 158 (xi s1) (s2 - s3)).1 147 (xi a4))) 147 (xi a4) ((wI (wI x 158 (xi s1) (s2 - s3)) 149 (xi a4) ((wI x 158 (xi s1) (s2 - s3)).1 147 (xi a4))).1 155 (xi a1))) 148 (xi a4) (-1)) 150 (xi a4) ((wI (wI (wI (wI x 158 (xi s1) (s2 - s3)) 149 (xi a4) ((wI x 158 (xi s1) (s2 - s3)).1 147 (xi a4))) 147 (xi a4) ((wI (wI x 158 (xi s1) (s2 - s3)) 149 (xi a4) ((wI x 158 (xi s1) (s2 - s3)).1 147 (xi a4))).1 155 (xi a1))) 148 (xi a4) (-1)).1 138 0)).1 156 (xi a1) + 1))) rfl ?_
      exact em140_190_k1 a1 (-1) (wI (wI (wI (wI (wI (wI x 158 (xi s1) (s2 - s3)) 149 (xi a4) ((wI x 158 (xi s1) (s2 - s3)).1 147 (xi a4))) 147 (xi a4) ((wI (wI x 158 (xi s1) (s2 - s3)) 149 (xi a4) ((wI x 158 (xi s1) (s2 - s3)).1 147 (xi a4))).1 155 (xi a1))) 148 (xi a4) (-1)) 150 (xi a4) ((wI (wI (wI (wI x 158 (xi s1) (s2 - s3)) 149 (xi a4) ((wI x 158 (xi s1) (s2 - s3)).1 147 (xi a4))) 147 (xi a4) ((wI (wI x 158 (xi s1) (s2 - s3)) 149 (xi a4) ((wI x 158 (xi s1) (s2 - s3)).1 147 (xi a4))).1 155 (xi a1))) 148 (xi a4) (-1)).1 138 0)) 156 (xi a1) ((wI (wI (wI (wI (wI x 158 (xi s1) (s2 - s3)) 149 (xi a4) ((wI x 158 (xi s1) (s2 - s3)).1 147 (xi a4))) 147 (xi a4) ((wI (wI x 158 (xi s1) (s2 - s3)) 149 (xi a4) ((wI x 158 (xi s1) (s2 - s3)).1 147 (xi a4))).1 155 (xi a1))) 148 (xi a4) (-1)) 150 (xi a4) ((wI (wI (wI (wI x 158 (xi s1) (s2 - s3)) 149 (xi a4) ((wI x 158 (xi s1) (s2 - s3)).1 147 (xi a4))) 147 (xi a4) ((wI (wI x 158 (xi s1) (s2 - s3)) 149 (xi a4) ((wI x 158 (xi s1) (s2 - s3)).1 147 (xi a4))).1 155 (xi a1))) 148 (xi a4) (-1)).1 138 0)).1 156 (xi a1) + 1)) _ h
    · refine ev_ict rfl (decide_eq_true h38) ?_
      refine ev_run (n := 3) (u' := (0, 0)) (f' := (189, [some (.ref 138), some (.int a1), none, none, none], [.int a1, .ref 155, .int a1, .ref 155])) (h' := hp N (wI (wI (wI (wI (wI (wI x 158 (xi s1) (s2 - s3)) 149 (xi a4) ((wI x 158 (xi s1) (s2 - s3)).1 147 (xi a4))) 147 (xi a4) ((wI (wI x 158 (xi s1) (s2 - s3)) 149 (xi a4) ((wI x 158 (xi s1) (s2 - s3)).1 147 (xi a4))).1 155 (xi a1))) 148 (xi a4) (-1)) 150 (xi a4) ((wI (wI (wI (wI x 158 (xi s1) (s2 - s3)) 149 (xi a4) ((wI x 158 (xi s1) (s2 - s3)).1 147 (xi a4))) 147 (xi a4) ((wI (wI x 158 (xi s1) (s2 - s3)) 149 (xi a4) ((wI x 158 (xi s1) (s2 - s3)).1 147 (xi a4))).1 155 (xi a1))) 148 (xi a4) (-1)).1 138 0)) 156 (xi a1) ((wI (wI (wI (wI (wI x 158 (xi s1) (s2 - s3)) 149 (xi a4) ((wI x 158 (xi s1) (s2 - s3)).1 147 (xi a4))) 147 (xi a4) ((wI (wI x 158 (xi s1) (s2 - s3)) 149 (xi a4) ((wI x 158 (xi s1) (s2 - s3)).1 147 (xi a4))).1 155 (xi a1))) 148 (xi a4) (-1)) 150 (xi a4) ((wI (wI (wI (wI x 158 (xi s1) (s2 - s3)) 149 (xi a4) ((wI x 158 (xi s1) (s2 - s3)).1 147 (xi a4))) 147 (xi a4) ((wI (wI x 158 (xi s1) (s2 - s3)) 149 (xi a4) ((wI x 158 (xi s1) (s2 - s3)).1 147 (xi a4))).1 155 (xi a1))) 148 (xi a4) (-1)).1 138 0)).1 156 (xi a1) + 1))) rfl ?_
      obtain ⟨h37, h⟩ := cond_some h
      refine ev_iald rfl rfl h37 ?_
      exact em140_190 a1 a1 ((wI (wI (wI (wI (wI (wI x 158 (xi s1) (s2 - s3)) 149 (xi a4) ((wI x 158 (xi s1) (s2 - s3)).1 147 (xi a4))) 147 (xi a4) ((wI (wI x 158 (xi s1) (s2 - s3)) 149 (xi a4) ((wI x 158 (xi s1) (s2 - s3)).1 147 (xi a4))).1 155 (xi a1))) 148 (xi a4) (-1)) 150 (xi a4) ((wI (wI (wI (wI x 158 (xi s1) (s2 - s3)) 149 (xi a4) ((wI x 158 (xi s1) (s2 - s3)).1 147 (xi a4))) 147 (xi a4) ((wI (wI x 158 (xi s1) (s2 - s3)) 149 (xi a4) ((wI x 158 (xi s1) (s2 - s3)).1 147 (xi a4))).1 155 (xi a1))) 148 (xi a4) (-1)).1 138 0)) 156 (xi a1) ((wI (wI (wI (wI (wI x 158 (xi s1) (s2 - s3)) 149 (xi a4) ((wI x 158 (xi s1) (s2 - s3)).1 147 (xi a4))) 147 (xi a4) ((wI (wI x 158 (xi s1) (s2 - s3)) 149 (xi a4) ((wI x 158 (xi s1) (s2 - s3)).1 147 (xi a4))).1 155 (xi a1))) 148 (xi a4) (-1)) 150 (xi a4) ((wI (wI (wI (wI x 158 (xi s1) (s2 - s3)) 149 (xi a4) ((wI x 158 (xi s1) (s2 - s3)).1 147 (xi a4))) 147 (xi a4) ((wI (wI x 158 (xi s1) (s2 - s3)) 149 (xi a4) ((wI x 158 (xi s1) (s2 - s3)).1 147 (xi a4))).1 155 (xi a1))) 148 (xi a4) (-1)).1 138 0)).1 156 (xi a1) + 1)).1 155 (xi a1)) (wI (wI (wI (wI (wI (wI x 158 (xi s1) (s2 - s3)) 149 (xi a4) ((wI x 158 (xi s1) (s2 - s3)).1 147 (xi a4))) 147 (xi a4) ((wI (wI x 158 (xi s1) (s2 - s3)) 149 (xi a4) ((wI x 158 (xi s1) (s2 - s3)).1 147 (xi a4))).1 155 (xi a1))) 148 (xi a4) (-1)) 150 (xi a4) ((wI (wI (wI (wI x 158 (xi s1) (s2 - s3)) 149 (xi a4) ((wI x 158 (xi s1) (s2 - s3)).1 147 (xi a4))) 147 (xi a4) ((wI (wI x 158 (xi s1) (s2 - s3)) 149 (xi a4) ((wI x 158 (xi s1) (s2 - s3)).1 147 (xi a4))).1 155 (xi a1))) 148 (xi a4) (-1)).1 138 0)) 156 (xi a1) ((wI (wI (wI (wI (wI x 158 (xi s1) (s2 - s3)) 149 (xi a4) ((wI x 158 (xi s1) (s2 - s3)).1 147 (xi a4))) 147 (xi a4) ((wI (wI x 158 (xi s1) (s2 - s3)) 149 (xi a4) ((wI x 158 (xi s1) (s2 - s3)).1 147 (xi a4))).1 155 (xi a1))) 148 (xi a4) (-1)) 150 (xi a4) ((wI (wI (wI (wI x 158 (xi s1) (s2 - s3)) 149 (xi a4) ((wI x 158 (xi s1) (s2 - s3)).1 147 (xi a4))) 147 (xi a4) ((wI (wI x 158 (xi s1) (s2 - s3)) 149 (xi a4) ((wI x 158 (xi s1) (s2 - s3)).1 147 (xi a4))).1 155 (xi a1))) 148 (xi a4) (-1)).1 138 0)).1 156 (xi a1) + 1)) _ h
  · refine ev_ict rfl (decide_eq_true h39) ?_
    refine ev_run (n := 6) (u' := (0, 0)) (f' := (205, [some (.ref 138), some (.int a1), none, none, some (.int a4)], [.int a1, .ref 155, .int a4, .ref 148])) (h' := hp N (wI x 158 (xi s1) (s2 - s3))) rfl ?_
    obtain ⟨h22, h⟩ := cond_some h
    refine ev_iald rfl rfl h22 ?_
    obtain ⟨h23, h⟩ := cond_some h
    refine ev_iast rfl rfl h23 ?_
    show Ev 140 (0, 0) (207, [some (.ref 138), some (.int a1), none, none, some (.int a4)], []) (hp N (wI (wI x 158 (xi s1) (s2 - s3)) 148 (xi a4) ((wI x 158 (xi s1) (s2 - s3)).1 155 (xi a1)))) _
    refine ev_run (n := 4) (u' := (0, 0)) (f' := (214, [some (.ref 138), some (.int a1), none, none, some (.int a4)], [.int 0, .int a4, .ref 151])) (h' := hp N (wI (wI x 158 (xi s1) (s2 - s3)) 148 (xi a4) ((wI x 158 (xi s1) (s2 - s3)).1 155 (xi a1)))) rfl ?_
    obtain ⟨h24, h⟩ := cond_some h
    refine ev_iast rfl rfl h24 ?_
    show Ev 140 (0, 0) (215, [some (.ref 138), some (.int a1), none, none, some (.int a4)], []) (hp N (wI (wI (wI x 158 (xi s1) (s2 - s3)) 148 (xi a4) ((wI x 158 (xi s1) (s2 - s3)).1 155 (xi a1))) 151 (xi a4) 0)) _
    refine ev_run (n := 4) (u' := (0, 0)) (f' := (222, [some (.ref 138), some (.int a1), none, none, some (.int a4)], [.int 0, .int a4, .ref 152])) (h' := hp N (wI (wI (wI x 158 (xi s1) (s2 - s3)) 148 (xi a4) ((wI x 158 (xi s1) (s2 - s3)).1 155 (xi a1))) 151 (xi a4) 0)) rfl ?_
    obtain ⟨h25, h⟩ := cond_some h
    refine ev_iast rfl rfl h25 ?_
    show Ev 140 (0, 0) (223, [some (.ref 138), some (.int a1), none, none, some (.int a4)], []) (hp N (wI (wI (wI (wI x 158 (xi s1) (s2 - s3)) 148 (xi a4) ((wI x 158 (xi s1) (s2 - s3)).1 155 (xi a1))) 151 (xi a4) 0) 152 (xi a4) 0)) _
    refine ev_run (n := 4) (u' := (0, 0)) (f' := (230, [some (.ref 138), some (.int a1), none, none, some (.int a4)], [.int 0, .int a4, .ref 153])) (h' := hp N (wI (wI (wI (wI x 158 (xi s1) (s2 - s3)) 148 (xi a4) ((wI x 158 (xi s1) (s2 - s3)).1 155 (xi a1))) 151 (xi a4) 0) 152 (xi a4) 0)) rfl ?_
    obtain ⟨h26, h⟩ := cond_some h
    refine ev_iast rfl rfl h26 ?_
    show Ev 140 (0, 0) (231, [some (.ref 138), some (.int a1), none, none, some (.int a4)], []) (hp N (wI (wI (wI (wI (wI x 158 (xi s1) (s2 - s3)) 148 (xi a4) ((wI x 158 (xi s1) (s2 - s3)).1 155 (xi a1))) 151 (xi a4) 0) 152 (xi a4) 0) 153 (xi a4) 0)) _
    refine ev_run (n := 4) (u' := (0, 0)) (f' := (238, [some (.ref 138), some (.int a1), none, none, some (.int a4)], [.int 0, .int a4, .ref 154])) (h' := hp N (wI (wI (wI (wI (wI x 158 (xi s1) (s2 - s3)) 148 (xi a4) ((wI x 158 (xi s1) (s2 - s3)).1 155 (xi a1))) 151 (xi a4) 0) 152 (xi a4) 0) 153 (xi a4) 0)) rfl ?_
    obtain ⟨h27, h⟩ := cond_some h
    refine ev_iast rfl rfl h27 ?_
    show Ev 140 (0, 0) (239, [some (.ref 138), some (.int a1), none, none, some (.int a4)], []) (hp N (wI (wI (wI (wI (wI (wI x 158 (xi s1) (s2 - s3)) 148 (xi a4) ((wI x 158 (xi s1) (s2 - s3)).1 155 (xi a1))) 151 (xi a4) 0) 152 (xi a4) 0) 153 (xi a4) 0) 154 (xi a4) 0)) _
    refine ev_run (n := 1) (u' := (0, 0)) (f' := (240, [some (.ref 138), some (.int a1), none, none, some (.int a4)], [.int 0])) (h' := hp N (wI (wI (wI (wI (wI (wI x 158 (xi s1) (s2 - s3)) 148 (xi a4) ((wI x 158 (xi s1) (s2 - s3)).1 155 (xi a1))) 151 (xi a4) 0) 152 (xi a4) 0) 153 (xi a4) 0) 154 (xi a4) 0)) rfl ?_
    cases h
    exact ev_iret rfl rfl rfl (Or.inl rfl)
def gm140_39 (a1 : Int32) (s1 : Int32) (x : Hs) : Option (Int32 × Hs) := (gm113 s1 x).bind fun w8 => (if w8.1 = 0 then ((gm139 a1 w8.2).bind fun w10 => (if w10.1 ≤ 0 then (cond (aIn a1 5) (cond (aIn a1 5) ((gm135 a1 w10.2).bind fun w14 => (if w14 = 0 then (gm140_91 a1 ((5 * w10.2.1 156 (xi a1)) + a1) a1 (w10.2.1 158 (xi a1)) 0 w10.2) else (gm140_91 a1 ((5 * w10.2.1 156 (xi a1)) + a1) a1 (w10.2.1 158 (xi a1)) 1 w10.2))) none) none) else (some (w10.1, w10.2)))) else (some (0, w8.2)))
theorem em140_39 {N : Nat} (a1 : Int32) (s1 : Int32) (x : Hs) (r : Int32 × Hs) (h : gm140_39 a1 s1 x = some r) : Ev 140 (0, 0) (39, [some (.ref 138), some (.int a1), none, none, none], [.int s1, .ref 138]) (hp N x) (cvMi N r) := by
  unfold gm140_39 at h
  obtain ⟨w8, h9, h⟩ := bind_ok h
  refine ev_call (v := some (.int w8.1)) (h1 := hp N w8.2) rfl rfl rfl rfl (em113 s1 x _ h9) ?_
  show Ev 140 (0, 0) (42, [some (.ref 138), some (.int a1), none, none, none], [.int w8.1]) (hp N w8.2) _
  rcases ite_or h with ⟨h18, h⟩ | ⟨h18, h⟩
  · refine ev_ift rfl (decide_eq_true h18) ?_
    refine ev_run (n := 2) (u' := (0, 0)) (f' := (49, [some (.ref 138), some (.int a1), none, none, none], [.int a1, .ref 138])) (h' := hp N w8.2) rfl ?_
    obtain ⟨w10, h11, h⟩ := bind_ok h
    refine ev_call (v := some (.int w10.1)) (h1 := hp N w10.2) rfl rfl rfl rfl (em139 a1 w8.2 _ h11) ?_
    show Ev 140 (0, 0) (52, [some (.ref 138), some (.int a1), none, none, none], [.int w10.1]) (hp N w10.2) _
    refine ev_run (n := 2) (u' := (0, 0)) (f' := (54, [some (.ref 138), some (.int a1), none, some (.int w10.1), none], [.int w10.1])) (h' := hp N w10.2) rfl ?_
    rcases ite_or h with ⟨h17, h⟩ | ⟨h17, h⟩
    · refine ev_ift rfl (decide_eq_true h17) ?_
      refine ev_run (n := 4) (u' := (0, 0)) (f' := (65, [some (.ref 138), some (.int a1), none, none, none], [.int a1, .ref 156, .int 5])) (h' := hp N w10.2) rfl ?_
      obtain ⟨h12, h⟩ := cond_some h
      refine ev_iald rfl rfl h12 ?_
      refine ev_run (n := 8) (u' := (0, 0)) (f' := (77, [some (.ref 138), some (.int a1), none, none, some (.int ((5 * w10.2.1 156 (xi a1)) + a1))], [.int a1, .ref 158, .int a1, .ref 158])) (h' := hp N w10.2) rfl ?_
      obtain ⟨h13, h⟩ := cond_some h
      refine ev_iald rfl rfl h13 ?_
      refine ev_run (n := 2) (u' := (0, 0)) (f' := (80, [some (.ref 138), some (.int a1), none, none, some (.int ((5 * w10.2.1 156 (xi a1)) + a1))], [.int a1, .ref 138, .int (w10.2.1 158 (xi a1)), .int a1, .ref 158])) (h' := hp N w10.2) rfl ?_
      obtain ⟨w14, h15, h⟩ := bind_ok h
      refine ev_call (v := some (.int w14)) (h1 := hp N w10.2) rfl rfl rfl rfl (em135 a1 w10.2 _ h15) ?_
      show Ev 140 (0, 0) (83, [some (.ref 138), some (.int a1), none, none, some (.int ((5 * w10.2.1 156 (xi a1)) + a1))], [.int w14, .int (w10.2.1 158 (xi a1)), .int a1, .ref 158]) (hp N w10.2) _
      rcases ite_or h with ⟨h16, h⟩ | ⟨h16, h⟩
      · refine ev_ift rfl (decide_eq_true h16) ?_
        refine ev_run (n := 1) (u' := (0, 0)) (f' := (91, [some (.ref 138), some (.int a1), none, none, some (.int ((5 * w10.2.1 156 (xi a1)) + a1))], [.int 0, .int (w10.2.1 158 (xi a1)), .int a1, .ref 158])) (h' := hp N w10.2) rfl ?_
        exact em140_91 a1 ((5 * w10.2.1 156 (xi a1)) + a1) a1 (w10.2.1 158 (xi a1)) 0 w10.2 _ h
      · refine ev_iff rfl (decide_eq_false h16) ?_
        refine ev_run (n := 2) (u' := (0, 0)) (f' := (91, [some (.ref 138), some (.int a1), none, none, some (.int ((5 * w10.2.1 156 (xi a1)) + a1))], [.int 1, .int (w10.2.1 158 (xi a1)), .int a1, .ref 158])) (h' := hp N w10.2) rfl ?_
        exact em140_91 a1 ((5 * w10.2.1 156 (xi a1)) + a1) a1 (w10.2.1 158 (xi a1)) 1 w10.2 _ h
    · refine ev_iff rfl (decide_eq_false h17) ?_
      refine ev_run (n := 1) (u' := (0, 0)) (f' := (58, [some (.ref 138), some (.int a1), none, some (.int w10.1), none], [.int w10.1])) (h' := hp N w10.2) rfl ?_
      cases h
      exact ev_iret rfl rfl rfl (Or.inl rfl)
  · refine ev_iff rfl (decide_eq_false h18) ?_
    refine ev_run (n := 1) (u' := (0, 0)) (f' := (46, [some (.ref 138), some (.int a1), none, none, none], [.int 0])) (h' := hp N w8.2) rfl ?_
    cases h
    exact ev_iret rfl rfl rfl (Or.inl rfl)
def gm140_34 (a1 : Int32) (x : Hs) : Option (Int32 × Hs) := gm140_39 a1 2 x
theorem em140_34 {N : Nat} (a1 : Int32) (x : Hs) (r : Int32 × Hs) (h : gm140_34 a1 x = some r) : Ev 140 (0, 0) (34, [some (.ref 138), some (.int a1), none, none, none], [.ref 138]) (hp N x) (cvMi N r) := by
  unfold gm140_34 at h
  refine ev_run (n := 2) (u' := (0, 0)) (f' := (39, [some (.ref 138), some (.int a1), none, none, none], [.int 2, .ref 138])) (h' := hp N x) rfl ?_
  exact em140_39 a1 2 x _ h
def gm140 (a1 : Int32) (x : Hs) : Option (Int32 × Hs) := (gm117 a1 x).bind fun w1 => (if w1 = 0 then (gm140_39 a1 1 x) else (cond (aIn a1 5) (if x.1 155 (xi a1) = (-1) then (gm140_34 a1 x) else (cond (aIn a1 5) (if x.1 157 (xi a1) = 0 then (gm140_39 a1 0 x) else (gm140_34 a1 x)) none)) none))
theorem em140 {N : Nat} (a1 : Int32) (x : Hs) (r : Int32 × Hs) (h : gm140 a1 x = some r) : Ev 140 (0, 0) (0, aPad [.ref 138, .int a1] 5, []) (hp N x) (cvMi N r) := by
  show Ev 140 (0, 0) (0, [some (.ref 138), some (.int a1), none, none, none], []) (hp N x) _
  unfold gm140 at h
  refine ev_run (n := 2) (u' := (0, 0)) (f' := (2, [some (.ref 138), some (.int a1), none, none, none], [.int a1, .ref 138])) (h' := hp N x) rfl ?_
  obtain ⟨w1, h2, h⟩ := bind_ok h
  refine ev_call (v := some (.int w1)) (h1 := hp N x) rfl rfl rfl rfl (em117 a1 x _ h2) ?_
  show Ev 140 (0, 0) (5, [some (.ref 138), some (.int a1), none, none, none], [.int w1]) (hp N x) _
  refine ev_run (n := 3) (u' := (0, 0)) (f' := (8, [some (.ref 138), some (.int a1), some (.int w1), none, none], [.int w1, .ref 138])) (h' := hp N x) rfl ?_
  rcases ite_or h with ⟨h7, h⟩ | ⟨h7, h⟩
  · refine ev_iff rfl (decide_eq_false (fun w => w h7)) ?_
    refine ev_run (n := 2) (u' := (0, 0)) (f' := (39, [some (.ref 138), some (.int a1), none, none, none], [.int 1, .ref 138])) (h' := hp N x) rfl ?_
    exact em140_39 a1 1 x _ h
  · refine ev_ift rfl (decide_eq_true h7) ?_
    refine ev_run (n := 3) (u' := (0, 0)) (f' := (20, [some (.ref 138), some (.int a1), none, none, none], [.int a1, .ref 155, .ref 138])) (h' := hp N x) rfl ?_
    obtain ⟨h3, h⟩ := cond_some h
    refine ev_iald rfl rfl h3 ?_
    refine ev_run (n := 1) (u' := (0, 0)) (f' := (22, [some (.ref 138), some (.int a1), none, none, none], [.int (-1), .int (x.1 155 (xi a1)), .ref 138])) (h' := hp N x) rfl ?_
    rcases ite_or h with ⟨h6, h⟩ | ⟨h6, h⟩
    · refine ev_ict rfl (decide_eq_true h6) ?_
      exact em140_34 a1 x _ h
    · refine ev_icf rfl (decide_eq_false h6) ?_
      refine ev_run (n := 3) (u' := (0, 0)) (f' := (30, [some (.ref 138), some (.int a1), none, none, none], [.int a1, .ref 157, .ref 138])) (h' := hp N x) rfl ?_
      obtain ⟨h4, h⟩ := cond_some h
      refine ev_bald rfl rfl h4 ?_
      rcases ite_or h with ⟨h5, h⟩ | ⟨h5, h⟩
      · refine ev_ift rfl (decide_eq_true h5) ?_
        refine ev_run (n := 1) (u' := (0, 0)) (f' := (39, [some (.ref 138), some (.int a1), none, none, none], [.int 0, .ref 138])) (h' := hp N x) rfl ?_
        exact em140_39 a1 0 x _ h
      · refine ev_iff rfl (decide_eq_false h5) ?_
        exact em140_34 a1 x _ h
def gm141_90 (k48 : Int32 → Int32 → Int32 → Hs → Option (Int32 × Hs)) (a1 : Int32) (a3 : Int32) (a4 : Int32) (s1 : Int32) (s2 : Int32) (x : Hs) : Option (Int32 × Hs) := cond (aIn s1 20) (k48 a1 a3 (a4 + 1) (wI x 148 (xi s1) s2)) none
theorem em141_90 {N : Nat} (k48 : Int32 → Int32 → Int32 → Hs → Option (Int32 × Hs)) (q48 : ∀ (a1 : Int32) (a3 : Int32) (a4 : Int32) (x : Hs) (r : Int32 × Hs), k48 a1 a3 a4 x = some r → Ev 141 (0, 0) (48, [some (.ref 138), some (.int a1), none, some (.int a3), some (.int a4), none, none, none], []) (hp N x) (cvMi N r)) (a1 : Int32) (a3 : Int32) (a4 : Int32) (a5 : Int32) (s1 : Int32) (s2 : Int32) (x : Hs) (r : Int32 × Hs) (h : gm141_90 k48 a1 a3 a4 s1 s2 x = some r) : Ev 141 (0, 0) (90, [some (.ref 138), some (.int a1), none, some (.int a3), some (.int a4), some (.int a5), none, none], [.int s2, .int s1, .ref 148]) (hp N x) (cvMi N r) := by
  unfold gm141_90 at h
  obtain ⟨h15, h⟩ := cond_some h
  refine ev_iast rfl rfl h15 ?_
  show Ev 141 (0, 0) (91, [some (.ref 138), some (.int a1), none, some (.int a3), some (.int a4), some (.int a5), none, none], []) (hp N (wI x 148 (xi s1) s2)) _
  refine ev_run (n := 2) (u' := (0, 0)) (f' := (48, [some (.ref 138), some (.int a1), none, some (.int a3), some (.int (a4 + 1)), none, none, none], [])) (h' := hp N (wI x 148 (xi s1) s2)) rfl ?_
  exact q48 a1 a3 (a4 + 1) (wI x 148 (xi s1) s2) _ h
theorem em141_90_k1 {N : Nat} (k48 : Int32 → Int32 → Int32 → Hs → Option (Int32 × Hs)) (q48 : ∀ (a1 : Int32) (a3 : Int32) (a4 : Int32) (x : Hs) (r : Int32 × Hs), k48 a1 a3 a4 x = some r → Ev 141 (0, 0) (48, [some (.ref 138), some (.int a1), none, some (.int a3), some (.int a4), none, none, none], []) (hp N x) (cvMi N r)) (a1 : Int32) (a3 : Int32) (a4 : Int32) (s1 : Int32) (s2 : Int32) (x : Hs) (r : Int32 × Hs) (h : gm141_90 k48 a1 a3 a4 s1 s2 x = some r) : Ev 141 (0, 0) (90, [some (.ref 138), some (.int a1), none, some (.int a3), some (.int a4), none, none, none], [.int s2, .int s1, .ref 148]) (hp N x) (cvMi N r) := by
  unfold gm141_90 at h
  obtain ⟨h16, h⟩ := cond_some h
  refine ev_iast rfl rfl h16 ?_
  show Ev 141 (0, 0) (91, [some (.ref 138), some (.int a1), none, some (.int a3), some (.int a4), none, none, none], []) (hp N (wI x 148 (xi s1) s2)) _
  refine ev_run (n := 2) (u' := (0, 0)) (f' := (48, [some (.ref 138), some (.int a1), none, some (.int a3), some (.int (a4 + 1)), none, none, none], [])) (h' := hp N (wI x 148 (xi s1) s2)) rfl ?_
  exact q48 a1 a3 (a4 + 1) (wI x 148 (xi s1) s2) _ h
def gm141_212 (k108 : Int32 → Int32 → Int32 → Int32 → Hs → Option (Int32 × Hs)) (a1 : Int32) (a3 : Int32) (a4 : Int32) (a5 : Int32) (x : Hs) : Option (Int32 × Hs) := k108 a1 a3 a4 a5 x
theorem em141_212 {N : Nat} (k108 : Int32 → Int32 → Int32 → Int32 → Hs → Option (Int32 × Hs)) (q108 : ∀ (a1 : Int32) (a3 : Int32) (a4 : Int32) (a5 : Int32) (x : Hs) (r : Int32 × Hs), k108 a1 a3 a4 a5 x = some r → Ev 141 (0, 0) (108, [some (.ref 138), some (.int a1), none, some (.int a3), some (.int a4), some (.int a5), none, none], []) (hp N x) (cvMi N r)) (a1 : Int32) (a3 : Int32) (a4 : Int32) (a5 : Int32) (x : Hs) (r : Int32 × Hs) (h : gm141_212 k108 a1 a3 a4 a5 x = some r) : Ev 141 (0, 0) (212, [some (.ref 138), some (.int a1), none, some (.int a3), some (.int a4), some (.int a5), none, none], []) (hp N x) (cvMi N r) := by
  unfold gm141_212 at h
  refine ev_run (n := 1) (u' := (0, 0)) (f' := (108, [some (.ref 138), some (.int a1), none, some (.int a3), some (.int a4), some (.int a5), none, none], [])) (h' := hp N x) rfl ?_
  exact q108 a1 a3 a4 a5 x _ h
theorem em141_212_k1 {N : Nat} (k108 : Int32 → Int32 → Int32 → Int32 → Hs → Option (Int32 × Hs)) (q108 : ∀ (a1 : Int32) (a3 : Int32) (a4 : Int32) (a5 : Int32) (x : Hs) (r : Int32 × Hs), k108 a1 a3 a4 a5 x = some r → Ev 141 (0, 0) (108, [some (.ref 138), some (.int a1), none, some (.int a3), some (.int a4), some (.int a5), none, none], []) (hp N x) (cvMi N r)) (a1 : Int32) (a3 : Int32) (a4 : Int32) (a5 : Int32) (a6 : Int32) (a7 : Int32) (x : Hs) (r : Int32 × Hs) (h : gm141_212 k108 a1 a3 a4 a5 x = some r) : Ev 141 (0, 0) (212, [some (.ref 138), some (.int a1), none, some (.int a3), some (.int a4), some (.int a5), some (.int a6), some (.int a7)], []) (hp N x) (cvMi N r) := by
  unfold gm141_212 at h
  refine ev_run (n := 1) (u' := (0, 0)) (f' := (108, [some (.ref 138), some (.int a1), none, some (.int a3), some (.int a4), some (.int a5), none, none], [])) (h' := hp N x) rfl ?_
  exact q108 a1 a3 a4 a5 x _ h
def gm141_185 (k108 : Int32 → Int32 → Int32 → Int32 → Hs → Option (Int32 × Hs)) (a1 : Int32) (a3 : Int32) (a5 : Int32) (a6 : Int32) (a7 : Int32) (s0 : Int32) (x : Hs) : Option (Int32 × Hs) := if s0 = 0 then (gm141_212 k108 a1 a3 s0 a5 x) else (cond (aIn a6 20) (cond (aIn a6 20) (gm141_212 k108 a1 a3 s0 (a5 + (-1)) (wI (wI x 147 (xi a6) a7) 149 (xi a6) (-1))) none) none)
theorem em141_185 {N : Nat} (k108 : Int32 → Int32 → Int32 → Int32 → Hs → Option (Int32 × Hs)) (q108 : ∀ (a1 : Int32) (a3 : Int32) (a4 : Int32) (a5 : Int32) (x : Hs) (r : Int32 × Hs), k108 a1 a3 a4 a5 x = some r → Ev 141 (0, 0) (108, [some (.ref 138), some (.int a1), none, some (.int a3), some (.int a4), some (.int a5), none, none], []) (hp N x) (cvMi N r)) (a1 : Int32) (a3 : Int32) (a5 : Int32) (a6 : Int32) (a7 : Int32) (s0 : Int32) (x : Hs) (r : Int32 × Hs) (h : gm141_185 k108 a1 a3 a5 a6 a7 s0 x = some r) : Ev 141 (0, 0) (185, [some (.ref 138), some (.int a1), none, some (.int a3), none, some (.int a5), some (.int a6), some (.int a7)], [.int s0]) (hp N x) (cvMi N r) := by
  unfold gm141_185 at h
  refine ev_run (n := 2) (u' := (0, 0)) (f' := (189, [some (.ref 138), some (.int a1), none, some (.int a3), some (.int s0), some (.int a5), some (.int a6), some (.int a7)], [.int s0])) (h' := hp N x) rfl ?_
  rcases ite_or h with ⟨h41, h⟩ | ⟨h41, h⟩
  · refine ev_ift rfl (decide_eq_true h41) ?_
    exact em141_212 k108 q108 a1 a3 s0 a5 x _ h
  · refine ev_iff rfl (decide_eq_false h41) ?_
    refine ev_run (n := 4) (u' := (0, 0)) (f' := (200, [some (.ref 138), some (.int a1), none, some (.int a3), some (.int s0), some (.int a5), some (.int a6), some (.int a7)], [.int a7, .int a6, .ref 147])) (h' := hp N x) rfl ?_
    obtain ⟨h39, h⟩ := cond_some h
    refine ev_iast rfl rfl h39 ?_
    show Ev 141 (0, 0) (201, [some (.ref 138), some (.int a1), none, some (.int a3), some (.int s0), some (.int a5), some (.int a6), some (.int a7)], []) (hp N (wI x 147 (xi a6) a7)) _
    refine ev_run (n := 4) (u' := (0, 0)) (f' := (208, [some (.ref 138), some (.int a1), none, some (.int a3), some (.int s0), some (.int a5), some (.int a6), some (.int a7)], [.int (-1), .int a6, .ref 149])) (h' := hp N (wI x 147 (xi a6) a7)) rfl ?_
    obtain ⟨h40, h⟩ := cond_some h
    refine ev_iast rfl rfl h40 ?_
    show Ev 141 (0, 0) (209, [some (.ref 138), some (.int a1), none, some (.int a3), some (.int s0), some (.int a5), some (.int a6), some (.int a7)], []) (hp N (wI (wI x 147 (xi a6) a7) 149 (xi a6) (-1))) _
    refine ev_run (n := 1) (u' := (0, 0)) (f' := (212, [some (.ref 138), some (.int a1), none, some (.int a3), some (.int s0), some (.int (a5 + (-1))), some (.int a6), some (.int a7)], [])) (h' := hp N (wI (wI x 147 (xi a6) a7) 149 (xi a6) (-1))) rfl ?_
    exact em141_212_k1 k108 q108 a1 a3 s0 (a5 + (-1)) a6 a7 (wI (wI x 147 (xi a6) a7) 149 (xi a6) (-1)) _ h
def gm141_184 (k108 : Int32 → Int32 → Int32 → Int32 → Hs → Option (Int32 × Hs)) (a1 : Int32) (a3 : Int32) (a5 : Int32) (a6 : Int32) (a7 : Int32) (x : Hs) : Option (Int32 × Hs) := gm141_185 k108 a1 a3 a5 a6 a7 0 x
theorem em141_184 {N : Nat} (k108 : Int32 → Int32 → Int32 → Int32 → Hs → Option (Int32 × Hs)) (q108 : ∀ (a1 : Int32) (a3 : Int32) (a4 : Int32) (a5 : Int32) (x : Hs) (r : Int32 × Hs), k108 a1 a3 a4 a5 x = some r → Ev 141 (0, 0) (108, [some (.ref 138), some (.int a1), none, some (.int a3), some (.int a4), some (.int a5), none, none], []) (hp N x) (cvMi N r)) (a1 : Int32) (a3 : Int32) (a5 : Int32) (a6 : Int32) (a7 : Int32) (x : Hs) (r : Int32 × Hs) (h : gm141_184 k108 a1 a3 a5 a6 a7 x = some r) : Ev 141 (0, 0) (184, [some (.ref 138), some (.int a1), none, some (.int a3), none, some (.int a5), some (.int a6), some (.int a7)], []) (hp N x) (cvMi N r) := by
  unfold gm141_184 at h
  refine ev_run (n := 1) (u' := (0, 0)) (f' := (185, [some (.ref 138), some (.int a1), none, some (.int a3), none, some (.int a5), some (.int a6), some (.int a7)], [.int 0])) (h' := hp N x) rfl ?_
  exact em141_185 k108 q108 a1 a3 a5 a6 a7 0 x _ h
def gm141_162 (k108 : Int32 → Int32 → Int32 → Int32 → Hs → Option (Int32 × Hs)) (a1 : Int32) (a3 : Int32) (a5 : Int32) (a6 : Int32) (a7 : Int32) (x : Hs) : Option (Int32 × Hs) := cond (aIn a6 20) ((gm133 a6 a7 (x.1 148 (xi a6)) x).bind fun w29 => (if w29.1 = 0 then (gm141_184 k108 a1 a3 a5 a6 a7 w29.2) else (gm141_185 k108 a1 a3 a5 a6 a7 1 w29.2))) none
theorem em141_162 {N : Nat} (k108 : Int32 → Int32 → Int32 → Int32 → Hs → Option (Int32 × Hs)) (q108 : ∀ (a1 : Int32) (a3 : Int32) (a4 : Int32) (a5 : Int32) (x : Hs) (r : Int32 × Hs), k108 a1 a3 a4 a5 x = some r → Ev 141 (0, 0) (108, [some (.ref 138), some (.int a1), none, some (.int a3), some (.int a4), some (.int a5), none, none], []) (hp N x) (cvMi N r)) (a1 : Int32) (a3 : Int32) (a5 : Int32) (a6 : Int32) (a7 : Int32) (x : Hs) (r : Int32 × Hs) (h : gm141_162 k108 a1 a3 a5 a6 a7 x = some r) : Ev 141 (0, 0) (162, [some (.ref 138), some (.int a1), none, some (.int a3), none, some (.int a5), some (.int a6), some (.int a7)], []) (hp N x) (cvMi N r) := by
  unfold gm141_162 at h
  refine ev_run (n := 6) (u' := (0, 0)) (f' := (173, [some (.ref 138), some (.int a1), none, some (.int a3), none, some (.int a5), some (.int a6), some (.int a7)], [.int a6, .ref 148, .int a7, .int a6, .ref 138])) (h' := hp N x) rfl ?_
  obtain ⟨h28, h⟩ := cond_some h
  refine ev_iald rfl rfl h28 ?_
  obtain ⟨w29, h30, h⟩ := bind_ok h
  refine ev_call (v := some (.int w29.1)) (h1 := hp N w29.2) rfl rfl rfl rfl (em133 a6 a7 (x.1 148 (xi a6)) x _ h30) ?_
  show Ev 141 (0, 0) (177, [some (.ref 138), some (.int a1), none, some (.int a3), none, some (.int a5), some (.int a6), some (.int a7)], [.int w29.1]) (hp N w29.2) _
  rcases ite_or h with ⟨h31, h⟩ | ⟨h31, h⟩
  · refine ev_ift rfl (decide_eq_true h31) ?_
    exact em141_184 k108 q108 a1 a3 a5 a6 a7 w29.2 _ h
  · refine ev_iff rfl (decide_eq_false h31) ?_
    refine ev_run (n := 2) (u' := (0, 0)) (f' := (185, [some (.ref 138), some (.int a1), none, some (.int a3), none, some (.int a5), some (.int a6), some (.int a7)], [.int 1])) (h' := hp N w29.2) rfl ?_
    exact em141_185 k108 q108 a1 a3 a5 a6 a7 1 w29.2 _ h
theorem em141_162_k1 {N : Nat} (k108 : Int32 → Int32 → Int32 → Int32 → Hs → Option (Int32 × Hs)) (q108 : ∀ (a1 : Int32) (a3 : Int32) (a4 : Int32) (a5 : Int32) (x : Hs) (r : Int32 × Hs), k108 a1 a3 a4 a5 x = some r → Ev 141 (0, 0) (108, [some (.ref 138), some (.int a1), none, some (.int a3), some (.int a4), some (.int a5), none, none], []) (hp N x) (cvMi N r)) (a1 : Int32) (a3 : Int32) (a4 : Int32) (a5 : Int32) (a6 : Int32) (a7 : Int32) (x : Hs) (r : Int32 × Hs) (h : gm141_162 k108 a1 a3 a5 a6 a7 x = some r) : Ev 141 (0, 0) (162, [some (.ref 138), some (.int a1), none, some (.int a3), some (.int a4), some (.int a5), some (.int a6), some (.int a7)], []) (hp N x) (cvMi N r) := by
  unfold gm141_162 at h
  refine ev_run (n := 6) (u' := (0, 0)) (f' := (173, [some (.ref 138), some (.int a1), none, some (.int a3), some (.int a4), some (.int a5), some (.int a6), some (.int a7)], [.int a6, .ref 148, .int a7, .int a6, .ref 138])) (h' := hp N x) rfl ?_
  obtain ⟨h32, h⟩ := cond_some h
  refine ev_iald rfl rfl h32 ?_
  obtain ⟨w33, h34, h⟩ := bind_ok h
  refine ev_call (v := some (.int w33.1)) (h1 := hp N w33.2) rfl rfl rfl rfl (em133 a6 a7 (x.1 148 (xi a6)) x _ h34) ?_
  show Ev 141 (0, 0) (177, [some (.ref 138), some (.int a1), none, some (.int a3), some (.int a4), some (.int a5), some (.int a6), some (.int a7)], [.int w33.1]) (hp N w33.2) _
  rcases ite_or h with ⟨h35, h⟩ | ⟨h35, h⟩
  · refine ev_ift rfl (decide_eq_true h35) ?_
    exact em141_184 k108 q108 a1 a3 a5 a6 a7 w33.2 _ h
  · refine ev_iff rfl (decide_eq_false h35) ?_
    refine ev_run (n := 2) (u' := (0, 0)) (f' := (185, [some (.ref 138), some (.int a1), none, some (.int a3), none, some (.int a5), some (.int a6), some (.int a7)], [.int 1])) (h' := hp N w33.2) rfl ?_
    exact em141_185 k108 q108 a1 a3 a5 a6 a7 1 w33.2 _ h
