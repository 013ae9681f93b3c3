/-! The constructors, run; printed by mkboot.py -/
def hb507 (L : Nat) (xs : Nat → Int32) : aHp := hb506 (hb310 L xs).2.1 (hb310 L xs).2.2.1 (hb310 L xs).2.2.2.1 (hb310 L xs).2.2.2.2
def hb508 (L : Nat) (xs : Nat → Int32) : aHp := aNew (hb507 L xs) 2 1
def hb509 (L : Nat) (xs : Nat → Int32) : aHp := aNew (hb508 L xs) 3 1
set_option maxHeartbeats 20000000 in
set_option maxRecDepth 100000 in
theorem boot (L : Nat) (xs : Nat → Int32) : GoP 214 (0, 0) (0, aPad [.ref 0] 8, []) (hp0 L xs) ((28, [some (.ref 0), some (.ref 1), some (.ref 138), some (.ref 187), some (.ref 188), some (.int 0), none, none], []), (188, 60535), hb509 L xs) := by
  show GoP 214 (0, 0) (0, [some (.ref 0), none, none, none, none, none, none, none], []) (hb0 L xs) _
  refine go_run (n := 1) (u' := (1, 9)) (f' := (3, [some (.ref 0), none, none, none, none, none, none, none], [.ref 1])) (h' := hb1 L xs) rfl ?_
  refine go_run (n := 1) (u' := (1, 9)) (f' := (4, [some (.ref 0), none, none, none, none, none, none, none], [.ref 1, .ref 1])) (h' := hb1 L xs) rfl ?_
  refine go_call (v := none) (h1 := hb310 L xs) rfl rfl rfl rfl (bt43 L xs) ?_
  show GoP 214 (137, 26895) (7, [some (.ref 0), none, none, none, none, none, none, none], [.ref 1]) (hb310 L xs) _
  refine go_run (n := 2) (u' := (138, 26953)) (f' := (11, [some (.ref 0), some (.ref 1), none, none, none, none, none, none], [.ref 138])) (h' := hb311 L xs) rfl ?_
  refine go_run (n := 1) (u' := (138, 26953)) (f' := (12, [some (.ref 0), some (.ref 1), none, none, none, none, none, none], [.ref 138, .ref 138])) (h' := hb311 L xs) rfl ?_
  refine go_call (v := none) (h1 := hb507 L xs) rfl rfl rfl rfl (bt44 (hb310 L xs).2.1 (hb310 L xs).2.2.1 (hb310 L xs).2.2.2.1 (hb310 L xs).2.2.2.2) ?_
  show GoP 214 (186, 60533) (15, [some (.ref 0), some (.ref 1), none, none, none, none, none, none], [.ref 138]) (hb507 L xs) _
  refine go_run (n := 3) (u' := (187, 60534)) (f' := (19, [some (.ref 0), some (.ref 1), some (.ref 138), none, none, none, none, none], [.ref 187])) (h' := hb508 L xs) rfl ?_
  refine go_run (n := 3) (u' := (188, 60535)) (f' := (23, [some (.ref 0), some (.ref 1), some (.ref 138), some (.ref 187), none, none, none, none], [.ref 188])) (h' := hb509 L xs) rfl ?_
  refine go_run (n := 3) (u' := (188, 60535)) (f' := (28, [some (.ref 0), some (.ref 1), some (.ref 138), some (.ref 187), some (.ref 188), some (.int 0), none, none], [])) (h' := hb509 L xs) rfl ?_
  exact go_nil
