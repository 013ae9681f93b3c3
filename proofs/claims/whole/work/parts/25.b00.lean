/-! The constructors, run; printed by mkboot.py -/
def hb0 (L : Nat) (xs : Nat → Int32) : aHp := hp0 L xs
def hb1 (L : Nat) (xs : Nat → Int32) : aHp := aNew (hb0 L xs) 109 9
def hb2 (L : Nat) (xs : Nat → Int32) : aHp := aNew (hb1 L xs) 101 10
def hb3 (L : Nat) (xs : Nat → Int32) : aHp := aNew (hb2 L xs) 0 5
def hb4 (L : Nat) (xs : Nat → Int32) : aHp := aShR (hb3 L xs) 2 2 (some 3)
def hb5 (L : Nat) (xs : Nat → Int32) : aHp := aNew (hb4 L xs) 0 24
def hb6 (L : Nat) (xs : Nat → Int32) : aHp := aShR (hb5 L xs) 2 3 (some 4)
def hb7 (L : Nat) (xs : Nat → Int32) : aHp := aNew (hb6 L xs) 0 24
def hb8 (L : Nat) (xs : Nat → Int32) : aHp := aShR (hb7 L xs) 2 4 (some 5)
def hb9 (L : Nat) (xs : Nat → Int32) : aHp := aNewM (hb8 L xs) 24 5
def hb10 (L : Nat) (xs : Nat → Int32) : aHp := aShR (hb9 L xs) 2 5 (some 6)
def hb11 (L : Nat) (xs : Nat → Int32) : aHp := aNewM (hb10 L xs) 24 5
def hb12 (L : Nat) (xs : Nat → Int32) : aHp := aShR (hb11 L xs) 2 6 (some 31)
def hb13 (L : Nat) (xs : Nat → Int32) : aHp := aNew (hb12 L xs) 0 24
def hb14 (L : Nat) (xs : Nat → Int32) : aHp := aShR (hb13 L xs) 2 7 (some 56)
def hb15 (L : Nat) (xs : Nat → Int32) : aHp := aNew (hb14 L xs) 1 24
def hb16 (L : Nat) (xs : Nat → Int32) : aHp := aShR (hb15 L xs) 2 8 (some 57)
def hb17 (L : Nat) (xs : Nat → Int32) : aHp := aNew (hb16 L xs) 0 5
def hb18 (L : Nat) (xs : Nat → Int32) : aHp := aShR (hb17 L xs) 2 9 (some 58)
def hb19 (L : Nat) (xs : Nat → Int32) : aHp := aWI (hb18 L xs) 58 0 (-2)
def hb20 (L : Nat) (xs : Nat → Int32) : aHp := aWI (hb19 L xs) 58 1 (-2)
def hb21 (L : Nat) (xs : Nat → Int32) : aHp := aWI (hb20 L xs) 58 2 (-2)
def hb22 (L : Nat) (xs : Nat → Int32) : aHp := aWI (hb21 L xs) 58 3 (-2)
def hb23 (L : Nat) (xs : Nat → Int32) : aHp := aWI (hb22 L xs) 58 4 (-2)
theorem bt0 (L : Nat) (xs : Nat → Int32) : Ev 181 (0, 0) (0, aPad [.ref 58, .int (-2)] 4, []) (hb18 L xs) (.inl none, hb23 L xs) := by
  refine ev_run (n := 12) (u' := (0, 0)) (f' := (14, [some (.ref 58), some (.int (-2)), some (.int 0), some (.int 5)], [])) (h' := hb19 L xs) rfl ?_
  refine ev_run (n := 9) (u' := (0, 0)) (f' := (14, [some (.ref 58), some (.int (-2)), some (.int 1), some (.int 5)], [])) (h' := hb20 L xs) rfl ?_
  refine ev_run (n := 9) (u' := (0, 0)) (f' := (14, [some (.ref 58), some (.int (-2)), some (.int 2), some (.int 5)], [])) (h' := hb21 L xs) rfl ?_
  refine ev_run (n := 9) (u' := (0, 0)) (f' := (14, [some (.ref 58), some (.int (-2)), some (.int 3), some (.int 5)], [])) (h' := hb22 L xs) rfl ?_
  refine ev_run (n := 9) (u' := (0, 0)) (f' := (14, [some (.ref 58), some (.int (-2)), some (.int 4), some (.int 5)], [])) (h' := hb23 L xs) rfl ?_
  refine ev_run (n := 5) (u' := (0, 0)) (f' := (20, [none, none, none, none], [])) (h' := hb23 L xs) rfl ?_
  exact ev_vret rfl rfl rfl
set_option maxHeartbeats 20000000 in
set_option maxRecDepth 100000 in
theorem bt1 (L : Nat) (xs : Nat → Int32) : Ev 5 (0, 0) (0, aPad [.ref 2] 1, []) (hb2 L xs) (.inl none, hb23 L xs) := by
  refine ev_run (n := 5) (u' := (1, 5)) (f' := (8, [some (.ref 2)], [.ref 3, .ref 2])) (h' := hb3 L xs) rfl ?_
  refine ev_run (n := 1) (u' := (1, 5)) (f' := (11, [some (.ref 2)], [])) (h' := hb4 L xs) rfl ?_
  refine ev_run (n := 3) (u' := (2, 29)) (f' := (16, [some (.ref 2)], [.ref 4, .ref 2])) (h' := hb5 L xs) rfl ?_
  refine ev_run (n := 1) (u' := (2, 29)) (f' := (19, [some (.ref 2)], [])) (h' := hb6 L xs) rfl ?_
  refine ev_run (n := 3) (u' := (3, 53)) (f' := (24, [some (.ref 2)], [.ref 5, .ref 2])) (h' := hb7 L xs) rfl ?_
  refine ev_run (n := 1) (u' := (3, 53)) (f' := (27, [some (.ref 2)], [])) (h' := hb8 L xs) rfl ?_
  refine ev_run (n := 4) (u' := (28, 197)) (f' := (35, [some (.ref 2)], [.ref 6, .ref 2])) (h' := hb9 L xs) rfl ?_
  refine ev_run (n := 1) (u' := (28, 197)) (f' := (38, [some (.ref 2)], [])) (h' := hb10 L xs) rfl ?_
  refine ev_run (n := 4) (u' := (53, 341)) (f' := (46, [some (.ref 2)], [.ref 31, .ref 2])) (h' := hb11 L xs) rfl ?_
  refine ev_run (n := 1) (u' := (53, 341)) (f' := (49, [some (.ref 2)], [])) (h' := hb12 L xs) rfl ?_
  refine ev_run (n := 3) (u' := (54, 365)) (f' := (54, [some (.ref 2)], [.ref 56, .ref 2])) (h' := hb13 L xs) rfl ?_
  refine ev_run (n := 1) (u' := (54, 365)) (f' := (57, [some (.ref 2)], [])) (h' := hb14 L xs) rfl ?_
  refine ev_run (n := 3) (u' := (55, 389)) (f' := (62, [some (.ref 2)], [.ref 57, .ref 2])) (h' := hb15 L xs) rfl ?_
  refine ev_run (n := 1) (u' := (55, 389)) (f' := (65, [some (.ref 2)], [])) (h' := hb16 L xs) rfl ?_
  refine ev_run (n := 3) (u' := (56, 394)) (f' := (69, [some (.ref 2)], [.ref 58, .ref 2])) (h' := hb17 L xs) rfl ?_
  refine ev_run (n := 1) (u' := (56, 394)) (f' := (72, [some (.ref 2)], [])) (h' := hb18 L xs) rfl ?_
  refine ev_run (n := 3) (u' := (56, 394)) (f' := (78, [some (.ref 2)], [.int (-2), .ref 58])) (h' := hb18 L xs) rfl ?_
  refine ev_call (v := none) (h1 := hb23 L xs) rfl rfl rfl rfl (bt0 L xs) ?_
  show Ev 5 (56, 394) (81, [some (.ref 2)], []) (hb23 L xs) _
  exact ev_vret rfl rfl rfl
def hb24 (L : Nat) (xs : Nat → Int32) : aHp := aShR (hb23 L xs) 1 0 (some 2)
def hb25 (L : Nat) (xs : Nat → Int32) : aHp := aNew (hb24 L xs) 5 4
def hb26 (L : Nat) (xs : Nat → Int32) : aHp := aShR (hb25 L xs) 1 1 (some 59)
def hb27 (L : Nat) (xs : Nat → Int32) : aHp := aNew (hb26 L xs) 107 8
def hb28 (L : Nat) (xs : Nat → Int32) : aHp := aNew (hb27 L xs) 0 5
def hb29 (L : Nat) (xs : Nat → Int32) : aHp := aShR (hb28 L xs) 60 1 (some 61)
def hb30 (L : Nat) (xs : Nat → Int32) : aHp := aNew (hb29 L xs) 0 5
def hb31 (L : Nat) (xs : Nat → Int32) : aHp := aShR (hb30 L xs) 60 2 (some 62)
def hb32 (L : Nat) (xs : Nat → Int32) : aHp := aNew (hb31 L xs) 0 5
def hb33 (L : Nat) (xs : Nat → Int32) : aHp := aShR (hb32 L xs) 60 3 (some 63)
def hb34 (L : Nat) (xs : Nat → Int32) : aHp := aNew (hb33 L xs) 2 5
def hb35 (L : Nat) (xs : Nat → Int32) : aHp := aShR (hb34 L xs) 60 4 (some 64)
def hb36 (L : Nat) (xs : Nat → Int32) : aHp := aNew (hb35 L xs) 2 5
def hb37 (L : Nat) (xs : Nat → Int32) : aHp := aShR (hb36 L xs) 60 5 (some 65)
def hb38 (L : Nat) (xs : Nat → Int32) : aHp := aNew (hb37 L xs) 2 5
def hb39 (L : Nat) (xs : Nat → Int32) : aHp := aShR (hb38 L xs) 60 6 (some 66)
def hb40 (L : Nat) (xs : Nat → Int32) : aHp := aNew (hb39 L xs) 2 5
def hb41 (L : Nat) (xs : Nat → Int32) : aHp := aShR (hb40 L xs) 60 7 (some 67)
def hb42 (L : Nat) (xs : Nat → Int32) : aHp := aShR (hb41 L xs) 60 0 (some 2)
def hb43 (L : Nat) (xs : Nat → Int32) : aHp := aWI (hb42 L xs) 61 0 (-1)
def hb44 (L : Nat) (xs : Nat → Int32) : aHp := aWI (hb43 L xs) 61 1 (-1)
def hb45 (L : Nat) (xs : Nat → Int32) : aHp := aWI (hb44 L xs) 61 2 (-1)
def hb46 (L : Nat) (xs : Nat → Int32) : aHp := aWI (hb45 L xs) 61 3 (-1)
def hb47 (L : Nat) (xs : Nat → Int32) : aHp := aWI (hb46 L xs) 61 4 (-1)
theorem bt2 (L : Nat) (xs : Nat → Int32) : Ev 181 (0, 0) (0, aPad [.ref 61, .int (-1)] 4, []) (hb42 L xs) (.inl none, hb47 L xs) := by
  refine ev_run (n := 12) (u' := (0, 0)) (f' := (14, [some (.ref 61), some (.int (-1)), some (.int 0), some (.int 5)], [])) (h' := hb43 L xs) rfl ?_
  refine ev_run (n := 9) (u' := (0, 0)) (f' := (14, [some (.ref 61), some (.int (-1)), some (.int 1), some (.int 5)], [])) (h' := hb44 L xs) rfl ?_
  refine ev_run (n := 9) (u' := (0, 0)) (f' := (14, [some (.ref 61), some (.int (-1)), some (.int 2), some (.int 5)], [])) (h' := hb45 L xs) rfl ?_
  refine ev_run (n := 9) (u' := (0, 0)) (f' := (14, [some (.ref 61), some (.int (-1)), some (.int 3), some (.int 5)], [])) (h' := hb46 L xs) rfl ?_
  refine ev_run (n := 9) (u' := (0, 0)) (f' := (14, [some (.ref 61), some (.int (-1)), some (.int 4), some (.int 5)], [])) (h' := hb47 L xs) rfl ?_
  refine ev_run (n := 5) (u' := (0, 0)) (f' := (20, [none, none, none, none], [])) (h' := hb47 L xs) rfl ?_
  exact ev_vret rfl rfl rfl
def hb48 (L : Nat) (xs : Nat → Int32) : aHp := aWI (hb47 L xs) 62 0 (-1)
def hb49 (L : Nat) (xs : Nat → Int32) : aHp := aWI (hb48 L xs) 62 1 (-1)
def hb50 (L : Nat) (xs : Nat → Int32) : aHp := aWI (hb49 L xs) 62 2 (-1)
def hb51 (L : Nat) (xs : Nat → Int32) : aHp := aWI (hb50 L xs) 62 3 (-1)
def hb52 (L : Nat) (xs : Nat → Int32) : aHp := aWI (hb51 L xs) 62 4 (-1)
theorem bt3 (L : Nat) (xs : Nat → Int32) : Ev 181 (0, 0) (0, aPad [.ref 62, .int (-1)] 4, []) (hb47 L xs) (.inl none, hb52 L xs) := by
  refine ev_run (n := 12) (u' := (0, 0)) (f' := (14, [some (.ref 62), some (.int (-1)), some (.int 0), some (.int 5)], [])) (h' := hb48 L xs) rfl ?_
  refine ev_run (n := 9) (u' := (0, 0)) (f' := (14, [some (.ref 62), some (.int (-1)), some (.int 1), some (.int 5)], [])) (h' := hb49 L xs) rfl ?_
  refine ev_run (n := 9) (u' := (0, 0)) (f' := (14, [some (.ref 62), some (.int (-1)), some (.int 2), some (.int 5)], [])) (h' := hb50 L xs) rfl ?_
  refine ev_run (n := 9) (u' := (0, 0)) (f' := (14, [some (.ref 62), some (.int (-1)), some (.int 3), some (.int 5)], [])) (h' := hb51 L xs) rfl ?_
  refine ev_run (n := 9) (u' := (0, 0)) (f' := (14, [some (.ref 62), some (.int (-1)), some (.int 4), some (.int 5)], [])) (h' := hb52 L xs) rfl ?_
  refine ev_run (n := 5) (u' := (0, 0)) (f' := (20, [none, none, none, none], [])) (h' := hb52 L xs) rfl ?_
  exact ev_vret rfl rfl rfl
def hb53 (L : Nat) (xs : Nat → Int32) : aHp := aWI (hb52 L xs) 63 0 (-1)
def hb54 (L : Nat) (xs : Nat → Int32) : aHp := aWI (hb53 L xs) 63 1 (-1)
def hb55 (L : Nat) (xs : Nat → Int32) : aHp := aWI (hb54 L xs) 63 2 (-1)
def hb56 (L : Nat) (xs : Nat → Int32) : aHp := aWI (hb55 L xs) 63 3 (-1)
def hb57 (L : Nat) (xs : Nat → Int32) : aHp := aWI (hb56 L xs) 63 4 (-1)
theorem bt4 (L : Nat) (xs : Nat → Int32) : Ev 181 (0, 0) (0, aPad [.ref 63, .int (-1)] 4, []) (hb52 L xs) (.inl none, hb57 L xs) := by
  refine ev_run (n := 12) (u' := (0, 0)) (f' := (14, [some (.ref 63), some (.int (-1)), some (.int 0), some (.int 5)], [])) (h' := hb53 L xs) rfl ?_
  refine ev_run (n := 9) (u' := (0, 0)) (f' := (14, [some (.ref 63), some (.int (-1)), some (.int 1), some (.int 5)], [])) (h' := hb54 L xs) rfl ?_
  refine ev_run (n := 9) (u' := (0, 0)) (f' := (14, [some (.ref 63), some (.int (-1)), some (.int 2), some (.int 5)], [])) (h' := hb55 L xs) rfl ?_
  refine ev_run (n := 9) (u' := (0, 0)) (f' := (14, [some (.ref 63), some (.int (-1)), some (.int 3), some (.int 5)], [])) (h' := hb56 L xs) rfl ?_
  refine ev_run (n := 9) (u' := (0, 0)) (f' := (14, [some (.ref 63), some (.int (-1)), some (.int 4), some (.int 5)], [])) (h' := hb57 L xs) rfl ?_
  refine ev_run (n := 5) (u' := (0, 0)) (f' := (20, [none, none, none, none], [])) (h' := hb57 L xs) rfl ?_
  exact ev_vret rfl rfl rfl
set_option maxHeartbeats 20000000 in
set_option maxRecDepth 100000 in
theorem bt5 (L : Nat) (xs : Nat → Int32) : Ev 47 (0, 0) (0, aPad [.ref 60, .ref 2] 2, []) (hb27 L xs) (.inl none, hb57 L xs) := by
  refine ev_run (n := 5) (u' := (1, 5)) (f' := (8, [some (.ref 60), some (.ref 2)], [.ref 61, .ref 60])) (h' := hb28 L xs) rfl ?_
  refine ev_run (n := 1) (u' := (1, 5)) (f' := (11, [some (.ref 60), some (.ref 2)], [])) (h' := hb29 L xs) rfl ?_
  refine ev_run (n := 3) (u' := (2, 10)) (f' := (15, [some (.ref 60), some (.ref 2)], [.ref 62, .ref 60])) (h' := hb30 L xs) rfl ?_
  refine ev_run (n := 1) (u' := (2, 10)) (f' := (18, [some (.ref 60), some (.ref 2)], [])) (h' := hb31 L xs) rfl ?_
  refine ev_run (n := 3) (u' := (3, 15)) (f' := (22, [some (.ref 60), some (.ref 2)], [.ref 63, .ref 60])) (h' := hb32 L xs) rfl ?_
  refine ev_run (n := 1) (u' := (3, 15)) (f' := (25, [some (.ref 60), some (.ref 2)], [])) (h' := hb33 L xs) rfl ?_
  refine ev_run (n := 3) (u' := (4, 20)) (f' := (29, [some (.ref 60), some (.ref 2)], [.ref 64, .ref 60])) (h' := hb34 L xs) rfl ?_
  refine ev_run (n := 1) (u' := (4, 20)) (f' := (32, [some (.ref 60), some (.ref 2)], [])) (h' := hb35 L xs) rfl ?_
  refine ev_run (n := 3) (u' := (5, 25)) (f' := (36, [some (.ref 60), some (.ref 2)], [.ref 65, .ref 60])) (h' := hb36 L xs) rfl ?_
  refine ev_run (n := 1) (u' := (5, 25)) (f' := (39, [some (.ref 60), some (.ref 2)], [])) (h' := hb37 L xs) rfl ?_
  refine ev_run (n := 3) (u' := (6, 30)) (f' := (43, [some (.ref 60), some (.ref 2)], [.ref 66, .ref 60])) (h' := hb38 L xs) rfl ?_
  refine ev_run (n := 1) (u' := (6, 30)) (f' := (46, [some (.ref 60), some (.ref 2)], [])) (h' := hb39 L xs) rfl ?_
  refine ev_run (n := 3) (u' := (7, 35)) (f' := (50, [some (.ref 60), some (.ref 2)], [.ref 67, .ref 60])) (h' := hb40 L xs) rfl ?_
  refine ev_run (n := 1) (u' := (7, 35)) (f' := (53, [some (.ref 60), some (.ref 2)], [])) (h' := hb41 L xs) rfl ?_
  refine ev_run (n := 3) (u' := (7, 35)) (f' := (58, [some (.ref 60), some (.ref 2)], [])) (h' := hb42 L xs) rfl ?_
  refine ev_run (n := 3) (u' := (7, 35)) (f' := (63, [some (.ref 60), some (.ref 2)], [.int (-1), .ref 61])) (h' := hb42 L xs) rfl ?_
  refine ev_call (v := none) (h1 := hb47 L xs) rfl rfl rfl rfl (bt2 L xs) ?_
  show Ev 47 (7, 35) (66, [some (.ref 60), some (.ref 2)], []) (hb47 L xs) _
  refine ev_run (n := 3) (u' := (7, 35)) (f' := (71, [some (.ref 60), some (.ref 2)], [.int (-1), .ref 62])) (h' := hb47 L xs) rfl ?_
  refine ev_call (v := none) (h1 := hb52 L xs) rfl rfl rfl rfl (bt3 L xs) ?_
  show Ev 47 (7, 35) (74, [some (.ref 60), some (.ref 2)], []) (hb52 L xs) _
  refine ev_run (n := 3) (u' := (7, 35)) (f' := (79, [some (.ref 60), some (.ref 2)], [.int (-1), .ref 63])) (h' := hb52 L xs) rfl ?_
  refine ev_call (v := none) (h1 := hb57 L xs) rfl rfl rfl rfl (bt4 L xs) ?_
  show Ev 47 (7, 35) (82, [some (.ref 60), some (.ref 2)], []) (hb57 L xs) _
  exact ev_vret rfl rfl rfl
def hb58 (L : Nat) (xs : Nat → Int32) : aHp := aShR (hb57 L xs) 59 0 (some 60)
def hb59 (L : Nat) (xs : Nat → Int32) : aHp := aNew (hb58 L xs) 107 8
def hb60 (L : Nat) (xs : Nat → Int32) : aHp := aNew (hb59 L xs) 0 5
def hb61 (L : Nat) (xs : Nat → Int32) : aHp := aShR (hb60 L xs) 68 1 (some 69)
def hb62 (L : Nat) (xs : Nat → Int32) : aHp := aNew (hb61 L xs) 0 5
def hb63 (L : Nat) (xs : Nat → Int32) : aHp := aShR (hb62 L xs) 68 2 (some 70)
def hb64 (L : Nat) (xs : Nat → Int32) : aHp := aNew (hb63 L xs) 0 5
def hb65 (L : Nat) (xs : Nat → Int32) : aHp := aShR (hb64 L xs) 68 3 (some 71)
def hb66 (L : Nat) (xs : Nat → Int32) : aHp := aNew (hb65 L xs) 2 5
def hb67 (L : Nat) (xs : Nat → Int32) : aHp := aShR (hb66 L xs) 68 4 (some 72)
def hb68 (L : Nat) (xs : Nat → Int32) : aHp := aNew (hb67 L xs) 2 5
def hb69 (L : Nat) (xs : Nat → Int32) : aHp := aShR (hb68 L xs) 68 5 (some 73)
def hb70 (L : Nat) (xs : Nat → Int32) : aHp := aNew (hb69 L xs) 2 5
def hb71 (L : Nat) (xs : Nat → Int32) : aHp := aShR (hb70 L xs) 68 6 (some 74)
def hb72 (L : Nat) (xs : Nat → Int32) : aHp := aNew (hb71 L xs) 2 5
def hb73 (L : Nat) (xs : Nat → Int32) : aHp := aShR (hb72 L xs) 68 7 (some 75)
def hb74 (L : Nat) (xs : Nat → Int32) : aHp := aShR (hb73 L xs) 68 0 (some 2)
def hb75 (L : Nat) (xs : Nat → Int32) : aHp := aWI (hb74 L xs) 69 0 (-1)
def hb76 (L : Nat) (xs : Nat → Int32) : aHp := aWI (hb75 L xs) 69 1 (-1)
def hb77 (L : Nat) (xs : Nat → Int32) : aHp := aWI (hb76 L xs) 69 2 (-1)
def hb78 (L : Nat) (xs : Nat → Int32) : aHp := aWI (hb77 L xs) 69 3 (-1)
def hb79 (L : Nat) (xs : Nat → Int32) : aHp := aWI (hb78 L xs) 69 4 (-1)
theorem bt6 (L : Nat) (xs : Nat → Int32) : Ev 181 (0, 0) (0, aPad [.ref 69, .int (-1)] 4, []) (hb74 L xs) (.inl none, hb79 L xs) := by
  refine ev_run (n := 12) (u' := (0, 0)) (f' := (14, [some (.ref 69), some (.int (-1)), some (.int 0), some (.int 5)], [])) (h' := hb75 L xs) rfl ?_
  refine ev_run (n := 9) (u' := (0, 0)) (f' := (14, [some (.ref 69), some (.int (-1)), some (.int 1), some (.int 5)], [])) (h' := hb76 L xs) rfl ?_
  refine ev_run (n := 9) (u' := (0, 0)) (f' := (14, [some (.ref 69), some (.int (-1)), some (.int 2), some (.int 5)], [])) (h' := hb77 L xs) rfl ?_
  refine ev_run (n := 9) (u' := (0, 0)) (f' := (14, [some (.ref 69), some (.int (-1)), some (.int 3), some (.int 5)], [])) (h' := hb78 L xs) rfl ?_
  refine ev_run (n := 9) (u' := (0, 0)) (f' := (14, [some (.ref 69), some (.int (-1)), some (.int 4), some (.int 5)], [])) (h' := hb79 L xs) rfl ?_
  refine ev_run (n := 5) (u' := (0, 0)) (f' := (20, [none, none, none, none], [])) (h' := hb79 L xs) rfl ?_
  exact ev_vret rfl rfl rfl
def hb80 (L : Nat) (xs : Nat → Int32) : aHp := aWI (hb79 L xs) 70 0 (-1)
def hb81 (L : Nat) (xs : Nat → Int32) : aHp := aWI (hb80 L xs) 70 1 (-1)
def hb82 (L : Nat) (xs : Nat → Int32) : aHp := aWI (hb81 L xs) 70 2 (-1)
def hb83 (L : Nat) (xs : Nat → Int32) : aHp := aWI (hb82 L xs) 70 3 (-1)
def hb84 (L : Nat) (xs : Nat → Int32) : aHp := aWI (hb83 L xs) 70 4 (-1)
theorem bt7 (L : Nat) (xs : Nat → Int32) : Ev 181 (0, 0) (0, aPad [.ref 70, .int (-1)] 4, []) (hb79 L xs) (.inl none, hb84 L xs) := by
  refine ev_run (n := 12) (u' := (0, 0)) (f' := (14, [some (.ref 70), some (.int (-1)), some (.int 0), some (.int 5)], [])) (h' := hb80 L xs) rfl ?_
  refine ev_run (n := 9) (u' := (0, 0)) (f' := (14, [some (.ref 70), some (.int (-1)), some (.int 1), some (.int 5)], [])) (h' := hb81 L xs) rfl ?_
  refine ev_run (n := 9) (u' := (0, 0)) (f' := (14, [some (.ref 70), some (.int (-1)), some (.int 2), some (.int 5)], [])) (h' := hb82 L xs) rfl ?_
  refine ev_run (n := 9) (u' := (0, 0)) (f' := (14, [some (.ref 70), some (.int (-1)), some (.int 3), some (.int 5)], [])) (h' := hb83 L xs) rfl ?_
  refine ev_run (n := 9) (u' := (0, 0)) (f' := (14, [some (.ref 70), some (.int (-1)), some (.int 4), some (.int 5)], [])) (h' := hb84 L xs) rfl ?_
  refine ev_run (n := 5) (u' := (0, 0)) (f' := (20, [none, none, none, none], [])) (h' := hb84 L xs) rfl ?_
  exact ev_vret rfl rfl rfl
def hb85 (L : Nat) (xs : Nat → Int32) : aHp := aWI (hb84 L xs) 71 0 (-1)
def hb86 (L : Nat) (xs : Nat → Int32) : aHp := aWI (hb85 L xs) 71 1 (-1)
def hb87 (L : Nat) (xs : Nat → Int32) : aHp := aWI (hb86 L xs) 71 2 (-1)
def hb88 (L : Nat) (xs : Nat → Int32) : aHp := aWI (hb87 L xs) 71 3 (-1)
def hb89 (L : Nat) (xs : Nat → Int32) : aHp := aWI (hb88 L xs) 71 4 (-1)
theorem bt8 (L : Nat) (xs : Nat → Int32) : Ev 181 (0, 0) (0, aPad [.ref 71, .int (-1)] 4, []) (hb84 L xs) (.inl none, hb89 L xs) := by
  refine ev_run (n := 12) (u' := (0, 0)) (f' := (14, [some (.ref 71), some (.int (-1)), some (.int 0), some (.int 5)], [])) (h' := hb85 L xs) rfl ?_
  refine ev_run (n := 9) (u' := (0, 0)) (f' := (14, [some (.ref 71), some (.int (-1)), some (.int 1), some (.int 5)], [])) (h' := hb86 L xs) rfl ?_
  refine ev_run (n := 9) (u' := (0, 0)) (f' := (14, [some (.ref 71), some (.int (-1)), some (.int 2), some (.int 5)], [])) (h' := hb87 L xs) rfl ?_
  refine ev_run (n := 9) (u' := (0, 0)) (f' := (14, [some (.ref 71), some (.int (-1)), some (.int 3), some (.int 5)], [])) (h' := hb88 L xs) rfl ?_
  refine ev_run (n := 9) (u' := (0, 0)) (f' := (14, [some (.ref 71), some (.int (-1)), some (.int 4), some (.int 5)], [])) (h' := hb89 L xs) rfl ?_
  refine ev_run (n := 5) (u' := (0, 0)) (f' := (20, [none, none, none, none], [])) (h' := hb89 L xs) rfl ?_
  exact ev_vret rfl rfl rfl
set_option maxHeartbeats 20000000 in
set_option maxRecDepth 100000 in
theorem bt9 (L : Nat) (xs : Nat → Int32) : Ev 47 (0, 0) (0, aPad [.ref 68, .ref 2] 2, []) (hb59 L xs) (.inl none, hb89 L xs) := by
  refine ev_run (n := 5) (u' := (1, 5)) (f' := (8, [some (.ref 68), some (.ref 2)], [.ref 69, .ref 68])) (h' := hb60 L xs) rfl ?_
  refine ev_run (n := 1) (u' := (1, 5)) (f' := (11, [some (.ref 68), some (.ref 2)], [])) (h' := hb61 L xs) rfl ?_
  refine ev_run (n := 3) (u' := (2, 10)) (f' := (15, [some (.ref 68), some (.ref 2)], [.ref 70, .ref 68])) (h' := hb62 L xs) rfl ?_
  refine ev_run (n := 1) (u' := (2, 10)) (f' := (18, [some (.ref 68), some (.ref 2)], [])) (h' := hb63 L xs) rfl ?_
  refine ev_run (n := 3) (u' := (3, 15)) (f' := (22, [some (.ref 68), some (.ref 2)], [.ref 71, .ref 68])) (h' := hb64 L xs) rfl ?_
  refine ev_run (n := 1) (u' := (3, 15)) (f' := (25, [some (.ref 68), some (.ref 2)], [])) (h' := hb65 L xs) rfl ?_
  refine ev_run (n := 3) (u' := (4, 20)) (f' := (29, [some (.ref 68), some (.ref 2)], [.ref 72, .ref 68])) (h' := hb66 L xs) rfl ?_
  refine ev_run (n := 1) (u' := (4, 20)) (f' := (32, [some (.ref 68), some (.ref 2)], [])) (h' := hb67 L xs) rfl ?_
  refine ev_run (n := 3) (u' := (5, 25)) (f' := (36, [some (.ref 68), some (.ref 2)], [.ref 73, .ref 68])) (h' := hb68 L xs) rfl ?_
  refine ev_run (n := 1) (u' := (5, 25)) (f' := (39, [some (.ref 68), some (.ref 2)], [])) (h' := hb69 L xs) rfl ?_
  refine ev_run (n := 3) (u' := (6, 30)) (f' := (43, [some (.ref 68), some (.ref 2)], [.ref 74, .ref 68])) (h' := hb70 L xs) rfl ?_
  refine ev_run (n := 1) (u' := (6, 30)) (f' := (46, [some (.ref 68), some (.ref 2)], [])) (h' := hb71 L xs) rfl ?_
  refine ev_run (n := 3) (u' := (7, 35)) (f' := (50, [some (.ref 68), some (.ref 2)], [.ref 75, .ref 68])) (h' := hb72 L xs) rfl ?_
  refine ev_run (n := 1) (u' := (7, 35)) (f' := (53, [some (.ref 68), some (.ref 2)], [])) (h' := hb73 L xs) rfl ?_
  refine ev_run (n := 3) (u' := (7, 35)) (f' := (58, [some (.ref 68), some (.ref 2)], [])) (h' := hb74 L xs) rfl ?_
  refine ev_run (n := 3) (u' := (7, 35)) (f' := (63, [some (.ref 68), some (.ref 2)], [.int (-1), .ref 69])) (h' := hb74 L xs) rfl ?_
  refine ev_call (v := none) (h1 := hb79 L xs) rfl rfl rfl rfl (bt6 L xs) ?_
  show Ev 47 (7, 35) (66, [some (.ref 68), some (.ref 2)], []) (hb79 L xs) _
  refine ev_run (n := 3) (u' := (7, 35)) (f' := (71, [some (.ref 68), some (.ref 2)], [.int (-1), .ref 70])) (h' := hb79 L xs) rfl ?_
  refine ev_call (v := none) (h1 := hb84 L xs) rfl rfl rfl rfl (bt7 L xs) ?_
  show Ev 47 (7, 35) (74, [some (.ref 68), some (.ref 2)], []) (hb84 L xs) _
  refine ev_run (n := 3) (u' := (7, 35)) (f' := (79, [some (.ref 68), some (.ref 2)], [.int (-1), .ref 71])) (h' := hb84 L xs) rfl ?_
  refine ev_call (v := none) (h1 := hb89 L xs) rfl rfl rfl rfl (bt8 L xs) ?_
  show Ev 47 (7, 35) (82, [some (.ref 68), some (.ref 2)], []) (hb89 L xs) _
  exact ev_vret rfl rfl rfl
def hb90 (L : Nat) (xs : Nat → Int32) : aHp := aShR (hb89 L xs) 59 1 (some 68)
def hb91 (L : Nat) (xs : Nat → Int32) : aHp := aNew (hb90 L xs) 107 8
def hb92 (L : Nat) (xs : Nat → Int32) : aHp := aNew (hb91 L xs) 0 5
def hb93 (L : Nat) (xs : Nat → Int32) : aHp := aShR (hb92 L xs) 76 1 (some 77)
def hb94 (L : Nat) (xs : Nat → Int32) : aHp := aNew (hb93 L xs) 0 5
def hb95 (L : Nat) (xs : Nat → Int32) : aHp := aShR (hb94 L xs) 76 2 (some 78)
def hb96 (L : Nat) (xs : Nat → Int32) : aHp := aNew (hb95 L xs) 0 5
def hb97 (L : Nat) (xs : Nat → Int32) : aHp := aShR (hb96 L xs) 76 3 (some 79)
def hb98 (L : Nat) (xs : Nat → Int32) : aHp := aNew (hb97 L xs) 2 5
def hb99 (L : Nat) (xs : Nat → Int32) : aHp := aShR (hb98 L xs) 76 4 (some 80)
def hb100 (L : Nat) (xs : Nat → Int32) : aHp := aNew (hb99 L xs) 2 5
def hb101 (L : Nat) (xs : Nat → Int32) : aHp := aShR (hb100 L xs) 76 5 (some 81)
def hb102 (L : Nat) (xs : Nat → Int32) : aHp := aNew (hb101 L xs) 2 5
def hb103 (L : Nat) (xs : Nat → Int32) : aHp := aShR (hb102 L xs) 76 6 (some 82)
def hb104 (L : Nat) (xs : Nat → Int32) : aHp := aNew (hb103 L xs) 2 5
def hb105 (L : Nat) (xs : Nat → Int32) : aHp := aShR (hb104 L xs) 76 7 (some 83)
def hb106 (L : Nat) (xs : Nat → Int32) : aHp := aShR (hb105 L xs) 76 0 (some 2)
def hb107 (L : Nat) (xs : Nat → Int32) : aHp := aWI (hb106 L xs) 77 0 (-1)
def hb108 (L : Nat) (xs : Nat → Int32) : aHp := aWI (hb107 L xs) 77 1 (-1)
def hb109 (L : Nat) (xs : Nat → Int32) : aHp := aWI (hb108 L xs) 77 2 (-1)
def hb110 (L : Nat) (xs : Nat → Int32) : aHp := aWI (hb109 L xs) 77 3 (-1)
def hb111 (L : Nat) (xs : Nat → Int32) : aHp := aWI (hb110 L xs) 77 4 (-1)
theorem bt10 (L : Nat) (xs : Nat → Int32) : Ev 181 (0, 0) (0, aPad [.ref 77, .int (-1)] 4, []) (hb106 L xs) (.inl none, hb111 L xs) := by
  refine ev_run (n := 12) (u' := (0, 0)) (f' := (14, [some (.ref 77), some (.int (-1)), some (.int 0), some (.int 5)], [])) (h' := hb107 L xs) rfl ?_
  refine ev_run (n := 9) (u' := (0, 0)) (f' := (14, [some (.ref 77), some (.int (-1)), some (.int 1), some (.int 5)], [])) (h' := hb108 L xs) rfl ?_
  refine ev_run (n := 9) (u' := (0, 0)) (f' := (14, [some (.ref 77), some (.int (-1)), some (.int 2), some (.int 5)], [])) (h' := hb109 L xs) rfl ?_
  refine ev_run (n := 9) (u' := (0, 0)) (f' := (14, [some (.ref 77), some (.int (-1)), some (.int 3), some (.int 5)], [])) (h' := hb110 L xs) rfl ?_
  refine ev_run (n := 9) (u' := (0, 0)) (f' := (14, [some (.ref 77), some (.int (-1)), some (.int 4), some (.int 5)], [])) (h' := hb111 L xs) rfl ?_
  refine ev_run (n := 5) (u' := (0, 0)) (f' := (20, [none, none, none, none], [])) (h' := hb111 L xs) rfl ?_
  exact ev_vret rfl rfl rfl
def hb112 (L : Nat) (xs : Nat → Int32) : aHp := aWI (hb111 L xs) 78 0 (-1)
def hb113 (L : Nat) (xs : Nat → Int32) : aHp := aWI (hb112 L xs) 78 1 (-1)
def hb114 (L : Nat) (xs : Nat → Int32) : aHp := aWI (hb113 L xs) 78 2 (-1)
def hb115 (L : Nat) (xs : Nat → Int32) : aHp := aWI (hb114 L xs) 78 3 (-1)
def hb116 (L : Nat) (xs : Nat → Int32) : aHp := aWI (hb115 L xs) 78 4 (-1)
theorem bt11 (L : Nat) (xs : Nat → Int32) : Ev 181 (0, 0) (0, aPad [.ref 78, .int (-1)] 4, []) (hb111 L xs) (.inl none, hb116 L xs) := by
  refine ev_run (n := 12) (u' := (0, 0)) (f' := (14, [some (.ref 78), some (.int (-1)), some (.int 0), some (.int 5)], [])) (h' := hb112 L xs) rfl ?_
  refine ev_run (n := 9) (u' := (0, 0)) (f' := (14, [some (.ref 78), some (.int (-1)), some (.int 1), some (.int 5)], [])) (h' := hb113 L xs) rfl ?_
  refine ev_run (n := 9) (u' := (0, 0)) (f' := (14, [some (.ref 78), some (.int (-1)), some (.int 2), some (.int 5)], [])) (h' := hb114 L xs) rfl ?_
  refine ev_run (n := 9) (u' := (0, 0)) (f' := (14, [some (.ref 78), some (.int (-1)), some (.int 3), some (.int 5)], [])) (h' := hb115 L xs) rfl ?_
  refine ev_run (n := 9) (u' := (0, 0)) (f' := (14, [some (.ref 78), some (.int (-1)), some (.int 4), some (.int 5)], [])) (h' := hb116 L xs) rfl ?_
  refine ev_run (n := 5) (u' := (0, 0)) (f' := (20, [none, none, none, none], [])) (h' := hb116 L xs) rfl ?_
  exact ev_vret rfl rfl rfl
def hb117 (L : Nat) (xs : Nat → Int32) : aHp := aWI (hb116 L xs) 79 0 (-1)
def hb118 (L : Nat) (xs : Nat → Int32) : aHp := aWI (hb117 L xs) 79 1 (-1)
def hb119 (L : Nat) (xs : Nat → Int32) : aHp := aWI (hb118 L xs) 79 2 (-1)
def hb120 (L : Nat) (xs : Nat → Int32) : aHp := aWI (hb119 L xs) 79 3 (-1)
def hb121 (L : Nat) (xs : Nat → Int32) : aHp := aWI (hb120 L xs) 79 4 (-1)
theorem bt12 (L : Nat) (xs : Nat → Int32) : Ev 181 (0, 0) (0, aPad [.ref 79, .int (-1)] 4, []) (hb116 L xs) (.inl none, hb121 L xs) := by
  refine ev_run (n := 12) (u' := (0, 0)) (f' := (14, [some (.ref 79), some (.int (-1)), some (.int 0), some (.int 5)], [])) (h' := hb117 L xs) rfl ?_
  refine ev_run (n := 9) (u' := (0, 0)) (f' := (14, [some (.ref 79), some (.int (-1)), some (.int 1), some (.int 5)], [])) (h' := hb118 L xs) rfl ?_
  refine ev_run (n := 9) (u' := (0, 0)) (f' := (14, [some (.ref 79), some (.int (-1)), some (.int 2), some (.int 5)], [])) (h' := hb119 L xs) rfl ?_
  refine ev_run (n := 9) (u' := (0, 0)) (f' := (14, [some (.ref 79), some (.int (-1)), some (.int 3), some (.int 5)], [])) (h' := hb120 L xs) rfl ?_
  refine ev_run (n := 9) (u' := (0, 0)) (f' := (14, [some (.ref 79), some (.int (-1)), some (.int 4), some (.int 5)], [])) (h' := hb121 L xs) rfl ?_
  refine ev_run (n := 5) (u' := (0, 0)) (f' := (20, [none, none, none, none], [])) (h' := hb121 L xs) rfl ?_
  exact ev_vret rfl rfl rfl
theorem bt13 (L : Nat) (xs : Nat → Int32) : Ev 47 (0, 0) (0, aPad [.ref 76, .ref 2] 2, []) (hb91 L xs) (.inl none, hb121 L xs) := by
  refine ev_run (n := 5) (u' := (1, 5)) (f' := (8, [some (.ref 76), some (.ref 2)], [.ref 77, .ref 76])) (h' := hb92 L xs) rfl ?_
  refine ev_run (n := 1) (u' := (1, 5)) (f' := (11, [some (.ref 76), some (.ref 2)], [])) (h' := hb93 L xs) rfl ?_
  refine ev_run (n := 3) (u' := (2, 10)) (f' := (15, [some (.ref 76), some (.ref 2)], [.ref 78, .ref 76])) (h' := hb94 L xs) rfl ?_
  refine ev_run (n := 1) (u' := (2, 10)) (f' := (18, [some (.ref 76), some (.ref 2)], [])) (h' := hb95 L xs) rfl ?_
  refine ev_run (n := 3) (u' := (3, 15)) (f' := (22, [some (.ref 76), some (.ref 2)], [.ref 79, .ref 76])) (h' := hb96 L xs) rfl ?_
  refine ev_run (n := 1) (u' := (3, 15)) (f' := (25, [some (.ref 76), some (.ref 2)], [])) (h' := hb97 L xs) rfl ?_
  refine ev_run (n := 3) (u' := (4, 20)) (f' := (29, [some (.ref 76), some (.ref 2)], [.ref 80, .ref 76])) (h' := hb98 L xs) rfl ?_
  refine ev_run (n := 1) (u' := (4, 20)) (f' := (32, [some (.ref 76), some (.ref 2)], [])) (h' := hb99 L xs) rfl ?_
  refine ev_run (n := 3) (u' := (5, 25)) (f' := (36, [some (.ref 76), some (.ref 2)], [.ref 81, .ref 76])) (h' := hb100 L xs) rfl ?_
  refine ev_run (n := 1) (u' := (5, 25)) (f' := (39, [some (.ref 76), some (.ref 2)], [])) (h' := hb101 L xs) rfl ?_
  refine ev_run (n := 3) (u' := (6, 30)) (f' := (43, [some (.ref 76), some (.ref 2)], [.ref 82, .ref 76])) (h' := hb102 L xs) rfl ?_
  refine ev_run (n := 1) (u' := (6, 30)) (f' := (46, [some (.ref 76), some (.ref 2)], [])) (h' := hb103 L xs) rfl ?_
  refine ev_run (n := 3) (u' := (7, 35)) (f' := (50, [some (.ref 76), some (.ref 2)], [.ref 83, .ref 76])) (h' := hb104 L xs) rfl ?_
  refine ev_run (n := 1) (u' := (7, 35)) (f' := (53, [some (.ref 76), some (.ref 2)], [])) (h' := hb105 L xs) rfl ?_
  refine ev_run (n := 3) (u' := (7, 35)) (f' := (58, [some (.ref 76), some (.ref 2)], [])) (h' := hb106 L xs) rfl ?_
  refine ev_run (n := 3) (u' := (7, 35)) (f' := (63, [some (.ref 76), some (.ref 2)], [.int (-1), .ref 77])) (h' := hb106 L xs) rfl ?_
  refine ev_call (v := none) (h1 := hb111 L xs) rfl rfl rfl rfl (bt10 L xs) ?_
  show Ev 47 (7, 35) (66, [some (.ref 76), some (.ref 2)], []) (hb111 L xs) _
  refine ev_run (n := 3) (u' := (7, 35)) (f' := (71, [some (.ref 76), some (.ref 2)], [.int (-1), .ref 78])) (h' := hb111 L xs) rfl ?_
  refine ev_call (v := none) (h1 := hb116 L xs) rfl rfl rfl rfl (bt11 L xs) ?_
  show Ev 47 (7, 35) (74, [some (.ref 76), some (.ref 2)], []) (hb116 L xs) _
  refine ev_run (n := 3) (u' := (7, 35)) (f' := (79, [some (.ref 76), some (.ref 2)], [.int (-1), .ref 79])) (h' := hb116 L xs) rfl ?_
  refine ev_call (v := none) (h1 := hb121 L xs) rfl rfl rfl rfl (bt12 L xs) ?_
  show Ev 47 (7, 35) (82, [some (.ref 76), some (.ref 2)], []) (hb121 L xs) _
  exact ev_vret rfl rfl rfl
def hb122 (L : Nat) (xs : Nat → Int32) : aHp := aShR (hb121 L xs) 59 2 (some 76)
def hb123 (L : Nat) (xs : Nat → Int32) : aHp := aNew (hb122 L xs) 107 8
def hb124 (L : Nat) (xs : Nat → Int32) : aHp := aNew (hb123 L xs) 0 5
def hb125 (L : Nat) (xs : Nat → Int32) : aHp := aShR (hb124 L xs) 84 1 (some 85)
def hb126 (L : Nat) (xs : Nat → Int32) : aHp := aNew (hb125 L xs) 0 5
def hb127 (L : Nat) (xs : Nat → Int32) : aHp := aShR (hb126 L xs) 84 2 (some 86)
def hb128 (L : Nat) (xs : Nat → Int32) : aHp := aNew (hb127 L xs) 0 5
def hb129 (L : Nat) (xs : Nat → Int32) : aHp := aShR (hb128 L xs) 84 3 (some 87)
def hb130 (L : Nat) (xs : Nat → Int32) : aHp := aNew (hb129 L xs) 2 5
def hb131 (L : Nat) (xs : Nat → Int32) : aHp := aShR (hb130 L xs) 84 4 (some 88)
def hb132 (L : Nat) (xs : Nat → Int32) : aHp := aNew (hb131 L xs) 2 5
def hb133 (L : Nat) (xs : Nat → Int32) : aHp := aShR (hb132 L xs) 84 5 (some 89)
def hb134 (L : Nat) (xs : Nat → Int32) : aHp := aNew (hb133 L xs) 2 5
def hb135 (L : Nat) (xs : Nat → Int32) : aHp := aShR (hb134 L xs) 84 6 (some 90)
def hb136 (L : Nat) (xs : Nat → Int32) : aHp := aNew (hb135 L xs) 2 5
def hb137 (L : Nat) (xs : Nat → Int32) : aHp := aShR (hb136 L xs) 84 7 (some 91)
def hb138 (L : Nat) (xs : Nat → Int32) : aHp := aShR (hb137 L xs) 84 0 (some 2)
def hb139 (L : Nat) (xs : Nat → Int32) : aHp := aWI (hb138 L xs) 85 0 (-1)
def hb140 (L : Nat) (xs : Nat → Int32) : aHp := aWI (hb139 L xs) 85 1 (-1)
def hb141 (L : Nat) (xs : Nat → Int32) : aHp := aWI (hb140 L xs) 85 2 (-1)
def hb142 (L : Nat) (xs : Nat → Int32) : aHp := aWI (hb141 L xs) 85 3 (-1)
def hb143 (L : Nat) (xs : Nat → Int32) : aHp := aWI (hb142 L xs) 85 4 (-1)
theorem bt14 (L : Nat) (xs : Nat → Int32) : Ev 181 (0, 0) (0, aPad [.ref 85, .int (-1)] 4, []) (hb138 L xs) (.inl none, hb143 L xs) := by
  refine ev_run (n := 12) (u' := (0, 0)) (f' := (14, [some (.ref 85), some (.int (-1)), some (.int 0), some (.int 5)], [])) (h' := hb139 L xs) rfl ?_
  refine ev_run (n := 9) (u' := (0, 0)) (f' := (14, [some (.ref 85), some (.int (-1)), some (.int 1), some (.int 5)], [])) (h' := hb140 L xs) rfl ?_
  refine ev_run (n := 9) (u' := (0, 0)) (f' := (14, [some (.ref 85), some (.int (-1)), some (.int 2), some (.int 5)], [])) (h' := hb141 L xs) rfl ?_
  refine ev_run (n := 9) (u' := (0, 0)) (f' := (14, [some (.ref 85), some (.int (-1)), some (.int 3), some (.int 5)], [])) (h' := hb142 L xs) rfl ?_
  refine ev_run (n := 9) (u' := (0, 0)) (f' := (14, [some (.ref 85), some (.int (-1)), some (.int 4), some (.int 5)], [])) (h' := hb143 L xs) rfl ?_
  refine ev_run (n := 5) (u' := (0, 0)) (f' := (20, [none, none, none, none], [])) (h' := hb143 L xs) rfl ?_
  exact ev_vret rfl rfl rfl
def hb144 (L : Nat) (xs : Nat → Int32) : aHp := aWI (hb143 L xs) 86 0 (-1)
def hb145 (L : Nat) (xs : Nat → Int32) : aHp := aWI (hb144 L xs) 86 1 (-1)
def hb146 (L : Nat) (xs : Nat → Int32) : aHp := aWI (hb145 L xs) 86 2 (-1)
def hb147 (L : Nat) (xs : Nat → Int32) : aHp := aWI (hb146 L xs) 86 3 (-1)
def hb148 (L : Nat) (xs : Nat → Int32) : aHp := aWI (hb147 L xs) 86 4 (-1)
theorem bt15 (L : Nat) (xs : Nat → Int32) : Ev 181 (0, 0) (0, aPad [.ref 86, .int (-1)] 4, []) (hb143 L xs) (.inl none, hb148 L xs) := by
  refine ev_run (n := 12) (u' := (0, 0)) (f' := (14, [some (.ref 86), some (.int (-1)), some (.int 0), some (.int 5)], [])) (h' := hb144 L xs) rfl ?_
  refine ev_run (n := 9) (u' := (0, 0)) (f' := (14, [some (.ref 86), some (.int (-1)), some (.int 1), some (.int 5)], [])) (h' := hb145 L xs) rfl ?_
  refine ev_run (n := 9) (u' := (0, 0)) (f' := (14, [some (.ref 86), some (.int (-1)), some (.int 2), some (.int 5)], [])) (h' := hb146 L xs) rfl ?_
  refine ev_run (n := 9) (u' := (0, 0)) (f' := (14, [some (.ref 86), some (.int (-1)), some (.int 3), some (.int 5)], [])) (h' := hb147 L xs) rfl ?_
  refine ev_run (n := 9) (u' := (0, 0)) (f' := (14, [some (.ref 86), some (.int (-1)), some (.int 4), some (.int 5)], [])) (h' := hb148 L xs) rfl ?_
  refine ev_run (n := 5) (u' := (0, 0)) (f' := (20, [none, none, none, none], [])) (h' := hb148 L xs) rfl ?_
  exact ev_vret rfl rfl rfl
def hb149 (L : Nat) (xs : Nat → Int32) : aHp := aWI (hb148 L xs) 87 0 (-1)
def hb150 (L : Nat) (xs : Nat → Int32) : aHp := aWI (hb149 L xs) 87 1 (-1)
def hb151 (L : Nat) (xs : Nat → Int32) : aHp := aWI (hb150 L xs) 87 2 (-1)
def hb152 (L : Nat) (xs : Nat → Int32) : aHp := aWI (hb151 L xs) 87 3 (-1)
def hb153 (L : Nat) (xs : Nat → Int32) : aHp := aWI (hb152 L xs) 87 4 (-1)
theorem bt16 (L : Nat) (xs : Nat → Int32) : Ev 181 (0, 0) (0, aPad [.ref 87, .int (-1)] 4, []) (hb148 L xs) (.inl none, hb153 L xs) := by
  refine ev_run (n := 12) (u' := (0, 0)) (f' := (14, [some (.ref 87), some (.int (-1)), some (.int 0), some (.int 5)], [])) (h' := hb149 L xs) rfl ?_
  refine ev_run (n := 9) (u' := (0, 0)) (f' := (14, [some (.ref 87), some (.int (-1)), some (.int 1), some (.int 5)], [])) (h' := hb150 L xs) rfl ?_
  refine ev_run (n := 9) (u' := (0, 0)) (f' := (14, [some (.ref 87), some (.int (-1)), some (.int 2), some (.int 5)], [])) (h' := hb151 L xs) rfl ?_
  refine ev_run (n := 9) (u' := (0, 0)) (f' := (14, [some (.ref 87), some (.int (-1)), some (.int 3), some (.int 5)], [])) (h' := hb152 L xs) rfl ?_
  refine ev_run (n := 9) (u' := (0, 0)) (f' := (14, [some (.ref 87), some (.int (-1)), some (.int 4), some (.int 5)], [])) (h' := hb153 L xs) rfl ?_
  refine ev_run (n := 5) (u' := (0, 0)) (f' := (20, [none, none, none, none], [])) (h' := hb153 L xs) rfl ?_
  exact ev_vret rfl rfl rfl
theorem bt17 (L : Nat) (xs : Nat → Int32) : Ev 47 (0, 0) (0, aPad [.ref 84, .ref 2] 2, []) (hb123 L xs) (.inl none, hb153 L xs) := by
  refine ev_run (n := 5) (u' := (1, 5)) (f' := (8, [some (.ref 84), some (.ref 2)], [.ref 85, .ref 84])) (h' := hb124 L xs) rfl ?_
  refine ev_run (n := 1) (u' := (1, 5)) (f' := (11, [some (.ref 84), some (.ref 2)], [])) (h' := hb125 L xs) rfl ?_
  refine ev_run (n := 3) (u' := (2, 10)) (f' := (15, [some (.ref 84), some (.ref 2)], [.ref 86, .ref 84])) (h' := hb126 L xs) rfl ?_
  refine ev_run (n := 1) (u' := (2, 10)) (f' := (18, [some (.ref 84), some (.ref 2)], [])) (h' := hb127 L xs) rfl ?_
  refine ev_run (n := 3) (u' := (3, 15)) (f' := (22, [some (.ref 84), some (.ref 2)], [.ref 87, .ref 84])) (h' := hb128 L xs) rfl ?_
  refine ev_run (n := 1) (u' := (3, 15)) (f' := (25, [some (.ref 84), some (.ref 2)], [])) (h' := hb129 L xs) rfl ?_
  refine ev_run (n := 3) (u' := (4, 20)) (f' := (29, [some (.ref 84), some (.ref 2)], [.ref 88, .ref 84])) (h' := hb130 L xs) rfl ?_
  refine ev_run (n := 1) (u' := (4, 20)) (f' := (32, [some (.ref 84), some (.ref 2)], [])) (h' := hb131 L xs) rfl ?_
  refine ev_run (n := 3) (u' := (5, 25)) (f' := (36, [some (.ref 84), some (.ref 2)], [.ref 89, .ref 84])) (h' := hb132 L xs) rfl ?_
  refine ev_run (n := 1) (u' := (5, 25)) (f' := (39, [some (.ref 84), some (.ref 2)], [])) (h' := hb133 L xs) rfl ?_
  refine ev_run (n := 3) (u' := (6, 30)) (f' := (43, [some (.ref 84), some (.ref 2)], [.ref 90, .ref 84])) (h' := hb134 L xs) rfl ?_
  refine ev_run (n := 1) (u' := (6, 30)) (f' := (46, [some (.ref 84), some (.ref 2)], [])) (h' := hb135 L xs) rfl ?_
  refine ev_run (n := 3) (u' := (7, 35)) (f' := (50, [some (.ref 84), some (.ref 2)], [.ref 91, .ref 84])) (h' := hb136 L xs) rfl ?_
  refine ev_run (n := 1) (u' := (7, 35)) (f' := (53, [some (.ref 84), some (.ref 2)], [])) (h' := hb137 L xs) rfl ?_
  refine ev_run (n := 3) (u' := (7, 35)) (f' := (58, [some (.ref 84), some (.ref 2)], [])) (h' := hb138 L xs) rfl ?_
  refine ev_run (n := 3) (u' := (7, 35)) (f' := (63, [some (.ref 84), some (.ref 2)], [.int (-1), .ref 85])) (h' := hb138 L xs) rfl ?_
  refine ev_call (v := none) (h1 := hb143 L xs) rfl rfl rfl rfl (bt14 L xs) ?_
  show Ev 47 (7, 35) (66, [some (.ref 84), some (.ref 2)], []) (hb143 L xs) _
  refine ev_run (n := 3) (u' := (7, 35)) (f' := (71, [some (.ref 84), some (.ref 2)], [.int (-1), .ref 86])) (h' := hb143 L xs) rfl ?_
  refine ev_call (v := none) (h1 := hb148 L xs) rfl rfl rfl rfl (bt15 L xs) ?_
  show Ev 47 (7, 35) (74, [some (.ref 84), some (.ref 2)], []) (hb148 L xs) _
  refine ev_run (n := 3) (u' := (7, 35)) (f' := (79, [some (.ref 84), some (.ref 2)], [.int (-1), .ref 87])) (h' := hb148 L xs) rfl ?_
  refine ev_call (v := none) (h1 := hb153 L xs) rfl rfl rfl rfl (bt16 L xs) ?_
  show Ev 47 (7, 35) (82, [some (.ref 84), some (.ref 2)], []) (hb153 L xs) _
  exact ev_vret rfl rfl rfl
def hb154 (L : Nat) (xs : Nat → Int32) : aHp := aShR (hb153 L xs) 59 3 (some 84)
def hb155 (L : Nat) (xs : Nat → Int32) : aHp := aNew (hb154 L xs) 6 5
def hb156 (L : Nat) (xs : Nat → Int32) : aHp := aShR (hb155 L xs) 1 2 (some 92)
def hb157 (L : Nat) (xs : Nat → Int32) : aHp := aNew (hb156 L xs) 108 4
def hb158 (L : Nat) (xs : Nat → Int32) : aHp := aWI (hb157 L xs) 93 0 (-1)
theorem bt18 (L : Nat) (xs : Nat → Int32) : Ev 56 (0, 0) (0, aPad [.ref 93] 1, []) (hb157 L xs) (.inl none, hb158 L xs) := by
  refine ev_run (n := 5) (u' := (0, 0)) (f' := (9, [some (.ref 93)], [])) (h' := hb158 L xs) rfl ?_
  exact ev_vret rfl rfl rfl
def hb159 (L : Nat) (xs : Nat → Int32) : aHp := aShR (hb158 L xs) 92 0 (some 93)
def hb160 (L : Nat) (xs : Nat → Int32) : aHp := aNew (hb159 L xs) 108 4
def hb161 (L : Nat) (xs : Nat → Int32) : aHp := aWI (hb160 L xs) 94 0 (-1)
theorem bt19 (L : Nat) (xs : Nat → Int32) : Ev 56 (0, 0) (0, aPad [.ref 94] 1, []) (hb160 L xs) (.inl none, hb161 L xs) := by
  refine ev_run (n := 5) (u' := (0, 0)) (f' := (9, [some (.ref 94)], [])) (h' := hb161 L xs) rfl ?_
  exact ev_vret rfl rfl rfl
def hb162 (L : Nat) (xs : Nat → Int32) : aHp := aShR (hb161 L xs) 92 1 (some 94)
def hb163 (L : Nat) (xs : Nat → Int32) : aHp := aNew (hb162 L xs) 108 4
def hb164 (L : Nat) (xs : Nat → Int32) : aHp := aWI (hb163 L xs) 95 0 (-1)
theorem bt20 (L : Nat) (xs : Nat → Int32) : Ev 56 (0, 0) (0, aPad [.ref 95] 1, []) (hb163 L xs) (.inl none, hb164 L xs) := by
  refine ev_run (n := 5) (u' := (0, 0)) (f' := (9, [some (.ref 95)], [])) (h' := hb164 L xs) rfl ?_
  exact ev_vret rfl rfl rfl
