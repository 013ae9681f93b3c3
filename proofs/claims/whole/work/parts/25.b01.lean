/-! The constructors, run; printed by mkboot.py -/
def hb165 (L : Nat) (xs : Nat → Int32) : aHp := aShR (hb164 L xs) 92 2 (some 95)
def hb166 (L : Nat) (xs : Nat → Int32) : aHp := aNew (hb165 L xs) 108 4
def hb167 (L : Nat) (xs : Nat → Int32) : aHp := aWI (hb166 L xs) 96 0 (-1)
theorem bt21 (L : Nat) (xs : Nat → Int32) : Ev 56 (0, 0) (0, aPad [.ref 96] 1, []) (hb166 L xs) (.inl none, hb167 L xs) := by
  refine ev_run (n := 5) (u' := (0, 0)) (f' := (9, [some (.ref 96)], [])) (h' := hb167 L xs) rfl ?_
  exact ev_vret rfl rfl rfl
def hb168 (L : Nat) (xs : Nat → Int32) : aHp := aShR (hb167 L xs) 92 3 (some 96)
def hb169 (L : Nat) (xs : Nat → Int32) : aHp := aNew (hb168 L xs) 108 4
def hb170 (L : Nat) (xs : Nat → Int32) : aHp := aWI (hb169 L xs) 97 0 (-1)
theorem bt22 (L : Nat) (xs : Nat → Int32) : Ev 56 (0, 0) (0, aPad [.ref 97] 1, []) (hb169 L xs) (.inl none, hb170 L xs) := by
  refine ev_run (n := 5) (u' := (0, 0)) (f' := (9, [some (.ref 97)], [])) (h' := hb170 L xs) rfl ?_
  exact ev_vret rfl rfl rfl
def hb171 (L : Nat) (xs : Nat → Int32) : aHp := aShR (hb170 L xs) 92 4 (some 97)
def hb172 (L : Nat) (xs : Nat → Int32) : aHp := aNew (hb171 L xs) 104 5
def hb173 (L : Nat) (xs : Nat → Int32) : aHp := aNew (hb172 L xs) 0 5
def hb174 (L : Nat) (xs : Nat → Int32) : aHp := aShR (hb173 L xs) 98 1 (some 99)
def hb175 (L : Nat) (xs : Nat → Int32) : aHp := aNew (hb174 L xs) 0 8
def hb176 (L : Nat) (xs : Nat → Int32) : aHp := aShR (hb175 L xs) 98 2 (some 100)
def hb177 (L : Nat) (xs : Nat → Int32) : aHp := aNew (hb176 L xs) 0 8
def hb178 (L : Nat) (xs : Nat → Int32) : aHp := aShR (hb177 L xs) 98 3 (some 101)
def hb179 (L : Nat) (xs : Nat → Int32) : aHp := aNew (hb178 L xs) 0 8
def hb180 (L : Nat) (xs : Nat → Int32) : aHp := aShR (hb179 L xs) 98 4 (some 102)
theorem bt23 (L : Nat) (xs : Nat → Int32) : Ev 29 (0, 0) (0, aPad [.ref 98] 1, []) (hb172 L xs) (.inl none, hb180 L xs) := by
  refine ev_run (n := 5) (u' := (1, 5)) (f' := (8, [some (.ref 98)], [.ref 99, .ref 98])) (h' := hb173 L xs) rfl ?_
  refine ev_run (n := 1) (u' := (1, 5)) (f' := (11, [some (.ref 98)], [])) (h' := hb174 L xs) rfl ?_
  refine ev_run (n := 3) (u' := (2, 13)) (f' := (16, [some (.ref 98)], [.ref 100, .ref 98])) (h' := hb175 L xs) rfl ?_
  refine ev_run (n := 1) (u' := (2, 13)) (f' := (19, [some (.ref 98)], [])) (h' := hb176 L xs) rfl ?_
  refine ev_run (n := 3) (u' := (3, 21)) (f' := (24, [some (.ref 98)], [.ref 101, .ref 98])) (h' := hb177 L xs) rfl ?_
  refine ev_run (n := 1) (u' := (3, 21)) (f' := (27, [some (.ref 98)], [])) (h' := hb178 L xs) rfl ?_
  refine ev_run (n := 3) (u' := (4, 29)) (f' := (32, [some (.ref 98)], [.ref 102, .ref 98])) (h' := hb179 L xs) rfl ?_
  refine ev_run (n := 1) (u' := (4, 29)) (f' := (35, [some (.ref 98)], [])) (h' := hb180 L xs) rfl ?_
  exact ev_vret rfl rfl rfl
def hb181 (L : Nat) (xs : Nat → Int32) : aHp := aShR (hb180 L xs) 1 3 (some 98)
def hb182 (L : Nat) (xs : Nat → Int32) : aHp := aNew (hb181 L xs) 100 3
def hb183 (L : Nat) (xs : Nat → Int32) : aHp := aNew (hb182 L xs) 0 5
def hb184 (L : Nat) (xs : Nat → Int32) : aHp := aShR (hb183 L xs) 103 0 (some 104)
def hb185 (L : Nat) (xs : Nat → Int32) : aHp := aNew (hb184 L xs) 2 5
def hb186 (L : Nat) (xs : Nat → Int32) : aHp := aShR (hb185 L xs) 103 1 (some 105)
def hb187 (L : Nat) (xs : Nat → Int32) : aHp := aNew (hb186 L xs) 2 5
def hb188 (L : Nat) (xs : Nat → Int32) : aHp := aShR (hb187 L xs) 103 2 (some 106)
def hb189 (L : Nat) (xs : Nat → Int32) : aHp := aWI (hb188 L xs) 104 0 1000
def hb190 (L : Nat) (xs : Nat → Int32) : aHp := aWI (hb189 L xs) 104 1 1000
def hb191 (L : Nat) (xs : Nat → Int32) : aHp := aWI (hb190 L xs) 104 2 1000
def hb192 (L : Nat) (xs : Nat → Int32) : aHp := aWI (hb191 L xs) 104 3 1000
def hb193 (L : Nat) (xs : Nat → Int32) : aHp := aWI (hb192 L xs) 104 4 1000
theorem bt24 (L : Nat) (xs : Nat → Int32) : Ev 181 (0, 0) (0, aPad [.ref 104, .int 1000] 4, []) (hb188 L xs) (.inl none, hb193 L xs) := by
  refine ev_run (n := 12) (u' := (0, 0)) (f' := (14, [some (.ref 104), some (.int 1000), some (.int 0), some (.int 5)], [])) (h' := hb189 L xs) rfl ?_
  refine ev_run (n := 9) (u' := (0, 0)) (f' := (14, [some (.ref 104), some (.int 1000), some (.int 1), some (.int 5)], [])) (h' := hb190 L xs) rfl ?_
  refine ev_run (n := 9) (u' := (0, 0)) (f' := (14, [some (.ref 104), some (.int 1000), some (.int 2), some (.int 5)], [])) (h' := hb191 L xs) rfl ?_
  refine ev_run (n := 9) (u' := (0, 0)) (f' := (14, [some (.ref 104), some (.int 1000), some (.int 3), some (.int 5)], [])) (h' := hb192 L xs) rfl ?_
  refine ev_run (n := 9) (u' := (0, 0)) (f' := (14, [some (.ref 104), some (.int 1000), some (.int 4), some (.int 5)], [])) (h' := hb193 L xs) rfl ?_
  refine ev_run (n := 5) (u' := (0, 0)) (f' := (20, [none, none, none, none], [])) (h' := hb193 L xs) rfl ?_
  exact ev_vret rfl rfl rfl
theorem bt25 (L : Nat) (xs : Nat → Int32) : Ev 0 (0, 0) (0, aPad [.ref 103] 1, []) (hb182 L xs) (.inl none, hb193 L xs) := by
  refine ev_run (n := 5) (u' := (1, 5)) (f' := (8, [some (.ref 103)], [.ref 104, .ref 103])) (h' := hb183 L xs) rfl ?_
  refine ev_run (n := 1) (u' := (1, 5)) (f' := (11, [some (.ref 103)], [])) (h' := hb184 L xs) rfl ?_
  refine ev_run (n := 3) (u' := (2, 10)) (f' := (15, [some (.ref 103)], [.ref 105, .ref 103])) (h' := hb185 L xs) rfl ?_
  refine ev_run (n := 1) (u' := (2, 10)) (f' := (18, [some (.ref 103)], [])) (h' := hb186 L xs) rfl ?_
  refine ev_run (n := 3) (u' := (3, 15)) (f' := (22, [some (.ref 103)], [.ref 106, .ref 103])) (h' := hb187 L xs) rfl ?_
  refine ev_run (n := 1) (u' := (3, 15)) (f' := (25, [some (.ref 103)], [])) (h' := hb188 L xs) rfl ?_
  refine ev_run (n := 3) (u' := (3, 15)) (f' := (32, [some (.ref 103)], [.int 1000, .ref 104])) (h' := hb188 L xs) rfl ?_
  refine ev_call (v := none) (h1 := hb193 L xs) rfl rfl rfl rfl (bt24 L xs) ?_
  show Ev 0 (3, 15) (35, [some (.ref 103)], []) (hb193 L xs) _
  exact ev_vret rfl rfl rfl
def hb194 (L : Nat) (xs : Nat → Int32) : aHp := aShR (hb193 L xs) 1 4 (some 103)
def hb195 (L : Nat) (xs : Nat → Int32) : aHp := aNew (hb194 L xs) 103 9
def hb196 (L : Nat) (xs : Nat → Int32) : aHp := aNew (hb195 L xs) 0 12
def hb197 (L : Nat) (xs : Nat → Int32) : aHp := aShR (hb196 L xs) 107 2 (some 108)
def hb198 (L : Nat) (xs : Nat → Int32) : aHp := aNew (hb197 L xs) 0 12
def hb199 (L : Nat) (xs : Nat → Int32) : aHp := aShR (hb198 L xs) 107 3 (some 109)
def hb200 (L : Nat) (xs : Nat → Int32) : aHp := aNew (hb199 L xs) 0 12
def hb201 (L : Nat) (xs : Nat → Int32) : aHp := aShR (hb200 L xs) 107 4 (some 110)
def hb202 (L : Nat) (xs : Nat → Int32) : aHp := aNew (hb201 L xs) 1 12
def hb203 (L : Nat) (xs : Nat → Int32) : aHp := aShR (hb202 L xs) 107 5 (some 111)
def hb204 (L : Nat) (xs : Nat → Int32) : aHp := aNew (hb203 L xs) 0 12
def hb205 (L : Nat) (xs : Nat → Int32) : aHp := aShR (hb204 L xs) 107 6 (some 112)
def hb206 (L : Nat) (xs : Nat → Int32) : aHp := aNew (hb205 L xs) 0 30
def hb207 (L : Nat) (xs : Nat → Int32) : aHp := aShR (hb206 L xs) 107 7 (some 113)
def hb208 (L : Nat) (xs : Nat → Int32) : aHp := aNew (hb207 L xs) 0 30
def hb209 (L : Nat) (xs : Nat → Int32) : aHp := aShR (hb208 L xs) 107 8 (some 114)
theorem bt26 (L : Nat) (xs : Nat → Int32) : Ev 22 (0, 0) (0, aPad [.ref 107] 1, []) (hb195 L xs) (.inl none, hb209 L xs) := by
  refine ev_run (n := 5) (u' := (1, 12)) (f' := (9, [some (.ref 107)], [.ref 108, .ref 107])) (h' := hb196 L xs) rfl ?_
  refine ev_run (n := 1) (u' := (1, 12)) (f' := (12, [some (.ref 107)], [])) (h' := hb197 L xs) rfl ?_
  refine ev_run (n := 3) (u' := (2, 24)) (f' := (17, [some (.ref 107)], [.ref 109, .ref 107])) (h' := hb198 L xs) rfl ?_
  refine ev_run (n := 1) (u' := (2, 24)) (f' := (20, [some (.ref 107)], [])) (h' := hb199 L xs) rfl ?_
  refine ev_run (n := 3) (u' := (3, 36)) (f' := (25, [some (.ref 107)], [.ref 110, .ref 107])) (h' := hb200 L xs) rfl ?_
  refine ev_run (n := 1) (u' := (3, 36)) (f' := (28, [some (.ref 107)], [])) (h' := hb201 L xs) rfl ?_
  refine ev_run (n := 3) (u' := (4, 48)) (f' := (33, [some (.ref 107)], [.ref 111, .ref 107])) (h' := hb202 L xs) rfl ?_
  refine ev_run (n := 1) (u' := (4, 48)) (f' := (36, [some (.ref 107)], [])) (h' := hb203 L xs) rfl ?_
  refine ev_run (n := 3) (u' := (5, 60)) (f' := (41, [some (.ref 107)], [.ref 112, .ref 107])) (h' := hb204 L xs) rfl ?_
  refine ev_run (n := 1) (u' := (5, 60)) (f' := (44, [some (.ref 107)], [])) (h' := hb205 L xs) rfl ?_
  refine ev_run (n := 3) (u' := (6, 90)) (f' := (49, [some (.ref 107)], [.ref 113, .ref 107])) (h' := hb206 L xs) rfl ?_
  refine ev_run (n := 1) (u' := (6, 90)) (f' := (52, [some (.ref 107)], [])) (h' := hb207 L xs) rfl ?_
  refine ev_run (n := 3) (u' := (7, 120)) (f' := (57, [some (.ref 107)], [.ref 114, .ref 107])) (h' := hb208 L xs) rfl ?_
  refine ev_run (n := 1) (u' := (7, 120)) (f' := (60, [some (.ref 107)], [])) (h' := hb209 L xs) rfl ?_
  exact ev_vret rfl rfl rfl
def hb210 (L : Nat) (xs : Nat → Int32) : aHp := aShR (hb209 L xs) 1 5 (some 107)
def hb211 (L : Nat) (xs : Nat → Int32) : aHp := aNew (hb210 L xs) 102 4
def hb212 (L : Nat) (xs : Nat → Int32) : aHp := aWI (hb211 L xs) 115 0 1
def hb213 (L : Nat) (xs : Nat → Int32) : aHp := aNew (hb212 L xs) 0 21
def hb214 (L : Nat) (xs : Nat → Int32) : aHp := aShR (hb213 L xs) 115 2 (some 116)
def hb215 (L : Nat) (xs : Nat → Int32) : aHp := aNew (hb214 L xs) 7 12
def hb216 (L : Nat) (xs : Nat → Int32) : aHp := aShR (hb215 L xs) 115 3 (some 117)
def hb217 (L : Nat) (xs : Nat → Int32) : aHp := aWI (hb216 L xs) 116 0 (-1)
def hb218 (L : Nat) (xs : Nat → Int32) : aHp := aWI (hb217 L xs) 116 1 (-1)
def hb219 (L : Nat) (xs : Nat → Int32) : aHp := aWI (hb218 L xs) 116 2 (-1)
def hb220 (L : Nat) (xs : Nat → Int32) : aHp := aWI (hb219 L xs) 116 3 (-1)
def hb221 (L : Nat) (xs : Nat → Int32) : aHp := aWI (hb220 L xs) 116 4 (-1)
def hb222 (L : Nat) (xs : Nat → Int32) : aHp := aWI (hb221 L xs) 116 5 (-1)
def hb223 (L : Nat) (xs : Nat → Int32) : aHp := aWI (hb222 L xs) 116 6 (-1)
def hb224 (L : Nat) (xs : Nat → Int32) : aHp := aWI (hb223 L xs) 116 7 (-1)
def hb225 (L : Nat) (xs : Nat → Int32) : aHp := aWI (hb224 L xs) 116 8 (-1)
def hb226 (L : Nat) (xs : Nat → Int32) : aHp := aWI (hb225 L xs) 116 9 (-1)
def hb227 (L : Nat) (xs : Nat → Int32) : aHp := aWI (hb226 L xs) 116 10 (-1)
def hb228 (L : Nat) (xs : Nat → Int32) : aHp := aWI (hb227 L xs) 116 11 (-1)
def hb229 (L : Nat) (xs : Nat → Int32) : aHp := aWI (hb228 L xs) 116 12 (-1)
def hb230 (L : Nat) (xs : Nat → Int32) : aHp := aWI (hb229 L xs) 116 13 (-1)
def hb231 (L : Nat) (xs : Nat → Int32) : aHp := aWI (hb230 L xs) 116 14 (-1)
def hb232 (L : Nat) (xs : Nat → Int32) : aHp := aWI (hb231 L xs) 116 15 (-1)
def hb233 (L : Nat) (xs : Nat → Int32) : aHp := aWI (hb232 L xs) 116 16 (-1)
def hb234 (L : Nat) (xs : Nat → Int32) : aHp := aWI (hb233 L xs) 116 17 (-1)
def hb235 (L : Nat) (xs : Nat → Int32) : aHp := aWI (hb234 L xs) 116 18 (-1)
def hb236 (L : Nat) (xs : Nat → Int32) : aHp := aWI (hb235 L xs) 116 19 (-1)
def hb237 (L : Nat) (xs : Nat → Int32) : aHp := aWI (hb236 L xs) 116 20 (-1)
theorem bt27 (L : Nat) (xs : Nat → Int32) : Ev 181 (0, 0) (0, aPad [.ref 116, .int (-1)] 4, []) (hb216 L xs) (.inl none, hb237 L xs) := by
  refine ev_run (n := 12) (u' := (0, 0)) (f' := (14, [some (.ref 116), some (.int (-1)), some (.int 0), some (.int 21)], [])) (h' := hb217 L xs) rfl ?_
  refine ev_run (n := 9) (u' := (0, 0)) (f' := (14, [some (.ref 116), some (.int (-1)), some (.int 1), some (.int 21)], [])) (h' := hb218 L xs) rfl ?_
  refine ev_run (n := 9) (u' := (0, 0)) (f' := (14, [some (.ref 116), some (.int (-1)), some (.int 2), some (.int 21)], [])) (h' := hb219 L xs) rfl ?_
  refine ev_run (n := 9) (u' := (0, 0)) (f' := (14, [some (.ref 116), some (.int (-1)), some (.int 3), some (.int 21)], [])) (h' := hb220 L xs) rfl ?_
  refine ev_run (n := 9) (u' := (0, 0)) (f' := (14, [some (.ref 116), some (.int (-1)), some (.int 4), some (.int 21)], [])) (h' := hb221 L xs) rfl ?_
  refine ev_run (n := 9) (u' := (0, 0)) (f' := (14, [some (.ref 116), some (.int (-1)), some (.int 5), some (.int 21)], [])) (h' := hb222 L xs) rfl ?_
  refine ev_run (n := 9) (u' := (0, 0)) (f' := (14, [some (.ref 116), some (.int (-1)), some (.int 6), some (.int 21)], [])) (h' := hb223 L xs) rfl ?_
  refine ev_run (n := 9) (u' := (0, 0)) (f' := (14, [some (.ref 116), some (.int (-1)), some (.int 7), some (.int 21)], [])) (h' := hb224 L xs) rfl ?_
  refine ev_run (n := 9) (u' := (0, 0)) (f' := (14, [some (.ref 116), some (.int (-1)), some (.int 8), some (.int 21)], [])) (h' := hb225 L xs) rfl ?_
  refine ev_run (n := 9) (u' := (0, 0)) (f' := (14, [some (.ref 116), some (.int (-1)), some (.int 9), some (.int 21)], [])) (h' := hb226 L xs) rfl ?_
  refine ev_run (n := 9) (u' := (0, 0)) (f' := (14, [some (.ref 116), some (.int (-1)), some (.int 10), some (.int 21)], [])) (h' := hb227 L xs) rfl ?_
  refine ev_run (n := 9) (u' := (0, 0)) (f' := (14, [some (.ref 116), some (.int (-1)), some (.int 11), some (.int 21)], [])) (h' := hb228 L xs) rfl ?_
  refine ev_run (n := 9) (u' := (0, 0)) (f' := (14, [some (.ref 116), some (.int (-1)), some (.int 12), some (.int 21)], [])) (h' := hb229 L xs) rfl ?_
  refine ev_run (n := 9) (u' := (0, 0)) (f' := (14, [some (.ref 116), some (.int (-1)), some (.int 13), some (.int 21)], [])) (h' := hb230 L xs) rfl ?_
  refine ev_run (n := 9) (u' := (0, 0)) (f' := (14, [some (.ref 116), some (.int (-1)), some (.int 14), some (.int 21)], [])) (h' := hb231 L xs) rfl ?_
  refine ev_run (n := 9) (u' := (0, 0)) (f' := (14, [some (.ref 116), some (.int (-1)), some (.int 15), some (.int 21)], [])) (h' := hb232 L xs) rfl ?_
  refine ev_run (n := 9) (u' := (0, 0)) (f' := (14, [some (.ref 116), some (.int (-1)), some (.int 16), some (.int 21)], [])) (h' := hb233 L xs) rfl ?_
  refine ev_run (n := 9) (u' := (0, 0)) (f' := (14, [some (.ref 116), some (.int (-1)), some (.int 17), some (.int 21)], [])) (h' := hb234 L xs) rfl ?_
  refine ev_run (n := 9) (u' := (0, 0)) (f' := (14, [some (.ref 116), some (.int (-1)), some (.int 18), some (.int 21)], [])) (h' := hb235 L xs) rfl ?_
  refine ev_run (n := 9) (u' := (0, 0)) (f' := (14, [some (.ref 116), some (.int (-1)), some (.int 19), some (.int 21)], [])) (h' := hb236 L xs) rfl ?_
  refine ev_run (n := 9) (u' := (0, 0)) (f' := (14, [some (.ref 116), some (.int (-1)), some (.int 20), some (.int 21)], [])) (h' := hb237 L xs) rfl ?_
  refine ev_run (n := 5) (u' := (0, 0)) (f' := (20, [none, none, none, none], [])) (h' := hb237 L xs) rfl ?_
  exact ev_vret rfl rfl rfl
def hb238 (L : Nat) (xs : Nat → Int32) : aHp := aNew (hb237 L xs) 105 8
def hb239 (L : Nat) (xs : Nat → Int32) : aHp := aWI (hb238 L xs) 118 3 (-1)
def hb240 (L : Nat) (xs : Nat → Int32) : aHp := aWI (hb239 L xs) 118 5 (-1)
theorem bt28 (L : Nat) (xs : Nat → Int32) : Ev 32 (0, 0) (0, aPad [.ref 118] 1, []) (hb238 L xs) (.inl none, hb240 L xs) := by
  refine ev_run (n := 5) (u' := (0, 0)) (f' := (9, [some (.ref 118)], [])) (h' := hb239 L xs) rfl ?_
  refine ev_run (n := 3) (u' := (0, 0)) (f' := (14, [some (.ref 118)], [])) (h' := hb240 L xs) rfl ?_
  exact ev_vret rfl rfl rfl
def hb241 (L : Nat) (xs : Nat → Int32) : aHp := aShR (hb240 L xs) 117 0 (some 118)
def hb242 (L : Nat) (xs : Nat → Int32) : aHp := aNew (hb241 L xs) 105 8
def hb243 (L : Nat) (xs : Nat → Int32) : aHp := aWI (hb242 L xs) 119 3 (-1)
def hb244 (L : Nat) (xs : Nat → Int32) : aHp := aWI (hb243 L xs) 119 5 (-1)
theorem bt29 (L : Nat) (xs : Nat → Int32) : Ev 32 (0, 0) (0, aPad [.ref 119] 1, []) (hb242 L xs) (.inl none, hb244 L xs) := by
  refine ev_run (n := 5) (u' := (0, 0)) (f' := (9, [some (.ref 119)], [])) (h' := hb243 L xs) rfl ?_
  refine ev_run (n := 3) (u' := (0, 0)) (f' := (14, [some (.ref 119)], [])) (h' := hb244 L xs) rfl ?_
  exact ev_vret rfl rfl rfl
def hb245 (L : Nat) (xs : Nat → Int32) : aHp := aShR (hb244 L xs) 117 1 (some 119)
def hb246 (L : Nat) (xs : Nat → Int32) : aHp := aNew (hb245 L xs) 105 8
def hb247 (L : Nat) (xs : Nat → Int32) : aHp := aWI (hb246 L xs) 120 3 (-1)
def hb248 (L : Nat) (xs : Nat → Int32) : aHp := aWI (hb247 L xs) 120 5 (-1)
theorem bt30 (L : Nat) (xs : Nat → Int32) : Ev 32 (0, 0) (0, aPad [.ref 120] 1, []) (hb246 L xs) (.inl none, hb248 L xs) := by
  refine ev_run (n := 5) (u' := (0, 0)) (f' := (9, [some (.ref 120)], [])) (h' := hb247 L xs) rfl ?_
  refine ev_run (n := 3) (u' := (0, 0)) (f' := (14, [some (.ref 120)], [])) (h' := hb248 L xs) rfl ?_
  exact ev_vret rfl rfl rfl
def hb249 (L : Nat) (xs : Nat → Int32) : aHp := aShR (hb248 L xs) 117 2 (some 120)
def hb250 (L : Nat) (xs : Nat → Int32) : aHp := aNew (hb249 L xs) 105 8
def hb251 (L : Nat) (xs : Nat → Int32) : aHp := aWI (hb250 L xs) 121 3 (-1)
def hb252 (L : Nat) (xs : Nat → Int32) : aHp := aWI (hb251 L xs) 121 5 (-1)
theorem bt31 (L : Nat) (xs : Nat → Int32) : Ev 32 (0, 0) (0, aPad [.ref 121] 1, []) (hb250 L xs) (.inl none, hb252 L xs) := by
  refine ev_run (n := 5) (u' := (0, 0)) (f' := (9, [some (.ref 121)], [])) (h' := hb251 L xs) rfl ?_
  refine ev_run (n := 3) (u' := (0, 0)) (f' := (14, [some (.ref 121)], [])) (h' := hb252 L xs) rfl ?_
  exact ev_vret rfl rfl rfl
def hb253 (L : Nat) (xs : Nat → Int32) : aHp := aShR (hb252 L xs) 117 3 (some 121)
def hb254 (L : Nat) (xs : Nat → Int32) : aHp := aNew (hb253 L xs) 105 8
def hb255 (L : Nat) (xs : Nat → Int32) : aHp := aWI (hb254 L xs) 122 3 (-1)
def hb256 (L : Nat) (xs : Nat → Int32) : aHp := aWI (hb255 L xs) 122 5 (-1)
theorem bt32 (L : Nat) (xs : Nat → Int32) : Ev 32 (0, 0) (0, aPad [.ref 122] 1, []) (hb254 L xs) (.inl none, hb256 L xs) := by
  refine ev_run (n := 5) (u' := (0, 0)) (f' := (9, [some (.ref 122)], [])) (h' := hb255 L xs) rfl ?_
  refine ev_run (n := 3) (u' := (0, 0)) (f' := (14, [some (.ref 122)], [])) (h' := hb256 L xs) rfl ?_
  exact ev_vret rfl rfl rfl
def hb257 (L : Nat) (xs : Nat → Int32) : aHp := aShR (hb256 L xs) 117 4 (some 122)
def hb258 (L : Nat) (xs : Nat → Int32) : aHp := aNew (hb257 L xs) 105 8
def hb259 (L : Nat) (xs : Nat → Int32) : aHp := aWI (hb258 L xs) 123 3 (-1)
def hb260 (L : Nat) (xs : Nat → Int32) : aHp := aWI (hb259 L xs) 123 5 (-1)
theorem bt33 (L : Nat) (xs : Nat → Int32) : Ev 32 (0, 0) (0, aPad [.ref 123] 1, []) (hb258 L xs) (.inl none, hb260 L xs) := by
  refine ev_run (n := 5) (u' := (0, 0)) (f' := (9, [some (.ref 123)], [])) (h' := hb259 L xs) rfl ?_
  refine ev_run (n := 3) (u' := (0, 0)) (f' := (14, [some (.ref 123)], [])) (h' := hb260 L xs) rfl ?_
  exact ev_vret rfl rfl rfl
def hb261 (L : Nat) (xs : Nat → Int32) : aHp := aShR (hb260 L xs) 117 5 (some 123)
def hb262 (L : Nat) (xs : Nat → Int32) : aHp := aNew (hb261 L xs) 105 8
def hb263 (L : Nat) (xs : Nat → Int32) : aHp := aWI (hb262 L xs) 124 3 (-1)
def hb264 (L : Nat) (xs : Nat → Int32) : aHp := aWI (hb263 L xs) 124 5 (-1)
theorem bt34 (L : Nat) (xs : Nat → Int32) : Ev 32 (0, 0) (0, aPad [.ref 124] 1, []) (hb262 L xs) (.inl none, hb264 L xs) := by
  refine ev_run (n := 5) (u' := (0, 0)) (f' := (9, [some (.ref 124)], [])) (h' := hb263 L xs) rfl ?_
  refine ev_run (n := 3) (u' := (0, 0)) (f' := (14, [some (.ref 124)], [])) (h' := hb264 L xs) rfl ?_
  exact ev_vret rfl rfl rfl
def hb265 (L : Nat) (xs : Nat → Int32) : aHp := aShR (hb264 L xs) 117 6 (some 124)
def hb266 (L : Nat) (xs : Nat → Int32) : aHp := aNew (hb265 L xs) 105 8
def hb267 (L : Nat) (xs : Nat → Int32) : aHp := aWI (hb266 L xs) 125 3 (-1)
def hb268 (L : Nat) (xs : Nat → Int32) : aHp := aWI (hb267 L xs) 125 5 (-1)
theorem bt35 (L : Nat) (xs : Nat → Int32) : Ev 32 (0, 0) (0, aPad [.ref 125] 1, []) (hb266 L xs) (.inl none, hb268 L xs) := by
  refine ev_run (n := 5) (u' := (0, 0)) (f' := (9, [some (.ref 125)], [])) (h' := hb267 L xs) rfl ?_
  refine ev_run (n := 3) (u' := (0, 0)) (f' := (14, [some (.ref 125)], [])) (h' := hb268 L xs) rfl ?_
  exact ev_vret rfl rfl rfl
def hb269 (L : Nat) (xs : Nat → Int32) : aHp := aShR (hb268 L xs) 117 7 (some 125)
def hb270 (L : Nat) (xs : Nat → Int32) : aHp := aNew (hb269 L xs) 105 8
def hb271 (L : Nat) (xs : Nat → Int32) : aHp := aWI (hb270 L xs) 126 3 (-1)
def hb272 (L : Nat) (xs : Nat → Int32) : aHp := aWI (hb271 L xs) 126 5 (-1)
theorem bt36 (L : Nat) (xs : Nat → Int32) : Ev 32 (0, 0) (0, aPad [.ref 126] 1, []) (hb270 L xs) (.inl none, hb272 L xs) := by
  refine ev_run (n := 5) (u' := (0, 0)) (f' := (9, [some (.ref 126)], [])) (h' := hb271 L xs) rfl ?_
  refine ev_run (n := 3) (u' := (0, 0)) (f' := (14, [some (.ref 126)], [])) (h' := hb272 L xs) rfl ?_
  exact ev_vret rfl rfl rfl
def hb273 (L : Nat) (xs : Nat → Int32) : aHp := aShR (hb272 L xs) 117 8 (some 126)
def hb274 (L : Nat) (xs : Nat → Int32) : aHp := aNew (hb273 L xs) 105 8
def hb275 (L : Nat) (xs : Nat → Int32) : aHp := aWI (hb274 L xs) 127 3 (-1)
def hb276 (L : Nat) (xs : Nat → Int32) : aHp := aWI (hb275 L xs) 127 5 (-1)
theorem bt37 (L : Nat) (xs : Nat → Int32) : Ev 32 (0, 0) (0, aPad [.ref 127] 1, []) (hb274 L xs) (.inl none, hb276 L xs) := by
  refine ev_run (n := 5) (u' := (0, 0)) (f' := (9, [some (.ref 127)], [])) (h' := hb275 L xs) rfl ?_
  refine ev_run (n := 3) (u' := (0, 0)) (f' := (14, [some (.ref 127)], [])) (h' := hb276 L xs) rfl ?_
  exact ev_vret rfl rfl rfl
def hb277 (L : Nat) (xs : Nat → Int32) : aHp := aShR (hb276 L xs) 117 9 (some 127)
def hb278 (L : Nat) (xs : Nat → Int32) : aHp := aNew (hb277 L xs) 105 8
def hb279 (L : Nat) (xs : Nat → Int32) : aHp := aWI (hb278 L xs) 128 3 (-1)
def hb280 (L : Nat) (xs : Nat → Int32) : aHp := aWI (hb279 L xs) 128 5 (-1)
theorem bt38 (L : Nat) (xs : Nat → Int32) : Ev 32 (0, 0) (0, aPad [.ref 128] 1, []) (hb278 L xs) (.inl none, hb280 L xs) := by
  refine ev_run (n := 5) (u' := (0, 0)) (f' := (9, [some (.ref 128)], [])) (h' := hb279 L xs) rfl ?_
  refine ev_run (n := 3) (u' := (0, 0)) (f' := (14, [some (.ref 128)], [])) (h' := hb280 L xs) rfl ?_
  exact ev_vret rfl rfl rfl
def hb281 (L : Nat) (xs : Nat → Int32) : aHp := aShR (hb280 L xs) 117 10 (some 128)
def hb282 (L : Nat) (xs : Nat → Int32) : aHp := aNew (hb281 L xs) 105 8
def hb283 (L : Nat) (xs : Nat → Int32) : aHp := aWI (hb282 L xs) 129 3 (-1)
def hb284 (L : Nat) (xs : Nat → Int32) : aHp := aWI (hb283 L xs) 129 5 (-1)
theorem bt39 (L : Nat) (xs : Nat → Int32) : Ev 32 (0, 0) (0, aPad [.ref 129] 1, []) (hb282 L xs) (.inl none, hb284 L xs) := by
  refine ev_run (n := 5) (u' := (0, 0)) (f' := (9, [some (.ref 129)], [])) (h' := hb283 L xs) rfl ?_
  refine ev_run (n := 3) (u' := (0, 0)) (f' := (14, [some (.ref 129)], [])) (h' := hb284 L xs) rfl ?_
  exact ev_vret rfl rfl rfl
def hb285 (L : Nat) (xs : Nat → Int32) : aHp := aShR (hb284 L xs) 117 11 (some 129)
set_option maxHeartbeats 20000000 in
set_option maxRecDepth 100000 in
theorem bt40 (L : Nat) (xs : Nat → Int32) : Ev 16 (0, 0) (0, aPad [.ref 115] 2, []) (hb211 L xs) (.inl none, hb285 L xs) := by
  refine ev_run (n := 5) (u' := (0, 0)) (f' := (9, [some (.ref 115), none], [])) (h' := hb212 L xs) rfl ?_
  refine ev_run (n := 3) (u' := (1, 21)) (f' := (14, [some (.ref 115), none], [.ref 116, .ref 115])) (h' := hb213 L xs) rfl ?_
  refine ev_run (n := 1) (u' := (1, 21)) (f' := (17, [some (.ref 115), none], [])) (h' := hb214 L xs) rfl ?_
  refine ev_run (n := 3) (u' := (2, 33)) (f' := (23, [some (.ref 115), none], [.ref 117, .ref 115])) (h' := hb215 L xs) rfl ?_
  refine ev_run (n := 1) (u' := (2, 33)) (f' := (26, [some (.ref 115), none], [])) (h' := hb216 L xs) rfl ?_
  refine ev_run (n := 3) (u' := (2, 33)) (f' := (31, [some (.ref 115), none], [.int (-1), .ref 116])) (h' := hb216 L xs) rfl ?_
  refine ev_call (v := none) (h1 := hb237 L xs) rfl rfl rfl rfl (bt27 L xs) ?_
  show Ev 16 (2, 33) (34, [some (.ref 115), none], []) (hb237 L xs) _
  refine ev_run (n := 9) (u' := (3, 41)) (f' := (50, [some (.ref 115), some (.int 0)], [.ref 118, .int 0, .ref 117])) (h' := hb238 L xs) rfl ?_
  refine ev_run (n := 1) (u' := (3, 41)) (f' := (51, [some (.ref 115), some (.int 0)], [.ref 118, .ref 118, .int 0, .ref 117])) (h' := hb238 L xs) rfl ?_
  refine ev_call (v := none) (h1 := hb240 L xs) rfl rfl rfl rfl (bt28 L xs) ?_
  show Ev 16 (3, 41) (54, [some (.ref 115), some (.int 0)], [.ref 118, .int 0, .ref 117]) (hb240 L xs) _
  refine ev_run (n := 1) (u' := (3, 41)) (f' := (55, [some (.ref 115), some (.int 0)], [])) (h' := hb241 L xs) rfl ?_
  refine ev_run (n := 9) (u' := (4, 49)) (f' := (50, [some (.ref 115), some (.int 1)], [.ref 119, .int 1, .ref 117])) (h' := hb242 L xs) rfl ?_
  refine ev_run (n := 1) (u' := (4, 49)) (f' := (51, [some (.ref 115), some (.int 1)], [.ref 119, .ref 119, .int 1, .ref 117])) (h' := hb242 L xs) rfl ?_
  refine ev_call (v := none) (h1 := hb244 L xs) rfl rfl rfl rfl (bt29 L xs) ?_
  show Ev 16 (4, 49) (54, [some (.ref 115), some (.int 1)], [.ref 119, .int 1, .ref 117]) (hb244 L xs) _
  refine ev_run (n := 1) (u' := (4, 49)) (f' := (55, [some (.ref 115), some (.int 1)], [])) (h' := hb245 L xs) rfl ?_
  refine ev_run (n := 9) (u' := (5, 57)) (f' := (50, [some (.ref 115), some (.int 2)], [.ref 120, .int 2, .ref 117])) (h' := hb246 L xs) rfl ?_
  refine ev_run (n := 1) (u' := (5, 57)) (f' := (51, [some (.ref 115), some (.int 2)], [.ref 120, .ref 120, .int 2, .ref 117])) (h' := hb246 L xs) rfl ?_
  refine ev_call (v := none) (h1 := hb248 L xs) rfl rfl rfl rfl (bt30 L xs) ?_
  show Ev 16 (5, 57) (54, [some (.ref 115), some (.int 2)], [.ref 120, .int 2, .ref 117]) (hb248 L xs) _
  refine ev_run (n := 1) (u' := (5, 57)) (f' := (55, [some (.ref 115), some (.int 2)], [])) (h' := hb249 L xs) rfl ?_
  refine ev_run (n := 9) (u' := (6, 65)) (f' := (50, [some (.ref 115), some (.int 3)], [.ref 121, .int 3, .ref 117])) (h' := hb250 L xs) rfl ?_
  refine ev_run (n := 1) (u' := (6, 65)) (f' := (51, [some (.ref 115), some (.int 3)], [.ref 121, .ref 121, .int 3, .ref 117])) (h' := hb250 L xs) rfl ?_
  refine ev_call (v := none) (h1 := hb252 L xs) rfl rfl rfl rfl (bt31 L xs) ?_
  show Ev 16 (6, 65) (54, [some (.ref 115), some (.int 3)], [.ref 121, .int 3, .ref 117]) (hb252 L xs) _
  refine ev_run (n := 1) (u' := (6, 65)) (f' := (55, [some (.ref 115), some (.int 3)], [])) (h' := hb253 L xs) rfl ?_
  refine ev_run (n := 9) (u' := (7, 73)) (f' := (50, [some (.ref 115), some (.int 4)], [.ref 122, .int 4, .ref 117])) (h' := hb254 L xs) rfl ?_
  refine ev_run (n := 1) (u' := (7, 73)) (f' := (51, [some (.ref 115), some (.int 4)], [.ref 122, .ref 122, .int 4, .ref 117])) (h' := hb254 L xs) rfl ?_
  refine ev_call (v := none) (h1 := hb256 L xs) rfl rfl rfl rfl (bt32 L xs) ?_
  show Ev 16 (7, 73) (54, [some (.ref 115), some (.int 4)], [.ref 122, .int 4, .ref 117]) (hb256 L xs) _
  refine ev_run (n := 1) (u' := (7, 73)) (f' := (55, [some (.ref 115), some (.int 4)], [])) (h' := hb257 L xs) rfl ?_
  refine ev_run (n := 9) (u' := (8, 81)) (f' := (50, [some (.ref 115), some (.int 5)], [.ref 123, .int 5, .ref 117])) (h' := hb258 L xs) rfl ?_
  refine ev_run (n := 1) (u' := (8, 81)) (f' := (51, [some (.ref 115), some (.int 5)], [.ref 123, .ref 123, .int 5, .ref 117])) (h' := hb258 L xs) rfl ?_
  refine ev_call (v := none) (h1 := hb260 L xs) rfl rfl rfl rfl (bt33 L xs) ?_
  show Ev 16 (8, 81) (54, [some (.ref 115), some (.int 5)], [.ref 123, .int 5, .ref 117]) (hb260 L xs) _
  refine ev_run (n := 1) (u' := (8, 81)) (f' := (55, [some (.ref 115), some (.int 5)], [])) (h' := hb261 L xs) rfl ?_
  refine ev_run (n := 9) (u' := (9, 89)) (f' := (50, [some (.ref 115), some (.int 6)], [.ref 124, .int 6, .ref 117])) (h' := hb262 L xs) rfl ?_
  refine ev_run (n := 1) (u' := (9, 89)) (f' := (51, [some (.ref 115), some (.int 6)], [.ref 124, .ref 124, .int 6, .ref 117])) (h' := hb262 L xs) rfl ?_
  refine ev_call (v := none) (h1 := hb264 L xs) rfl rfl rfl rfl (bt34 L xs) ?_
  show Ev 16 (9, 89) (54, [some (.ref 115), some (.int 6)], [.ref 124, .int 6, .ref 117]) (hb264 L xs) _
  refine ev_run (n := 1) (u' := (9, 89)) (f' := (55, [some (.ref 115), some (.int 6)], [])) (h' := hb265 L xs) rfl ?_
  refine ev_run (n := 9) (u' := (10, 97)) (f' := (50, [some (.ref 115), some (.int 7)], [.ref 125, .int 7, .ref 117])) (h' := hb266 L xs) rfl ?_
  refine ev_run (n := 1) (u' := (10, 97)) (f' := (51, [some (.ref 115), some (.int 7)], [.ref 125, .ref 125, .int 7, .ref 117])) (h' := hb266 L xs) rfl ?_
  refine ev_call (v := none) (h1 := hb268 L xs) rfl rfl rfl rfl (bt35 L xs) ?_
  show Ev 16 (10, 97) (54, [some (.ref 115), some (.int 7)], [.ref 125, .int 7, .ref 117]) (hb268 L xs) _
  refine ev_run (n := 1) (u' := (10, 97)) (f' := (55, [some (.ref 115), some (.int 7)], [])) (h' := hb269 L xs) rfl ?_
  refine ev_run (n := 9) (u' := (11, 105)) (f' := (50, [some (.ref 115), some (.int 8)], [.ref 126, .int 8, .ref 117])) (h' := hb270 L xs) rfl ?_
  refine ev_run (n := 1) (u' := (11, 105)) (f' := (51, [some (.ref 115), some (.int 8)], [.ref 126, .ref 126, .int 8, .ref 117])) (h' := hb270 L xs) rfl ?_
  refine ev_call (v := none) (h1 := hb272 L xs) rfl rfl rfl rfl (bt36 L xs) ?_
  show Ev 16 (11, 105) (54, [some (.ref 115), some (.int 8)], [.ref 126, .int 8, .ref 117]) (hb272 L xs) _
  refine ev_run (n := 1) (u' := (11, 105)) (f' := (55, [some (.ref 115), some (.int 8)], [])) (h' := hb273 L xs) rfl ?_
  refine ev_run (n := 9) (u' := (12, 113)) (f' := (50, [some (.ref 115), some (.int 9)], [.ref 127, .int 9, .ref 117])) (h' := hb274 L xs) rfl ?_
  refine ev_run (n := 1) (u' := (12, 113)) (f' := (51, [some (.ref 115), some (.int 9)], [.ref 127, .ref 127, .int 9, .ref 117])) (h' := hb274 L xs) rfl ?_
  refine ev_call (v := none) (h1 := hb276 L xs) rfl rfl rfl rfl (bt37 L xs) ?_
  show Ev 16 (12, 113) (54, [some (.ref 115), some (.int 9)], [.ref 127, .int 9, .ref 117]) (hb276 L xs) _
  refine ev_run (n := 1) (u' := (12, 113)) (f' := (55, [some (.ref 115), some (.int 9)], [])) (h' := hb277 L xs) rfl ?_
  refine ev_run (n := 9) (u' := (13, 121)) (f' := (50, [some (.ref 115), some (.int 10)], [.ref 128, .int 10, .ref 117])) (h' := hb278 L xs) rfl ?_
  refine ev_run (n := 1) (u' := (13, 121)) (f' := (51, [some (.ref 115), some (.int 10)], [.ref 128, .ref 128, .int 10, .ref 117])) (h' := hb278 L xs) rfl ?_
  refine ev_call (v := none) (h1 := hb280 L xs) rfl rfl rfl rfl (bt38 L xs) ?_
  show Ev 16 (13, 121) (54, [some (.ref 115), some (.int 10)], [.ref 128, .int 10, .ref 117]) (hb280 L xs) _
  refine ev_run (n := 1) (u' := (13, 121)) (f' := (55, [some (.ref 115), some (.int 10)], [])) (h' := hb281 L xs) rfl ?_
  refine ev_run (n := 9) (u' := (14, 129)) (f' := (50, [some (.ref 115), some (.int 11)], [.ref 129, .int 11, .ref 117])) (h' := hb282 L xs) rfl ?_
  refine ev_run (n := 1) (u' := (14, 129)) (f' := (51, [some (.ref 115), some (.int 11)], [.ref 129, .ref 129, .int 11, .ref 117])) (h' := hb282 L xs) rfl ?_
  refine ev_call (v := none) (h1 := hb284 L xs) rfl rfl rfl rfl (bt39 L xs) ?_
  show Ev 16 (14, 129) (54, [some (.ref 115), some (.int 11)], [.ref 129, .int 11, .ref 117]) (hb284 L xs) _
  refine ev_run (n := 1) (u' := (14, 129)) (f' := (55, [some (.ref 115), some (.int 11)], [])) (h' := hb285 L xs) rfl ?_
  refine ev_run (n := 5) (u' := (14, 129)) (f' := (61, [none, none], [])) (h' := hb285 L xs) rfl ?_
  exact ev_vret rfl rfl rfl
def hb286 (L : Nat) (xs : Nat → Int32) : aHp := aShR (hb285 L xs) 1 6 (some 115)
def hb287 (L : Nat) (xs : Nat → Int32) : aHp := aNew (hb286 L xs) 106 13
def hb288 (L : Nat) (xs : Nat → Int32) : aHp := aNew (hb287 L xs) 0 24
def hb289 (L : Nat) (xs : Nat → Int32) : aHp := aShR (hb288 L xs) 130 1 (some 131)
def hb290 (L : Nat) (xs : Nat → Int32) : aHp := aNew (hb289 L xs) 0 6480
def hb291 (L : Nat) (xs : Nat → Int32) : aHp := aShR (hb290 L xs) 130 2 (some 132)
def hb292 (L : Nat) (xs : Nat → Int32) : aHp := aNew (hb291 L xs) 0 6480
def hb293 (L : Nat) (xs : Nat → Int32) : aHp := aShR (hb292 L xs) 130 3 (some 133)
def hb294 (L : Nat) (xs : Nat → Int32) : aHp := aNew (hb293 L xs) 0 6480
def hb295 (L : Nat) (xs : Nat → Int32) : aHp := aShR (hb294 L xs) 130 4 (some 134)
def hb296 (L : Nat) (xs : Nat → Int32) : aHp := aNew (hb295 L xs) 0 6480
def hb297 (L : Nat) (xs : Nat → Int32) : aHp := aShR (hb296 L xs) 130 5 (some 135)
def hb298 (L : Nat) (xs : Nat → Int32) : aHp := aNew (hb297 L xs) 0 5
def hb299 (L : Nat) (xs : Nat → Int32) : aHp := aShR (hb298 L xs) 130 6 (some 136)
def hb300 (L : Nat) (xs : Nat → Int32) : aHp := aNew (hb299 L xs) 0 5
def hb301 (L : Nat) (xs : Nat → Int32) : aHp := aShR (hb300 L xs) 130 7 (some 137)
def hb302 (L : Nat) (xs : Nat → Int32) : aHp := aWI (hb301 L xs) 130 11 (-1)
def hb303 (L : Nat) (xs : Nat → Int32) : aHp := aShR (hb302 L xs) 130 0 (some 2)
def hb304 (L : Nat) (xs : Nat → Int32) : aHp := aWI (hb303 L xs) 137 0 (-1)
def hb305 (L : Nat) (xs : Nat → Int32) : aHp := aWI (hb304 L xs) 137 1 (-1)
def hb306 (L : Nat) (xs : Nat → Int32) : aHp := aWI (hb305 L xs) 137 2 (-1)
def hb307 (L : Nat) (xs : Nat → Int32) : aHp := aWI (hb306 L xs) 137 3 (-1)
def hb308 (L : Nat) (xs : Nat → Int32) : aHp := aWI (hb307 L xs) 137 4 (-1)
theorem bt41 (L : Nat) (xs : Nat → Int32) : Ev 181 (0, 0) (0, aPad [.ref 137, .int (-1)] 4, []) (hb303 L xs) (.inl none, hb308 L xs) := by
  refine ev_run (n := 12) (u' := (0, 0)) (f' := (14, [some (.ref 137), some (.int (-1)), some (.int 0), some (.int 5)], [])) (h' := hb304 L xs) rfl ?_
  refine ev_run (n := 9) (u' := (0, 0)) (f' := (14, [some (.ref 137), some (.int (-1)), some (.int 1), some (.int 5)], [])) (h' := hb305 L xs) rfl ?_
  refine ev_run (n := 9) (u' := (0, 0)) (f' := (14, [some (.ref 137), some (.int (-1)), some (.int 2), some (.int 5)], [])) (h' := hb306 L xs) rfl ?_
  refine ev_run (n := 9) (u' := (0, 0)) (f' := (14, [some (.ref 137), some (.int (-1)), some (.int 3), some (.int 5)], [])) (h' := hb307 L xs) rfl ?_
  refine ev_run (n := 9) (u' := (0, 0)) (f' := (14, [some (.ref 137), some (.int (-1)), some (.int 4), some (.int 5)], [])) (h' := hb308 L xs) rfl ?_
  refine ev_run (n := 5) (u' := (0, 0)) (f' := (20, [none, none, none, none], [])) (h' := hb308 L xs) rfl ?_
  exact ev_vret rfl rfl rfl
set_option maxHeartbeats 20000000 in
set_option maxRecDepth 100000 in
theorem bt42 (L : Nat) (xs : Nat → Int32) : Ev 37 (0, 0) (0, aPad [.ref 130, .ref 2] 2, []) (hb287 L xs) (.inl none, hb308 L xs) := by
  refine ev_run (n := 5) (u' := (1, 24)) (f' := (9, [some (.ref 130), some (.ref 2)], [.ref 131, .ref 130])) (h' := hb288 L xs) rfl ?_
  refine ev_run (n := 1) (u' := (1, 24)) (f' := (12, [some (.ref 130), some (.ref 2)], [])) (h' := hb289 L xs) rfl ?_
  refine ev_run (n := 3) (u' := (2, 6504)) (f' := (18, [some (.ref 130), some (.ref 2)], [.ref 132, .ref 130])) (h' := hb290 L xs) rfl ?_
  refine ev_run (n := 1) (u' := (2, 6504)) (f' := (21, [some (.ref 130), some (.ref 2)], [])) (h' := hb291 L xs) rfl ?_
  refine ev_run (n := 3) (u' := (3, 12984)) (f' := (27, [some (.ref 130), some (.ref 2)], [.ref 133, .ref 130])) (h' := hb292 L xs) rfl ?_
  refine ev_run (n := 1) (u' := (3, 12984)) (f' := (30, [some (.ref 130), some (.ref 2)], [])) (h' := hb293 L xs) rfl ?_
  refine ev_run (n := 3) (u' := (4, 19464)) (f' := (36, [some (.ref 130), some (.ref 2)], [.ref 134, .ref 130])) (h' := hb294 L xs) rfl ?_
  refine ev_run (n := 1) (u' := (4, 19464)) (f' := (39, [some (.ref 130), some (.ref 2)], [])) (h' := hb295 L xs) rfl ?_
  refine ev_run (n := 3) (u' := (5, 25944)) (f' := (45, [some (.ref 130), some (.ref 2)], [.ref 135, .ref 130])) (h' := hb296 L xs) rfl ?_
  refine ev_run (n := 1) (u' := (5, 25944)) (f' := (48, [some (.ref 130), some (.ref 2)], [])) (h' := hb297 L xs) rfl ?_
  refine ev_run (n := 3) (u' := (6, 25949)) (f' := (52, [some (.ref 130), some (.ref 2)], [.ref 136, .ref 130])) (h' := hb298 L xs) rfl ?_
  refine ev_run (n := 1) (u' := (6, 25949)) (f' := (55, [some (.ref 130), some (.ref 2)], [])) (h' := hb299 L xs) rfl ?_
  refine ev_run (n := 3) (u' := (7, 25954)) (f' := (59, [some (.ref 130), some (.ref 2)], [.ref 137, .ref 130])) (h' := hb300 L xs) rfl ?_
  refine ev_run (n := 1) (u' := (7, 25954)) (f' := (62, [some (.ref 130), some (.ref 2)], [])) (h' := hb301 L xs) rfl ?_
  refine ev_run (n := 3) (u' := (7, 25954)) (f' := (67, [some (.ref 130), some (.ref 2)], [])) (h' := hb302 L xs) rfl ?_
  refine ev_run (n := 3) (u' := (7, 25954)) (f' := (72, [some (.ref 130), some (.ref 2)], [])) (h' := hb303 L xs) rfl ?_
  refine ev_run (n := 3) (u' := (7, 25954)) (f' := (77, [some (.ref 130), some (.ref 2)], [.int (-1), .ref 137])) (h' := hb303 L xs) rfl ?_
  refine ev_call (v := none) (h1 := hb308 L xs) rfl rfl rfl rfl (bt41 L xs) ?_
  show Ev 37 (7, 25954) (80, [some (.ref 130), some (.ref 2)], []) (hb308 L xs) _
  exact ev_vret rfl rfl rfl
def hb309 (L : Nat) (xs : Nat → Int32) : aHp := aShR (hb308 L xs) 1 7 (some 130)
def hb310 (L : Nat) (xs : Nat → Int32) : aHp := aWI (hb309 L xs) 1 8 0
set_option maxHeartbeats 20000000 in
set_option maxRecDepth 100000 in
theorem bt43 (L : Nat) (xs : Nat → Int32) : Ev 58 (0, 0) (0, aPad [.ref 1] 2, []) (hb1 L xs) (.inl none, hb310 L xs) := by
  refine ev_run (n := 4) (u' := (1, 10)) (f' := (8, [some (.ref 1), none], [.ref 2, .ref 1])) (h' := hb2 L xs) rfl ?_
  refine ev_run (n := 1) (u' := (1, 10)) (f' := (9, [some (.ref 1), none], [.ref 2, .ref 2, .ref 1])) (h' := hb2 L xs) rfl ?_
  refine ev_call (v := none) (h1 := hb23 L xs) rfl rfl rfl rfl (bt1 L xs) ?_
  show Ev 58 (57, 404) (12, [some (.ref 1), none], [.ref 2, .ref 1]) (hb23 L xs) _
  refine ev_run (n := 1) (u' := (57, 404)) (f' := (15, [some (.ref 1), none], [])) (h' := hb24 L xs) rfl ?_
  refine ev_run (n := 3) (u' := (58, 408)) (f' := (20, [some (.ref 1), none], [.ref 59, .ref 1])) (h' := hb25 L xs) rfl ?_
  refine ev_run (n := 1) (u' := (58, 408)) (f' := (23, [some (.ref 1), none], [])) (h' := hb26 L xs) rfl ?_
  refine ev_run (n := 9) (u' := (59, 416)) (f' := (38, [some (.ref 1), some (.int 0)], [.ref 60, .int 0, .ref 59])) (h' := hb27 L xs) rfl ?_
  refine ev_run (n := 3) (u' := (59, 416)) (f' := (43, [some (.ref 1), some (.int 0)], [.ref 2, .ref 60, .ref 60, .int 0, .ref 59])) (h' := hb27 L xs) rfl ?_
  refine ev_call (v := none) (h1 := hb57 L xs) rfl rfl rfl rfl (bt5 L xs) ?_
  show Ev 58 (66, 451) (46, [some (.ref 1), some (.int 0)], [.ref 60, .int 0, .ref 59]) (hb57 L xs) _
  refine ev_run (n := 1) (u' := (66, 451)) (f' := (47, [some (.ref 1), some (.int 0)], [])) (h' := hb58 L xs) rfl ?_
  refine ev_run (n := 9) (u' := (67, 459)) (f' := (38, [some (.ref 1), some (.int 1)], [.ref 68, .int 1, .ref 59])) (h' := hb59 L xs) rfl ?_
  refine ev_run (n := 3) (u' := (67, 459)) (f' := (43, [some (.ref 1), some (.int 1)], [.ref 2, .ref 68, .ref 68, .int 1, .ref 59])) (h' := hb59 L xs) rfl ?_
  refine ev_call (v := none) (h1 := hb89 L xs) rfl rfl rfl rfl (bt9 L xs) ?_
  show Ev 58 (74, 494) (46, [some (.ref 1), some (.int 1)], [.ref 68, .int 1, .ref 59]) (hb89 L xs) _
  refine ev_run (n := 1) (u' := (74, 494)) (f' := (47, [some (.ref 1), some (.int 1)], [])) (h' := hb90 L xs) rfl ?_
  refine ev_run (n := 9) (u' := (75, 502)) (f' := (38, [some (.ref 1), some (.int 2)], [.ref 76, .int 2, .ref 59])) (h' := hb91 L xs) rfl ?_
  refine ev_run (n := 3) (u' := (75, 502)) (f' := (43, [some (.ref 1), some (.int 2)], [.ref 2, .ref 76, .ref 76, .int 2, .ref 59])) (h' := hb91 L xs) rfl ?_
  refine ev_call (v := none) (h1 := hb121 L xs) rfl rfl rfl rfl (bt13 L xs) ?_
  show Ev 58 (82, 537) (46, [some (.ref 1), some (.int 2)], [.ref 76, .int 2, .ref 59]) (hb121 L xs) _
  refine ev_run (n := 1) (u' := (82, 537)) (f' := (47, [some (.ref 1), some (.int 2)], [])) (h' := hb122 L xs) rfl ?_
  refine ev_run (n := 9) (u' := (83, 545)) (f' := (38, [some (.ref 1), some (.int 3)], [.ref 84, .int 3, .ref 59])) (h' := hb123 L xs) rfl ?_
  refine ev_run (n := 3) (u' := (83, 545)) (f' := (43, [some (.ref 1), some (.int 3)], [.ref 2, .ref 84, .ref 84, .int 3, .ref 59])) (h' := hb123 L xs) rfl ?_
  refine ev_call (v := none) (h1 := hb153 L xs) rfl rfl rfl rfl (bt17 L xs) ?_
  show Ev 58 (90, 580) (46, [some (.ref 1), some (.int 3)], [.ref 84, .int 3, .ref 59]) (hb153 L xs) _
  refine ev_run (n := 1) (u' := (90, 580)) (f' := (47, [some (.ref 1), some (.int 3)], [])) (h' := hb154 L xs) rfl ?_
  refine ev_run (n := 8) (u' := (91, 585)) (f' := (58, [some (.ref 1), none], [.ref 92, .ref 1])) (h' := hb155 L xs) rfl ?_
  refine ev_run (n := 1) (u' := (91, 585)) (f' := (61, [some (.ref 1), none], [])) (h' := hb156 L xs) rfl ?_
  refine ev_run (n := 9) (u' := (92, 589)) (f' := (76, [some (.ref 1), some (.int 0)], [.ref 93, .int 0, .ref 92])) (h' := hb157 L xs) rfl ?_
  refine ev_run (n := 1) (u' := (92, 589)) (f' := (77, [some (.ref 1), some (.int 0)], [.ref 93, .ref 93, .int 0, .ref 92])) (h' := hb157 L xs) rfl ?_
  refine ev_call (v := none) (h1 := hb158 L xs) rfl rfl rfl rfl (bt18 L xs) ?_
  show Ev 58 (92, 589) (80, [some (.ref 1), some (.int 0)], [.ref 93, .int 0, .ref 92]) (hb158 L xs) _
  refine ev_run (n := 1) (u' := (92, 589)) (f' := (81, [some (.ref 1), some (.int 0)], [])) (h' := hb159 L xs) rfl ?_
  refine ev_run (n := 9) (u' := (93, 593)) (f' := (76, [some (.ref 1), some (.int 1)], [.ref 94, .int 1, .ref 92])) (h' := hb160 L xs) rfl ?_
  refine ev_run (n := 1) (u' := (93, 593)) (f' := (77, [some (.ref 1), some (.int 1)], [.ref 94, .ref 94, .int 1, .ref 92])) (h' := hb160 L xs) rfl ?_
  refine ev_call (v := none) (h1 := hb161 L xs) rfl rfl rfl rfl (bt19 L xs) ?_
  show Ev 58 (93, 593) (80, [some (.ref 1), some (.int 1)], [.ref 94, .int 1, .ref 92]) (hb161 L xs) _
  refine ev_run (n := 1) (u' := (93, 593)) (f' := (81, [some (.ref 1), some (.int 1)], [])) (h' := hb162 L xs) rfl ?_
  refine ev_run (n := 9) (u' := (94, 597)) (f' := (76, [some (.ref 1), some (.int 2)], [.ref 95, .int 2, .ref 92])) (h' := hb163 L xs) rfl ?_
  refine ev_run (n := 1) (u' := (94, 597)) (f' := (77, [some (.ref 1), some (.int 2)], [.ref 95, .ref 95, .int 2, .ref 92])) (h' := hb163 L xs) rfl ?_
  refine ev_call (v := none) (h1 := hb164 L xs) rfl rfl rfl rfl (bt20 L xs) ?_
  show Ev 58 (94, 597) (80, [some (.ref 1), some (.int 2)], [.ref 95, .int 2, .ref 92]) (hb164 L xs) _
  refine ev_run (n := 1) (u' := (94, 597)) (f' := (81, [some (.ref 1), some (.int 2)], [])) (h' := hb165 L xs) rfl ?_
  refine ev_run (n := 9) (u' := (95, 601)) (f' := (76, [some (.ref 1), some (.int 3)], [.ref 96, .int 3, .ref 92])) (h' := hb166 L xs) rfl ?_
  refine ev_run (n := 1) (u' := (95, 601)) (f' := (77, [some (.ref 1), some (.int 3)], [.ref 96, .ref 96, .int 3, .ref 92])) (h' := hb166 L xs) rfl ?_
  refine ev_call (v := none) (h1 := hb167 L xs) rfl rfl rfl rfl (bt21 L xs) ?_
  show Ev 58 (95, 601) (80, [some (.ref 1), some (.int 3)], [.ref 96, .int 3, .ref 92]) (hb167 L xs) _
  refine ev_run (n := 1) (u' := (95, 601)) (f' := (81, [some (.ref 1), some (.int 3)], [])) (h' := hb168 L xs) rfl ?_
  refine ev_run (n := 9) (u' := (96, 605)) (f' := (76, [some (.ref 1), some (.int 4)], [.ref 97, .int 4, .ref 92])) (h' := hb169 L xs) rfl ?_
  refine ev_run (n := 1) (u' := (96, 605)) (f' := (77, [some (.ref 1), some (.int 4)], [.ref 97, .ref 97, .int 4, .ref 92])) (h' := hb169 L xs) rfl ?_
  refine ev_call (v := none) (h1 := hb170 L xs) rfl rfl rfl rfl (bt22 L xs) ?_
  show Ev 58 (96, 605) (80, [some (.ref 1), some (.int 4)], [.ref 97, .int 4, .ref 92]) (hb170 L xs) _
  refine ev_run (n := 1) (u' := (96, 605)) (f' := (81, [some (.ref 1), some (.int 4)], [])) (h' := hb171 L xs) rfl ?_
  refine ev_run (n := 7) (u' := (97, 610)) (f' := (91, [some (.ref 1), none], [.ref 98, .ref 1])) (h' := hb172 L xs) rfl ?_
  refine ev_run (n := 1) (u' := (97, 610)) (f' := (92, [some (.ref 1), none], [.ref 98, .ref 98, .ref 1])) (h' := hb172 L xs) rfl ?_
  refine ev_call (v := none) (h1 := hb180 L xs) rfl rfl rfl rfl (bt23 L xs) ?_
  show Ev 58 (101, 639) (95, [some (.ref 1), none], [.ref 98, .ref 1]) (hb180 L xs) _
  refine ev_run (n := 1) (u' := (101, 639)) (f' := (98, [some (.ref 1), none], [])) (h' := hb181 L xs) rfl ?_
  refine ev_run (n := 2) (u' := (102, 642)) (f' := (102, [some (.ref 1), none], [.ref 103, .ref 1])) (h' := hb182 L xs) rfl ?_
  refine ev_run (n := 1) (u' := (102, 642)) (f' := (103, [some (.ref 1), none], [.ref 103, .ref 103, .ref 1])) (h' := hb182 L xs) rfl ?_
  refine ev_call (v := none) (h1 := hb193 L xs) rfl rfl rfl rfl (bt25 L xs) ?_
  show Ev 58 (105, 657) (106, [some (.ref 1), none], [.ref 103, .ref 1]) (hb193 L xs) _
  refine ev_run (n := 1) (u' := (105, 657)) (f' := (109, [some (.ref 1), none], [])) (h' := hb194 L xs) rfl ?_
  refine ev_run (n := 2) (u' := (106, 666)) (f' := (113, [some (.ref 1), none], [.ref 107, .ref 1])) (h' := hb195 L xs) rfl ?_
  refine ev_run (n := 1) (u' := (106, 666)) (f' := (114, [some (.ref 1), none], [.ref 107, .ref 107, .ref 1])) (h' := hb195 L xs) rfl ?_
  refine ev_call (v := none) (h1 := hb209 L xs) rfl rfl rfl rfl (bt26 L xs) ?_
  show Ev 58 (113, 786) (117, [some (.ref 1), none], [.ref 107, .ref 1]) (hb209 L xs) _
  refine ev_run (n := 1) (u' := (113, 786)) (f' := (120, [some (.ref 1), none], [])) (h' := hb210 L xs) rfl ?_
  refine ev_run (n := 2) (u' := (114, 790)) (f' := (124, [some (.ref 1), none], [.ref 115, .ref 1])) (h' := hb211 L xs) rfl ?_
  refine ev_run (n := 1) (u' := (114, 790)) (f' := (125, [some (.ref 1), none], [.ref 115, .ref 115, .ref 1])) (h' := hb211 L xs) rfl ?_
  refine ev_call (v := none) (h1 := hb285 L xs) rfl rfl rfl rfl (bt40 L xs) ?_
  show Ev 58 (128, 919) (128, [some (.ref 1), none], [.ref 115, .ref 1]) (hb285 L xs) _
  refine ev_run (n := 1) (u' := (128, 919)) (f' := (131, [some (.ref 1), none], [])) (h' := hb286 L xs) rfl ?_
  refine ev_run (n := 2) (u' := (129, 932)) (f' := (135, [some (.ref 1), none], [.ref 130, .ref 1])) (h' := hb287 L xs) rfl ?_
  refine ev_run (n := 3) (u' := (129, 932)) (f' := (140, [some (.ref 1), none], [.ref 2, .ref 130, .ref 130, .ref 1])) (h' := hb287 L xs) rfl ?_
  refine ev_call (v := none) (h1 := hb308 L xs) rfl rfl rfl rfl (bt42 L xs) ?_
  show Ev 58 (136, 26886) (143, [some (.ref 1), none], [.ref 130, .ref 1]) (hb308 L xs) _
  refine ev_run (n := 1) (u' := (136, 26886)) (f' := (146, [some (.ref 1), none], [])) (h' := hb309 L xs) rfl ?_
  refine ev_run (n := 3) (u' := (136, 26886)) (f' := (151, [some (.ref 1), none], [])) (h' := hb310 L xs) rfl ?_
  exact ev_vret rfl rfl rfl
