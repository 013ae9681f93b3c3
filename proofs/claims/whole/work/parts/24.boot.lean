/-! The constructors, run -/
set_option maxRecDepth 100000 in
set_option maxHeartbeats 4000000 in
theorem boot_t (L : Nat) (xs : Nat → Int32) : ∃ u h1, aGo 30 2 214 (0, 0) (0, aPad [.ref 0] 8, []) (hp0 L xs) = some ((4, [some (.ref 0), none, none, none, none, none, none, none], [.ref 1, .ref 1]), u, h1) := ⟨_, _, rfl⟩
set_option maxRecDepth 100000 in
set_option maxHeartbeats 4000000 in
theorem boot_8 (h : aHp) (m : Nat) (sh : Nat → aShp) (I : Nat → Nat → Int32) (J : Nat → Nat → Int64) (E : Nat → Nat → UInt64) : ∃ h1, aEx 30 56 (0, 0) (0, aPad [.ref 5] 1, []) ((0, 93), (fun b => if b = 5 then (108, 4, fun _ => none) else sh b), I, J, E) = some (.inl none, h1) := ⟨_, rfl⟩
