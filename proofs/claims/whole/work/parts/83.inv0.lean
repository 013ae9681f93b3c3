/-! The invariant at the loop's beginning -/
theorem inv0 (xs : Nat → Int32) : Inv 0 (x0 xs) := by
  refine ⟨0, 0, 0, 0, 0, 1, 0, 0, ?_, ?_, ?_, ?_, ?_, ?_, ?_, ?_⟩
  · exact ⟨by decide, rfl, rfl⟩
  · refine ⟨⟨by decide, by decide⟩, ⟨rfl, rfl, rfl, rfl⟩, ⟨rfl, rfl, rfl, rfl, rfl⟩, fun b hb s hs => ?_, fun s k _ => bt_0 k, fun b hb => absurd hb (Nat.not_lt_zero b), fun b => Or.inl rfl, fun c hc => ?_⟩
    · have : b = 0 ∨ b = 1 ∨ b = 2 ∨ b = 3 ∨ b = 4 ∨ b = 5 ∨ b = 6 ∨ b = 7 ∨ b = 8 ∨ b = 9 ∨ b = 10 ∨ b = 11 ∨ b = 12 ∨ b = 13 ∨ b = 14 ∨ b = 15 ∨ b = 16 ∨ b = 17 ∨ b = 18 ∨ b = 19 ∨ b = 20 ∨ b = 21 ∨ b = 22 ∨ b = 23 := by omega
      rcases this with rfl | rfl | rfl | rfl | rfl | rfl | rfl | rfl | rfl | rfl | rfl | rfl | rfl | rfl | rfl | rfl | rfl | rfl | rfl | rfl | rfl | rfl | rfl | rfl <;> exact ⟨rfl, rfl⟩
    · exact Or.inl ⟨rfl, rfl⟩
  · refine ⟨fun r hr s hs => ?_, fun s hs => ?_⟩
    · have : r = 0 ∨ r = 1 ∨ r = 2 ∨ r = 3 := by omega
      rcases this with rfl | rfl | rfl | rfl <;> exact ⟨⟨rfl, rfl, rfl⟩, ⟨rfl, rfl, rfl, rfl⟩, ⟨Or.inl rfl, Or.inl rfl, Or.inl rfl⟩, nB0 _, nB0 _, nB0 _, nB0 _⟩
    · have : s = 0 ∨ s = 1 ∨ s = 2 ∨ s = 3 ∨ s = 4 := by omega
      rcases this with rfl | rfl | rfl | rfl | rfl <;> exact ⟨Or.inl rfl, rfl, Or.inl rfl, fun _ r _ => rfl, fun w => absurd rfl w⟩
  · exact ⟨by decide, ⟨rfl, rfl⟩, ⟨rfl, rfl, rfl, rfl⟩, fun s _ => rfl⟩
  · refine ⟨rfl, fun s hs => ⟨⟨?_, ?_⟩, nB0 _, nB0 _, nB0 _, fun _ => ⟨rfl, rfl⟩, fun _ => ⟨rfl, rfl⟩⟩⟩
    · show 0 < (1000 : Int32).toInt
      decide
    · show (1000 : Int32).toInt ≤ 1000
      decide
  · refine ⟨⟨by decide, by decide⟩, ⟨rfl, rfl, rfl, rfl⟩, ⟨rfl, rfl, rfl, rfl, rfl, rfl, rfl⟩, fun k => Or.inl rfl, fun k hk => absurd hk (Nat.not_lt_zero k), fun i j hi => absurd hi (Nat.not_lt_zero i), fun i _ => rfl, fun i k _ => bt_0 k⟩
  · refine ⟨⟨by decide, by decide, by decide⟩, ⟨rfl, rfl, rfl, rfl⟩, rfl, fun t _ => Or.inl rfl, fun i hi => absurd hi (Nat.not_lt_zero i), fun i _ => Or.inl rfl, fun i _ hi => ?_, fun i j hi => absurd hi (Nat.not_lt_zero i), fun i hi => absurd hi (Nat.not_lt_zero i)⟩
    have : i = 0 ∨ i = 1 ∨ i = 2 ∨ i = 3 ∨ i = 4 ∨ i = 5 ∨ i = 6 ∨ i = 7 ∨ i = 8 ∨ i = 9 ∨ i = 10 ∨ i = 11 := by omega
    rcases this with rfl | rfl | rfl | rfl | rfl | rfl | rfl | rfl | rfl | rfl | rfl | rfl <;> exact ⟨rfl, rfl, rfl, rfl⟩
  · refine ⟨⟨0, Nat.le_refl _, rfl, fun j _ => ?_⟩, fun j _ => rfl, 0, by decide, rfl, ?_, fun _ => 0, fun w => absurd w (by decide), fun j hj => absurd hj (Nat.not_lt_zero j)⟩
    · show (0 : Int32).toInt ≤ 0
      decide
    · first
      | exact Or.inl rfl
      | exact Or.inr ⟨rfl, rfl⟩
theorem law_ev {L : Nat} (hL : L ≤ 3072) (xs : Nat → Int32) : ∃ h3, Ev 214 (188, 60535) (28, [some (.ref 0), some (.ref 1), some (.ref 138), some (.ref 187), some (.ref 188), some (.int 0), none, none], []) (hp L (x0 xs)) (.inl (some (.int 1)), h3) := by
  obtain ⟨y, hy⟩ := law_loop hL 512 0 FU (x0 xs) (inv0 xs) (by decide) (by omega) (by unfold FU; decide)
  refine ⟨hp L y, ?_⟩
  exact em214_28 FU 188 60535 0 (by unfold FU; decide) (by unfold FU; decide) (x0 xs) (1, y) hy
