/-! The rings behind a call that writes other groups -/
theorem IRng.fx {g c B : Nat} {x y : Hs} (h : IRng c B (x.1 140) x) (e : SB g x y) (hg : ¬ g = 2) (h1 : ¬ g = 1) : IRng (c + 1) B (y.1 140) y := by
  rw [e.g h1 140 (by decide) rfl (by decide)]
  exact h.fr e hg
