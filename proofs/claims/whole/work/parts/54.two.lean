/-! Calls that write several groups -/
def SBl (l : List Nat) (x y : Hs) : Prop := (∀ a, ¬ a = 138 → ¬ own a ∈ l → ¬ own a = 11 → y.1 a = x.1 a ∧ y.2.1 a = x.2.1 a) ∧ (∀ j, ¬ ownf j ∈ l → ¬ ownf j = 11 → y.1 138 j = x.1 138 j)
theorem SBl.rf (l : List Nat) (x : Hs) : SBl l x x := ⟨fun _ _ _ _ => ⟨rfl, rfl⟩, fun _ _ _ => rfl⟩
theorem SBl.I {l : List Nat} {x y : Hs} {q j : Nat} {v : Int32} (h : SBl l x y) (hq : ¬ q = 138) (ho : own q ∈ l ∨ own q = 11) : SBl l x (wI y q j v) := by
  refine ⟨fun a h1 h2 h3 => ?_, fun j2 h2 h3 => ?_⟩
  · have hne : ¬ a = q := by
      intro e
      subst e
      rcases ho with ho | ho
      · exact h2 ho
      · exact h3 ho
    rw [wI_ne hne]
    exact h.1 a h1 h2 h3
  · rw [wI_ne (fun e => hq e.symm)]
    exact h.2 j2 h2 h3
theorem SBl.M {l : List Nat} {x y : Hs} {j : Nat} {v : Int32} (h : SBl l x y) (ho : ownf j ∈ l ∨ ownf j = 11) : SBl l x (wI y 138 j v) := by
  refine ⟨fun a h1 h2 h3 => ?_, fun j2 h2 h3 => ?_⟩
  · rw [wI_ne h1]
    exact h.1 a h1 h2 h3
  · have hne : ¬ j2 = j := by
      intro e
      subst e
      rcases ho with ho | ho
      · exact h2 ho
      · exact h3 ho
    rw [wI_nj hne]
    exact h.2 j2 h2 h3
theorem SBl.J {l : List Nat} {x y : Hs} {q j : Nat} {v : Int64} (h : SBl l x y) (ho : own q ∈ l ∨ own q = 11) : SBl l x (wJ y q j v) := by
  refine ⟨fun a h1 h2 h3 => ?_, fun j2 h2 h3 => h.2 j2 h2 h3⟩
  have hne : ¬ a = q := by
    intro e
    subst e
    rcases ho with ho | ho
    · exact h2 ho
    · exact h3 ho
  rw [wJ_ne hne]
  exact h.1 a h1 h2 h3
theorem SBl.to {l : List Nat} {x y z : Hs} (h : SBl l x y) (k : SBl l y z) : SBl l x z := ⟨fun a h1 h2 h3 => ⟨(k.1 a h1 h2 h3).1.trans (h.1 a h1 h2 h3).1, (k.1 a h1 h2 h3).2.trans (h.1 a h1 h2 h3).2⟩, fun j h2 h3 => (k.2 j h2 h3).trans (h.2 j h2 h3)⟩
theorem SBl.c {l : List Nat} {x y : Hs} (h : SBl l x y) (a : Nat) (h1 : ¬ a = 138) (h2 : ¬ own a ∈ l) (h3 : ¬ own a = 11) : y.1 a = x.1 a := (h.1 a h1 h2 h3).1
theorem SBl.one {g : Nat} {x y : Hs} (h : SBl [g] x y) : SB g x y := ⟨fun a h1 h2 h3 => h.1 a h1 (fun w => h2 (List.mem_singleton.mp w)) h3, fun j h2 h3 => h.2 j (fun w => h2 (List.mem_singleton.mp w)) h3⟩
theorem SB.list {g : Nat} {l : List Nat} {x y : Hs} (h : SB g x y) (hg : g ∈ l) : SBl l x y := ⟨fun a h1 h2 h3 => h.1 a h1 (fun w => h2 (by rw [w]; exact hg)) h3, fun j h2 h3 => h.2 j (fun w => h2 (by rw [w]; exact hg)) h3⟩
theorem SBl.split {g : Nat} {l : List Nat} {x y : Hs} (h : SBl (g :: l) x y) : ∃ z, SB g x z ∧ SBl l z y := by
  refine ⟨(fun a => if a = 138 then (fun j => if ownf j = g then y.1 138 j else x.1 138 j) else if own a = g then y.1 a else x.1 a, fun a => if own a = g then y.2.1 a else x.2.1 a, y.2.2), ⟨fun a h1 h2 _ => ?_, fun j h2 _ => ?_⟩, ⟨fun a h1 h2 h3 => ?_, fun j h2 h3 => ?_⟩⟩
  · refine ⟨?_, if_neg h2⟩
    show (if a = 138 then _ else _) = _
    rw [if_neg h1, if_neg h2]
  · show (if ownf j = g then y.1 138 j else x.1 138 j) = _
    exact if_neg h2
  · by_cases hg : own a = g
    · refine ⟨?_, ?_⟩
      · show _ = (if a = 138 then _ else if own a = g then y.1 a else x.1 a)
        rw [if_neg h1, if_pos hg]
      · show _ = (if own a = g then y.2.1 a else x.2.1 a)
        rw [if_pos hg]
    · have hh := h.1 a h1 (fun w => by
        rcases List.mem_cons.mp w with w | w
        · exact hg w
        · exact h2 w) h3
      refine ⟨?_, ?_⟩
      · show _ = (if a = 138 then _ else if own a = g then y.1 a else x.1 a)
        rw [if_neg h1, if_neg hg]
        exact hh.1
      · show _ = (if own a = g then y.2.1 a else x.2.1 a)
        rw [if_neg hg]
        exact hh.2
  · show _ = (if ownf j = g then y.1 138 j else x.1 138 j)
    by_cases hg : ownf j = g
    · rw [if_pos hg]
    · rw [if_neg hg]
      exact h.2 j (fun w => by
        rcases List.mem_cons.mp w with w | w
        · exact hg w
        · exact h2 w) h3
theorem IRng.f0 {g c B : Nat} {its : Nat → Int32} {x y : Hs} (h : IRng c B its x) (e : SB g x y) (hg : ¬ g = 2) : IRng c B its y := by
  have E := fun a h1 h2 => e.g hg a h1 h2 (by decide)
  have w : ∀ r, r < 4 → ∀ k, k < 8 → y.1 (60 + 8 * r + k) = x.1 (60 + 8 * r + k) ∧ y.2.1 (60 + 8 * r + k) = x.2.1 (60 + 8 * r + k) := by
    intro r hr k hk
    have ho : own (60 + 8 * r + k) = 2 := by
      unfold own; rw [if_neg (by omega), if_neg (by omega), if_neg (by omega), if_pos (by omega)]
    exact ⟨E _ (by omega) ho, e.gl hg _ (by omega) ho (by decide)⟩
  have w2 : ∀ s, s < 5 → y.1 (93 + s) = x.1 (93 + s) := by
    intro s hs
    refine E _ (by omega) ?_
    unfold own; rw [if_neg (by omega), if_neg (by omega), if_neg (by omega), if_pos (by omega)]
  unfold IRng at h ⊢
  rw [E 147 (by decide) rfl, E 148 (by decide) rfl, E 149 (by decide) rfl, E 150 (by decide) rfl, E 151 (by decide) rfl, E 152 (by decide) rfl, E 153 (by decide) rfl, E 154 (by decide) rfl, E 155 (by decide) rfl, E 156 (by decide) rfl, E 157 (by decide) rfl]
  obtain ⟨h1, h2⟩ := h
  refine ⟨fun r hr s hs => ?_, fun s hs => ?_⟩
  · rw [(w r hr 1 (by omega)).1, (w r hr 2 (by omega)).1, (w r hr 3 (by omega)).1, (w r hr 4 (by omega)).2, (w r hr 5 (by omega)).2, (w r hr 6 (by omega)).2, (w r hr 7 (by omega)).2]
    exact h1 r hr s hs
  · rw [w2 s hs]
    exact h2 s hs
theorem IBud.f0 {g c now : Nat} {x y : Hs} (h : IBud c now x) (e : SB g x y) (hg : ¬ g = 5) : IBud c now y := by
  have E := fun a h1 h2 => e.g hg a h1 h2 (by decide)
  unfold IBud at h ⊢
  rw [E 104 (by decide) rfl, E 159 (by decide) rfl, E 160 (by decide) rfl, E 161 (by decide) rfl, E 162 (by decide) rfl, e.gl hg 105 (by decide) rfl (by decide), e.gl hg 106 (by decide) rfl (by decide)]
  exact h
theorem IPln.f0 {g c : Nat} {x y : Hs} (h : IPln c x) (e : SB g x y) (hg : ¬ g = 8) : IPln c y := by
  have E := fun a h1 h2 => e.g hg a h1 h2 (by decide)
  unfold IPln at h ⊢
  rw [E 130 (by decide) rfl, E 132 (by decide) rfl, E 137 (by decide) rfl, E 134 (by decide) rfl, E 135 (by decide) rfl, E 182 (by decide) rfl, e.f hg 51 rfl (by decide)]
  exact h
theorem j_add {a b : Int64} (h1 : -9223372036854775808 ≤ a.toInt + b.toInt) (h2 : a.toInt + b.toInt < 9223372036854775808) : (a + b).toInt = a.toInt + b.toInt := by
  rw [Int64.toInt_add]
  show (a.toInt + b.toInt).bmod 18446744073709551616 = _
  apply Int.bmod_eq_of_le <;> omega
theorem t64_add {a b : Int32} (h1 : -2147483648 ≤ a.toInt + b.toInt) (h2 : a.toInt + b.toInt < 2147483648) : (a + b).toInt64 = a.toInt64 + b.toInt64 := by
  apply Int64.toInt_inj.mp
  rw [Int32.toInt_toInt64, i_add h1 h2, j_add] <;> rw [Int32.toInt_toInt64, Int32.toInt_toInt64] <;> omega
theorem nB.add {v d : Int32} {n m k : Nat} (h : nB v n) (h1 : 0 ≤ d.toInt) (h2 : d.toInt ≤ m) (hk : n + m ≤ k) (hl : k < 2147483648) : nB (v + d) k := by
  obtain ⟨a1, a2⟩ := h
  have e : (v + d).toInt = v.toInt + d.toInt := i_add (by omega) (by omega)
  unfold nB
  rw [e]
  omega
