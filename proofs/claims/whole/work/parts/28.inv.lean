/-! The invariant between the class's cells and the reference's, by groups; which group a cell is of -/
def own (a : Nat) : Nat := if a = 0 then 0 else if a = 1 then 9 else if a ≤ 58 then 1 else if a ≤ 97 then 2 else if a ≤ 102 then 4 else if a ≤ 106 then 5 else if a ≤ 114 then 6 else if a ≤ 129 then 7 else if a ≤ 137 then 8 else if a ≤ 138 then 10 else if a ≤ 146 then 1 else if a ≤ 157 then 2 else if a ≤ 158 then 4 else if a ≤ 162 then 5 else if a ≤ 165 then 4 else if a ≤ 172 then 6 else if a ≤ 181 then 7 else if a ≤ 186 then 8 else 11
def ownf (j : Nat) : Nat := if j = 0 then 9 else if j = 1 then 1 else if j = 3 then 1 else if j = 27 then 4 else if j = 31 then 6 else if j = 37 then 6 else if j = 40 then 7 else if j = 42 then 7 else if j = 51 then 8 else 11
/-- all groups but g are as before -/
def SB (g : Nat) (x y : Hs) : Prop := (∀ a, ¬ a = 138 → ¬ own a = g → ¬ own a = 11 → y.1 a = x.1 a ∧ y.2.1 a = x.2.1 a) ∧ (∀ j, ¬ ownf j = g → ¬ ownf j = 11 → y.1 138 j = x.1 138 j)
theorem SB.rf (g : Nat) (x : Hs) : SB g x x := ⟨fun _ _ _ _ => ⟨rfl, rfl⟩, fun _ _ _ => rfl⟩
theorem SB.I {g : Nat} {x y : Hs} {q j : Nat} {v : Int32} (h : SB g x y) (hq : ¬ q = 138) (ho : own q = g ∨ own q = 11) : SB g x (wI y q j v) := by
  refine ⟨fun a h1 h2 h3 => ?_, fun j2 h2 h3 => ?_⟩
  · have hne : ¬ a = q := by
      intro e
      subst e
      rcases ho with ho | ho
      · exact h2 ho
      · exact h3 ho
    rw [wI_ne hne]
    exact h.1 a h1 h2 h3
  · rw [wI_ne (fun e => hq e.symm)]
    exact h.2 j2 h2 h3
theorem SB.M {g : Nat} {x y : Hs} {j : Nat} {v : Int32} (h : SB g x y) (ho : ownf j = g ∨ ownf j = 11) : SB g x (wI y 138 j v) := by
  refine ⟨fun a h1 h2 h3 => ?_, fun j2 h2 h3 => ?_⟩
  · rw [wI_ne h1]
    exact h.1 a h1 h2 h3
  · have hne : ¬ j2 = j := by
      intro e
      subst e
      rcases ho with ho | ho
      · exact h2 ho
      · exact h3 ho
    rw [wI_nj hne]
    exact h.2 j2 h2 h3
theorem SB.J {g : Nat} {x y : Hs} {q j : Nat} {v : Int64} (h : SB g x y) (ho : own q = g ∨ own q = 11) : SB g x (wJ y q j v) := by
  refine ⟨fun a h1 h2 h3 => ?_, fun j2 h2 h3 => h.2 j2 h2 h3⟩
  have hne : ¬ a = q := by
    intro e
    subst e
    rcases ho with ho | ho
    · exact h2 ho
    · exact h3 ho
  rw [wJ_ne hne]
  exact h.1 a h1 h2 h3
theorem SB.E {g : Nat} {x y : Hs} {q j : Nat} {v : UInt64} (h : SB g x y) : SB g x (wE y q j v) := h
theorem SB.to {g : Nat} {x y z : Hs} (h : SB g x y) (k : SB g y z) : SB g x z := ⟨fun a h1 h2 h3 => ⟨(k.1 a h1 h2 h3).1.trans (h.1 a h1 h2 h3).1, (k.1 a h1 h2 h3).2.trans (h.1 a h1 h2 h3).2⟩, fun j h2 h3 => (k.2 j h2 h3).trans (h.2 j h2 h3)⟩
theorem SB.c {g : Nat} {x y : Hs} (h : SB g x y) (a : Nat) (h1 : ¬ a = 138) (h2 : ¬ own a = g) (h3 : ¬ own a = 11) : y.1 a = x.1 a := (h.1 a h1 h2 h3).1
theorem SB.l {g : Nat} {x y : Hs} (h : SB g x y) (a : Nat) (h1 : ¬ a = 138) (h2 : ¬ own a = g) (h3 : ¬ own a = 11) : y.2.1 a = x.2.1 a := (h.1 a h1 h2 h3).2
/-- of a group that isn't the one that was written -/
theorem SB.g {g n : Nat} {x y : Hs} (h : SB g x y) (hg : ¬ g = n) (a : Nat) (h1 : ¬ a = 138) (h2 : own a = n) (h3 : ¬ n = 11) : y.1 a = x.1 a := h.c a h1 (by omega) (by omega)
theorem SB.gl {g n : Nat} {x y : Hs} (h : SB g x y) (hg : ¬ g = n) (a : Nat) (h1 : ¬ a = 138) (h2 : own a = n) (h3 : ¬ n = 11) : y.2.1 a = x.2.1 a := h.l a h1 (by omega) (by omega)
theorem SB.f {g n : Nat} {x y : Hs} (h : SB g x y) (hg : ¬ g = n) (j : Nat) (h2 : ownf j = n) (h3 : ¬ n = 11) : y.1 138 j = x.1 138 j := h.2 j (by omega) (by omega)
/-- -1, or a build of a service -/
def vB (B : Nat) (its : Nat → Int32) (s : Nat) (v : Int32) : Prop := v = -1 ∨ (aIn v B = true ∧ its (xi v) = zI s)
/-- how far a column is, on both sides -/
def cI (a m : Int32) : Prop := (a = -2 ∧ m = -1) ∨ (a = -1 ∧ m = -2) ∨ (a = m ∧ aIn m 101 = true)
/-- a count -/
def nB (v : Int32) (n : Nat) : Prop := 0 ≤ v.toInt ∧ v.toInt ≤ n
def INow (now : Nat) (x : Hs) : Prop := now ≤ 9999 ∧ x.1 1 8 = zI now ∧ x.1 138 0 = zI now
def ICat (S B : Nat) (x : Hs) : Prop :=
  (S ≤ 5 ∧ B ≤ 24) ∧ (x.1 2 0 = zI S ∧ x.1 138 1 = zI S ∧ x.1 2 1 = zI B ∧ x.1 138 3 = zI B) ∧
  (x.1 3 = x.1 139 ∧ x.1 4 = x.1 140 ∧ x.1 5 = x.1 141 ∧ x.1 56 = x.1 144 ∧ x.1 57 = x.1 145) ∧
  (∀ b, b < 24 → ∀ s, s < 5 → x.1 (7 + b) s = x.1 142 (5 * b + s) ∧ x.1 (32 + b) s = x.1 143 (5 * b + s)) ∧
  (∀ s k, 5 ≤ k → bt (x.1 139 s) k = false) ∧
  (∀ b, b < B → aIn (x.1 140 b) S = true) ∧
  (∀ b, x.1 145 b = 0 ∨ x.1 145 b = 1) ∧
  (∀ c, c < 5 → cI (x.1 58 c) (x.1 146 c))
def IRng (c B : Nat) (its : Nat → Int32) (x : Hs) : Prop :=
  (∀ r, r < 4 → ∀ s, s < 5 → (x.1 (60 + 8 * r + 1) s = x.1 147 (5 * r + s) ∧ x.1 (60 + 8 * r + 2) s = x.1 148 (5 * r + s) ∧ x.1 (60 + 8 * r + 3) s = x.1 149 (5 * r + s)) ∧
    (x.2.1 (60 + 8 * r + 4) s = (x.1 153 (5 * r + s)).toInt64 ∧ x.2.1 (60 + 8 * r + 5) s = (x.1 154 (5 * r + s)).toInt64 ∧ x.2.1 (60 + 8 * r + 6) s = (x.1 151 (5 * r + s)).toInt64 ∧ x.2.1 (60 + 8 * r + 7) s = (x.1 152 (5 * r + s)).toInt64) ∧
    (vB B its s (x.1 147 (5 * r + s)) ∧ vB B its s (x.1 148 (5 * r + s)) ∧ vB B its s (x.1 149 (5 * r + s))) ∧
    (nB (x.1 151 (5 * r + s)) (2000 * c) ∧ nB (x.1 152 (5 * r + s)) (1000 * c) ∧ nB (x.1 153 (5 * r + s)) (2000 * c) ∧ nB (x.1 154 (5 * r + s)) (1000 * c))) ∧
  (∀ s, s < 5 → vB B its s (x.1 155 s) ∧ x.1 (93 + s) 0 = x.1 155 s ∧ (x.1 157 s = 0 ∨ x.1 157 s = 1) ∧
    (x.1 155 s = -1 → ∀ r, r < 4 → x.1 148 (5 * r + s) = -1) ∧
    (¬ x.1 155 s = -1 → x.1 (93 + s) 1 = x.1 156 s ∧ aIn (x.1 156 s) 4 = true ∧ x.1 (93 + s) 3 = x.1 157 s ∧
      (∀ r, r < 4 → x.1 148 (5 * r + s) = -1 ∨ (x.1 157 s = 0 ∧ x.1 156 s = zI r ∧ x.1 148 (5 * r + s) = x.1 155 s)) ∧
      (x.1 157 s = 0 → ¬ x.1 156 s = 0 → x.1 (93 + s) 2 = x.1 150 (5 * (xi (x.1 156 s) - 1) + s))))
def IFrz (Z : Nat) (x : Hs) : Prop :=
  Z ≤ 8 ∧ (x.1 98 0 = zI Z ∧ x.1 138 27 = zI Z) ∧ (x.1 100 = x.1 163 ∧ x.1 101 = x.1 164 ∧ x.1 102 = x.1 165 ∧ x.1 99 = x.1 158) ∧ (∀ s, s < 5 → aIn (x.1 158 s) 10 = true)
def IBud (c now : Nat) (x : Hs) : Prop :=
  x.1 104 = x.1 159 ∧ (∀ s, s < 5 → (0 < (x.1 159 s).toInt ∧ (x.1 159 s).toInt ≤ 1000) ∧ nB (x.1 160 s) (now / 60) ∧ nB (x.1 161 s) (2000 * c) ∧ nB (x.1 162 s) (1000 * c) ∧
    (x.1 160 s = zI (now / 60) → x.2.1 105 s = (x.1 161 s).toInt64 ∧ x.2.1 106 s = (x.1 162 s).toInt64) ∧
    (¬ x.1 160 s = zI (now / 60) → x.2.1 105 s = 0 ∧ x.2.1 106 s = 0))
def IFlg (F U : Nat) (x : Hs) : Prop :=
  (F ≤ 12 ∧ U ≤ 30) ∧ (x.1 107 0 = zI F ∧ x.1 138 31 = zI F ∧ x.1 107 1 = zI U ∧ x.1 138 37 = zI U) ∧
  (x.1 108 = x.1 166 ∧ x.1 109 = x.1 167 ∧ x.1 110 = x.1 168 ∧ x.1 111 = x.1 170 ∧ x.1 112 = x.1 169 ∧ x.1 113 = x.1 171 ∧ x.1 114 = x.1 172) ∧
  (∀ k, x.1 170 k = 0 ∨ x.1 170 k = 1) ∧ (∀ k, k < F → x.1 169 k = -1 ∨ aIn (x.1 169 k) k = true) ∧
  (∀ i j, i < U → j < U → x.1 171 i = x.1 171 j → i = j) ∧ (∀ i, U ≤ i → x.1 172 i = 0) ∧ (∀ i k, 12 ≤ k → bt (x.1 172 i) k = false)
def IDut (P I now : Nat) (x : Hs) : Prop :=
  (1 ≤ P ∧ P ≤ 5 ∧ I ≤ 12) ∧ (x.1 115 0 = zI P ∧ x.1 138 40 = zI P ∧ x.1 115 1 = zI I ∧ x.1 138 42 = zI I) ∧
  x.1 116 = x.1 173 ∧ (∀ t, t < 21 → x.1 173 t = -1 ∨ aIn (x.1 173 t) P = true) ∧
  (∀ i, i < I → (x.1 (118 + i) 0 = x.1 174 i ∧ x.1 (118 + i) 1 = x.1 175 i ∧ x.1 (118 + i) 2 = x.1 176 i ∧ x.1 (118 + i) 3 = x.1 179 i ∧ x.1 (118 + i) 4 = x.1 178 i ∧ x.1 (118 + i) 5 = x.1 180 i ∧ x.1 (118 + i) 6 = x.1 181 i) ∧
    aIn (x.1 179 i) P = true ∧ (∀ k, 5 ≤ k → bt (x.1 178 i) k = false) ∧ (x.1 180 i = -1 → x.1 181 i = 0) ∧
    (∃ o, o ≤ now ∧ x.1 177 i = zI o ∧ (x.1 180 i = -1 → x.1 (118 + i) 7 = zI (o + 10 * ((now - o) / 10 + 1))))) ∧
  (∀ i, i < 12 → (x.1 181 i = 0 ∨ x.1 181 i = 1)) ∧
  (∀ i, I ≤ i → i < 12 → x.1 (118 + i) 4 = 0 ∧ x.1 (118 + i) 5 = -1 ∧ x.1 (118 + i) 6 = 0 ∧ x.1 181 i = 0) ∧
  ((∀ i j, i < I → j < I → x.1 181 i = 0 → x.1 181 j = 0 → x.1 174 i = x.1 174 j → i = j) ∧ ∀ i, i < I → aIn (x.1 174 i) 5 = true)
def IPln (c : Nat) (x : Hs) : Prop :=
  (∃ q, q ≤ c ∧ x.1 130 8 = zI q ∧ ∀ j, j < 6480 → (x.1 132 j).toInt ≤ q) ∧ (∀ j, j < 5 → x.1 137 j = -1) ∧
  (∃ C, C ≤ 6480 ∧ x.1 130 12 = zI C ∧ (x.1 138 51 = zI C ∨ (x.1 138 51 = -1 ∧ C = 0)) ∧
    ∃ g : Nat → Nat, (0 < C → x.1 130 11 = zI (g 0)) ∧ ∀ j, j < C → 0 < g j ∧ g j < 6480 ∧ x.1 134 (g j) = zI (g (j + 1)) ∧ x.1 135 (g j) = x.1 182 (C - 1 - j))
def Inv (c : Nat) (x : Hs) : Prop := ∃ S B Z F U P I now, INow now x ∧ ICat S B x ∧ IRng c B (x.1 140) x ∧ IFrz Z x ∧ IBud c now x ∧ IFlg F U x ∧ IDut P I now x ∧ IPln c x
theorem INow.fr {g now : Nat} {x y : Hs} (h : INow now x) (e : SB g x y) (hg : ¬ g = 9) : INow now y := by
  obtain ⟨h1, h2, h3⟩ := h
  refine ⟨h1, ?_, ?_⟩
  · rw [e.g hg 1 (by decide) rfl (by decide)]; exact h2
  · rw [e.f hg 0 rfl (by decide)]; exact h3
theorem ICat.fr {g S B : Nat} {x y : Hs} (h : ICat S B x) (e : SB g x y) (hg : ¬ g = 1) : ICat S B y := by
  have E := fun a h1 h2 => e.g hg a h1 h2 (by decide)
  have w : ∀ b, b < 24 → y.1 (7 + b) = x.1 (7 + b) ∧ y.1 (32 + b) = x.1 (32 + b) := by
    intro b hb
    refine ⟨E _ (by omega) ?_, E _ (by omega) ?_⟩
    · unfold own; rw [if_neg (by omega), if_neg (by omega), if_pos (by omega)]
    · unfold own; rw [if_neg (by omega), if_neg (by omega), if_pos (by omega)]
  unfold ICat at h ⊢
  rw [E 2 (by decide) rfl, E 3 (by decide) rfl, E 4 (by decide) rfl, E 5 (by decide) rfl, E 56 (by decide) rfl, E 57 (by decide) rfl, E 58 (by decide) rfl, E 139 (by decide) rfl, E 140 (by decide) rfl, E 141 (by decide) rfl, E 142 (by decide) rfl, E 143 (by decide) rfl, E 144 (by decide) rfl, E 145 (by decide) rfl, E 146 (by decide) rfl, e.f hg 1 rfl (by decide), e.f hg 3 rfl (by decide)]
  obtain ⟨h1, h2, h3, h4, h5⟩ := h
  refine ⟨h1, h2, h3, ?_, h5⟩
  intro b hb s hs
  rw [(w b hb).1, (w b hb).2]
  exact h4 b hb s hs
theorem nB.up {v : Int32} {n m : Nat} (h : nB v n) (hm : n ≤ m) : nB v m := ⟨h.1, by have := h.2; omega⟩
theorem IRng.fr {g c B : Nat} {its : Nat → Int32} {x y : Hs} (h : IRng c B its x) (e : SB g x y) (hg : ¬ g = 2) : IRng (c + 1) B its y := by
  have E := fun a h1 h2 => e.g hg a h1 h2 (by decide)
  have w : ∀ r, r < 4 → ∀ k, k < 8 → y.1 (60 + 8 * r + k) = x.1 (60 + 8 * r + k) ∧ y.2.1 (60 + 8 * r + k) = x.2.1 (60 + 8 * r + k) := by
    intro r hr k hk
    have ho : own (60 + 8 * r + k) = 2 := by
      unfold own; rw [if_neg (by omega), if_neg (by omega), if_neg (by omega), if_pos (by omega)]
    exact ⟨E _ (by omega) ho, e.gl hg _ (by omega) ho (by decide)⟩
  have w2 : ∀ s, s < 5 → y.1 (93 + s) = x.1 (93 + s) := by
    intro s hs
    refine E _ (by omega) ?_
    unfold own; rw [if_neg (by omega), if_neg (by omega), if_neg (by omega), if_pos (by omega)]
  unfold IRng at h ⊢
  rw [E 147 (by decide) rfl, E 148 (by decide) rfl, E 149 (by decide) rfl, E 150 (by decide) rfl, E 151 (by decide) rfl, E 152 (by decide) rfl, E 153 (by decide) rfl, E 154 (by decide) rfl, E 155 (by decide) rfl, E 156 (by decide) rfl, E 157 (by decide) rfl]
  obtain ⟨h1, h2⟩ := h
  refine ⟨fun r hr s hs => ?_, fun s hs => ?_⟩
  · rw [(w r hr 1 (by omega)).1, (w r hr 2 (by omega)).1, (w r hr 3 (by omega)).1, (w r hr 4 (by omega)).2, (w r hr 5 (by omega)).2, (w r hr 6 (by omega)).2, (w r hr 7 (by omega)).2]
    obtain ⟨a1, a2, a3, b1, b2, b3, b4⟩ := h1 r hr s hs
    exact ⟨a1, a2, a3, b1.up (by omega), b2.up (by omega), b3.up (by omega), b4.up (by omega)⟩
  · rw [w2 s hs]
    exact h2 s hs
theorem IFrz.fr {g Z : Nat} {x y : Hs} (h : IFrz Z x) (e : SB g x y) (hg : ¬ g = 4) : IFrz Z y := by
  have E := fun a h1 h2 => e.g hg a h1 h2 (by decide)
  unfold IFrz at h ⊢
  rw [E 98 (by decide) rfl, E 99 (by decide) rfl, E 100 (by decide) rfl, E 101 (by decide) rfl, E 102 (by decide) rfl, E 163 (by decide) rfl, E 164 (by decide) rfl, E 165 (by decide) rfl, E 158 (by decide) rfl, e.f hg 27 rfl (by decide)]
  exact h
theorem IBud.fr {g c now : Nat} {x y : Hs} (h : IBud c now x) (e : SB g x y) (hg : ¬ g = 5) : IBud (c + 1) now y := by
  have E := fun a h1 h2 => e.g hg a h1 h2 (by decide)
  unfold IBud at h ⊢
  rw [E 104 (by decide) rfl, E 159 (by decide) rfl, E 160 (by decide) rfl, E 161 (by decide) rfl, E 162 (by decide) rfl, e.gl hg 105 (by decide) rfl (by decide), e.gl hg 106 (by decide) rfl (by decide)]
  obtain ⟨h1, h2⟩ := h
  refine ⟨h1, fun s hs => ?_⟩
  obtain ⟨a1, a2, a3, a4, a5⟩ := h2 s hs
  exact ⟨a1, a2, a3.up (by omega), a4.up (by omega), a5⟩
theorem IFlg.fr {g F U : Nat} {x y : Hs} (h : IFlg F U x) (e : SB g x y) (hg : ¬ g = 6) : IFlg F U y := by
  have E := fun a h1 h2 => e.g hg a h1 h2 (by decide)
  unfold IFlg at h ⊢
  rw [E 107 (by decide) rfl, E 108 (by decide) rfl, E 109 (by decide) rfl, E 110 (by decide) rfl, E 111 (by decide) rfl, E 112 (by decide) rfl, E 113 (by decide) rfl, E 114 (by decide) rfl, E 166 (by decide) rfl, E 167 (by decide) rfl, E 168 (by decide) rfl, E 169 (by decide) rfl, E 170 (by decide) rfl, E 171 (by decide) rfl, E 172 (by decide) rfl, e.f hg 31 rfl (by decide), e.f hg 37 rfl (by decide)]
  exact h
theorem IDut.fr {g P I now : Nat} {x y : Hs} (h : IDut P I now x) (e : SB g x y) (hg : ¬ g = 7) : IDut P I now y := by
  have E := fun a h1 h2 => e.g hg a h1 h2 (by decide)
  have w : ∀ i, i < 12 → y.1 (118 + i) = x.1 (118 + i) := by
    intro i hi
    refine E _ (by omega) ?_
    unfold own
    rw [if_neg (by omega), if_neg (by omega), if_neg (by omega), if_neg (by omega), if_neg (by omega), if_neg (by omega), if_neg (by omega), if_pos (by omega)]
  unfold IDut at h ⊢
  rw [E 115 (by decide) rfl, E 116 (by decide) rfl, E 173 (by decide) rfl, E 174 (by decide) rfl, E 175 (by decide) rfl, E 176 (by decide) rfl, E 177 (by decide) rfl, E 178 (by decide) rfl, E 179 (by decide) rfl, E 180 (by decide) rfl, E 181 (by decide) rfl, e.f hg 40 rfl (by decide), e.f hg 42 rfl (by decide)]
  obtain ⟨h1, h2, h3, h4, h5, h6, h7, h8⟩ := h
  refine ⟨h1, h2, h3, h4, fun i hi => ?_, h6, fun i hi hi2 => ?_, h8⟩
  · rw [w i (by omega)]
    exact h5 i hi
  · rw [w i (by omega)]
    exact h7 i hi hi2
theorem IPln.fr {g c : Nat} {x y : Hs} (h : IPln c x) (e : SB g x y) (hg : ¬ g = 8) : IPln (c + 1) y := by
  have E := fun a h1 h2 => e.g hg a h1 h2 (by decide)
  unfold IPln at h ⊢
  rw [E 130 (by decide) rfl, E 132 (by decide) rfl, E 137 (by decide) rfl, E 134 (by decide) rfl, E 135 (by decide) rfl, E 182 (by decide) rfl, e.f hg 51 rfl (by decide)]
  obtain ⟨⟨q, h1, h2⟩, h3⟩ := h
  exact ⟨⟨q, by omega, h2⟩, h3⟩
