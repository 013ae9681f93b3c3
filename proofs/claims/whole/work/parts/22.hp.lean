/-! The heap behind the constructors, in closed form; rules of Ev -/
abbrev Hs : Type := (Nat → Nat → Int32) × (Nat → Nat → Int64) × (Nat → Nat → UInt64)
/-- the references of the ring at q -/
def rr (q : Nat) : Nat → Option Nat := fun j => cond (Nat.blt j 1) (some 2) (cond (Nat.blt j 8) (some (q + j)) none)
def SH (L a : Nat) : aShp := cond (Nat.blt a 95) (cond (Nat.blt a 47) (cond (Nat.blt a 23) (cond (Nat.blt a 11) (cond (Nat.blt a 5) (cond (Nat.blt a 2) (cond (Nat.blt a 1) ((8, L, fun _ => none)) ((109, 9, fun j => cond (Nat.blt j 4) (cond (Nat.blt j 2) (cond (Nat.blt j 1) (some 2) (some 59)) (cond (Nat.blt j 3) (some 92) (some 98))) (cond (Nat.blt j 6) (cond (Nat.blt j 5) (some 103) (some 107)) (cond (Nat.blt j 7) (some 115) (cond (Nat.blt j 8) (some 130) (none))))))) (cond (Nat.blt a 3) ((101, 10, fun j => cond (Nat.blt j 5) (cond (Nat.blt j 2) (cond (Nat.blt j 1) (none) (none)) (cond (Nat.blt j 3) (some 3) (cond (Nat.blt j 4) (some 4) (some 5)))) (cond (Nat.blt j 8) (cond (Nat.blt j 6) (some 6) (cond (Nat.blt j 7) (some 31) (some 56))) (cond (Nat.blt j 9) (some 57) (cond (Nat.blt j 10) (some 58) (none)))))) (cond (Nat.blt a 4) ((0, 5, fun _ => none)) ((0, 24, fun _ => none))))) (cond (Nat.blt a 8) (cond (Nat.blt a 6) ((0, 24, fun _ => none)) (cond (Nat.blt a 7) ((4, 24, fun j => cond (Nat.blt j 24) (some (7 + j)) none)) ((0, 5, fun _ => none)))) ((0, 5, fun _ => none)))) ((0, 5, fun _ => none))) (cond (Nat.blt a 35) (cond (Nat.blt a 29) ((0, 5, fun _ => none)) (cond (Nat.blt a 32) (cond (Nat.blt a 30) ((0, 5, fun _ => none)) (cond (Nat.blt a 31) ((0, 5, fun _ => none)) ((4, 24, fun j => cond (Nat.blt j 24) (some (32 + j)) none)))) ((0, 5, fun _ => none)))) ((0, 5, fun _ => none)))) (cond (Nat.blt a 71) (cond (Nat.blt a 59) (cond (Nat.blt a 53) ((0, 5, fun _ => none)) (cond (Nat.blt a 56) ((0, 5, fun _ => none)) (cond (Nat.blt a 57) ((0, 24, fun _ => none)) (cond (Nat.blt a 58) ((1, 24, fun _ => none)) ((0, 5, fun _ => none)))))) (cond (Nat.blt a 65) (cond (Nat.blt a 62) (cond (Nat.blt a 60) ((5, 4, fun j => cond (Nat.blt j 4) (some (60 + 8 * j)) none)) (cond (Nat.blt a 61) ((107, 8, rr 60)) ((0, 5, fun _ => none)))) (cond (Nat.blt a 63) ((0, 5, fun _ => none)) (cond (Nat.blt a 64) ((0, 5, fun _ => none)) ((2, 5, fun _ => none))))) (cond (Nat.blt a 68) ((2, 5, fun _ => none)) (cond (Nat.blt a 69) ((107, 8, rr 68)) ((0, 5, fun _ => none)))))) (cond (Nat.blt a 83) (cond (Nat.blt a 77) (cond (Nat.blt a 74) (cond (Nat.blt a 72) ((0, 5, fun _ => none)) ((2, 5, fun _ => none))) (cond (Nat.blt a 75) ((2, 5, fun _ => none)) (cond (Nat.blt a 76) ((2, 5, fun _ => none)) ((107, 8, rr 76))))) (cond (Nat.blt a 80) ((0, 5, fun _ => none)) ((2, 5, fun _ => none)))) (cond (Nat.blt a 89) (cond (Nat.blt a 86) (cond (Nat.blt a 84) ((2, 5, fun _ => none)) (cond (Nat.blt a 85) ((107, 8, rr 84)) ((0, 5, fun _ => none)))) (cond (Nat.blt a 87) ((0, 5, fun _ => none)) (cond (Nat.blt a 88) ((0, 5, fun _ => none)) ((2, 5, fun _ => none))))) (cond (Nat.blt a 92) ((2, 5, fun _ => none)) (cond (Nat.blt a 93) ((6, 5, fun j => cond (Nat.blt j 5) (some (93 + j)) none)) ((108, 4, fun _ => none)))))))) (cond (Nat.blt a 142) (cond (Nat.blt a 118) (cond (Nat.blt a 106) (cond (Nat.blt a 100) (cond (Nat.blt a 97) ((108, 4, fun _ => none)) (cond (Nat.blt a 98) ((108, 4, fun _ => none)) (cond (Nat.blt a 99) ((104, 5, fun j => cond (Nat.blt j 3) (cond (Nat.blt j 1) (none) (cond (Nat.blt j 2) (some 99) (some 100))) (cond (Nat.blt j 4) (some 101) (cond (Nat.blt j 5) (some 102) (none))))) ((0, 5, fun _ => none))))) (cond (Nat.blt a 103) ((0, 8, fun _ => none)) (cond (Nat.blt a 104) ((100, 3, fun j => cond (Nat.blt j 2) (cond (Nat.blt j 1) (some 104) (some 105)) (cond (Nat.blt j 3) (some 106) (none)))) (cond (Nat.blt a 105) ((0, 5, fun _ => none)) ((2, 5, fun _ => none)))))) (cond (Nat.blt a 112) (cond (Nat.blt a 109) (cond (Nat.blt a 107) ((2, 5, fun _ => none)) (cond (Nat.blt a 108) ((103, 9, fun j => cond (Nat.blt j 5) (cond (Nat.blt j 2) (cond (Nat.blt j 1) (none) (none)) (cond (Nat.blt j 3) (some 108) (cond (Nat.blt j 4) (some 109) (some 110)))) (cond (Nat.blt j 7) (cond (Nat.blt j 6) (some 111) (some 112)) (cond (Nat.blt j 8) (some 113) (cond (Nat.blt j 9) (some 114) (none)))))) ((0, 12, fun _ => none)))) (cond (Nat.blt a 110) ((0, 12, fun _ => none)) (cond (Nat.blt a 111) ((0, 12, fun _ => none)) ((1, 12, fun _ => none))))) (cond (Nat.blt a 115) (cond (Nat.blt a 113) ((0, 12, fun _ => none)) ((0, 30, fun _ => none))) (cond (Nat.blt a 116) ((102, 4, fun j => cond (Nat.blt j 2) (cond (Nat.blt j 1) (none) (none)) (cond (Nat.blt j 3) (some 116) (cond (Nat.blt j 4) (some 117) (none))))) (cond (Nat.blt a 117) ((0, 21, fun _ => none)) ((7, 12, fun j => cond (Nat.blt j 12) (some (118 + j)) none))))))) (cond (Nat.blt a 130) ((105, 8, fun _ => none)) (cond (Nat.blt a 136) (cond (Nat.blt a 133) (cond (Nat.blt a 131) ((106, 13, fun j => cond (Nat.blt j 4) (cond (Nat.blt j 2) (cond (Nat.blt j 1) (some 2) (some 131)) (cond (Nat.blt j 3) (some 132) (some 133))) (cond (Nat.blt j 6) (cond (Nat.blt j 5) (some 134) (some 135)) (cond (Nat.blt j 7) (some 136) (cond (Nat.blt j 8) (some 137) (none)))))) (cond (Nat.blt a 132) ((0, 24, fun _ => none)) ((0, 6480, fun _ => none)))) ((0, 6480, fun _ => none))) (cond (Nat.blt a 139) (cond (Nat.blt a 137) ((0, 5, fun _ => none)) (cond (Nat.blt a 138) ((0, 5, fun _ => none)) ((110, 58, fun j => cond (Nat.blt j 29) (cond (Nat.blt j 14) (cond (Nat.blt j 7) (cond (Nat.blt j 3) (cond (Nat.blt j 1) (none) (cond (Nat.blt j 2) (none) (some 139))) (cond (Nat.blt j 5) (cond (Nat.blt j 4) (none) (some 140)) (cond (Nat.blt j 6) (some 141) (some 142)))) (cond (Nat.blt j 10) (cond (Nat.blt j 8) (some 143) (cond (Nat.blt j 9) (some 144) (some 145))) (cond (Nat.blt j 12) (cond (Nat.blt j 11) (some 146) (some 147)) (cond (Nat.blt j 13) (some 148) (some 149))))) (cond (Nat.blt j 21) (cond (Nat.blt j 17) (cond (Nat.blt j 15) (some 150) (cond (Nat.blt j 16) (some 151) (some 152))) (cond (Nat.blt j 19) (cond (Nat.blt j 18) (some 153) (some 154)) (cond (Nat.blt j 20) (some 155) (some 156)))) (cond (Nat.blt j 25) (cond (Nat.blt j 23) (cond (Nat.blt j 22) (some 157) (some 158)) (cond (Nat.blt j 24) (some 159) (some 160))) (cond (Nat.blt j 27) (cond (Nat.blt j 26) (some 161) (some 162)) (cond (Nat.blt j 28) (none) (some 163)))))) (cond (Nat.blt j 43) (cond (Nat.blt j 36) (cond (Nat.blt j 32) (cond (Nat.blt j 30) (some 164) (cond (Nat.blt j 31) (some 165) (none))) (cond (Nat.blt j 34) (cond (Nat.blt j 33) (some 166) (some 167)) (cond (Nat.blt j 35) (some 168) (some 169)))) (cond (Nat.blt j 39) (cond (Nat.blt j 37) (some 170) (cond (Nat.blt j 38) (none) (some 171))) (cond (Nat.blt j 41) (cond (Nat.blt j 40) (some 172) (none)) (cond (Nat.blt j 42) (some 173) (none))))) (cond (Nat.blt j 50) (cond (Nat.blt j 46) (cond (Nat.blt j 44) (some 174) (cond (Nat.blt j 45) (some 175) (some 176))) (cond (Nat.blt j 48) (cond (Nat.blt j 47) (some 177) (some 178)) (cond (Nat.blt j 49) (some 179) (some 180)))) (cond (Nat.blt j 54) (cond (Nat.blt j 52) (cond (Nat.blt j 51) (some 181) (none)) (cond (Nat.blt j 53) (some 182) (some 183))) (cond (Nat.blt j 56) (cond (Nat.blt j 55) (some 184) (some 185)) (cond (Nat.blt j 57) (some 186) (none)))))))))) (cond (Nat.blt a 140) ((0, 5, fun _ => none)) ((0, 24, fun _ => none))))))) (cond (Nat.blt a 166) (cond (Nat.blt a 154) (cond (Nat.blt a 148) (cond (Nat.blt a 145) (cond (Nat.blt a 143) ((0, 120, fun _ => none)) (cond (Nat.blt a 144) ((0, 120, fun _ => none)) ((0, 24, fun _ => none)))) (cond (Nat.blt a 146) ((1, 24, fun _ => none)) (cond (Nat.blt a 147) ((0, 5, fun _ => none)) ((0, 20, fun _ => none))))) ((0, 20, fun _ => none))) (cond (Nat.blt a 160) (cond (Nat.blt a 157) (cond (Nat.blt a 155) ((0, 20, fun _ => none)) ((0, 5, fun _ => none))) (cond (Nat.blt a 158) ((1, 5, fun _ => none)) ((0, 5, fun _ => none)))) (cond (Nat.blt a 163) ((0, 5, fun _ => none)) ((0, 8, fun _ => none))))) (cond (Nat.blt a 178) (cond (Nat.blt a 172) (cond (Nat.blt a 169) ((0, 12, fun _ => none)) (cond (Nat.blt a 170) ((0, 12, fun _ => none)) (cond (Nat.blt a 171) ((1, 12, fun _ => none)) ((0, 30, fun _ => none))))) (cond (Nat.blt a 175) (cond (Nat.blt a 173) ((0, 30, fun _ => none)) (cond (Nat.blt a 174) ((0, 21, fun _ => none)) ((0, 12, fun _ => none)))) ((0, 12, fun _ => none)))) (cond (Nat.blt a 184) (cond (Nat.blt a 181) ((0, 12, fun _ => none)) (cond (Nat.blt a 182) ((1, 12, fun _ => none)) ((0, 8192, fun _ => none)))) (cond (Nat.blt a 187) (cond (Nat.blt a 185) ((0, 8192, fun _ => none)) (cond (Nat.blt a 186) ((0, 8192, fun _ => none)) ((0, 5, fun _ => none)))) (cond (Nat.blt a 188) ((2, 1, fun _ => none)) (cond (Nat.blt a 189) ((3, 1, fun _ => none)) ((0, 0, fun _ => none)))))))))
def I0 (xs : Nat → Int32) (a j : Nat) : Int32 := cond (Nat.blt a 95) (cond (Nat.blt a 47) (cond (Nat.blt a 23) (cond (Nat.blt a 11) (cond (Nat.blt a 5) (cond (Nat.blt a 2) (cond (Nat.blt a 1) (xs j) (0)) (0)) (0)) (0)) (0)) (cond (Nat.blt a 71) (cond (Nat.blt a 59) (cond (Nat.blt a 53) (0) (cond (Nat.blt a 56) (0) (cond (Nat.blt a 57) (0) (cond (Nat.blt a 58) (0) ((-2)))))) (cond (Nat.blt a 65) (cond (Nat.blt a 62) (cond (Nat.blt a 60) (0) (cond (Nat.blt a 61) (0) ((-1)))) (cond (Nat.blt a 63) ((-1)) (cond (Nat.blt a 64) ((-1)) (0)))) (cond (Nat.blt a 68) (0) (cond (Nat.blt a 69) (0) ((-1)))))) (cond (Nat.blt a 83) (cond (Nat.blt a 77) (cond (Nat.blt a 74) (cond (Nat.blt a 72) ((-1)) (0)) (0)) (cond (Nat.blt a 80) ((-1)) (0))) (cond (Nat.blt a 89) (cond (Nat.blt a 86) (cond (Nat.blt a 84) (0) (cond (Nat.blt a 85) (0) ((-1)))) (cond (Nat.blt a 87) ((-1)) (cond (Nat.blt a 88) ((-1)) (0)))) (cond (Nat.blt a 92) (0) (cond (Nat.blt a 93) (0) (cond (Nat.blt j 2) (cond (Nat.blt j 1) ((-1)) (0)) (0)))))))) (cond (Nat.blt a 142) (cond (Nat.blt a 118) (cond (Nat.blt a 106) (cond (Nat.blt a 100) (cond (Nat.blt a 97) (cond (Nat.blt j 2) (cond (Nat.blt j 1) ((-1)) (0)) (0)) (cond (Nat.blt a 98) (cond (Nat.blt j 2) (cond (Nat.blt j 1) ((-1)) (0)) (0)) (0))) (cond (Nat.blt a 103) (0) (cond (Nat.blt a 104) (0) (cond (Nat.blt a 105) (1000) (0))))) (cond (Nat.blt a 112) (0) (cond (Nat.blt a 115) (0) (cond (Nat.blt a 116) (cond (Nat.blt j 2) (cond (Nat.blt j 1) (1) (0)) (0)) (cond (Nat.blt a 117) ((-1)) (0)))))) (cond (Nat.blt a 130) (cond (Nat.blt j 4) (cond (Nat.blt j 2) (0) (cond (Nat.blt j 3) (0) ((-1)))) (cond (Nat.blt j 6) (cond (Nat.blt j 5) (0) ((-1))) (0))) (cond (Nat.blt a 136) (cond (Nat.blt a 133) (cond (Nat.blt a 131) (cond (Nat.blt j 6) (0) (cond (Nat.blt j 9) (0) (cond (Nat.blt j 11) (0) (cond (Nat.blt j 12) ((-1)) (0))))) (0)) (0)) (cond (Nat.blt a 139) (cond (Nat.blt a 137) (0) (cond (Nat.blt a 138) ((-1)) (cond (Nat.blt j 29) (0) (cond (Nat.blt j 43) (cond (Nat.blt j 36) (0) (cond (Nat.blt j 39) (0) (cond (Nat.blt j 41) (cond (Nat.blt j 40) (0) (1)) (0)))) (cond (Nat.blt j 50) (0) (cond (Nat.blt j 54) (cond (Nat.blt j 52) (cond (Nat.blt j 51) (0) ((-1))) (0)) (0))))))) (0))))) (cond (Nat.blt a 166) (cond (Nat.blt a 154) (cond (Nat.blt a 148) (cond (Nat.blt a 145) (0) (cond (Nat.blt a 146) (0) ((-1)))) (cond (Nat.blt a 151) (cond (Nat.blt a 149) ((-1)) (cond (Nat.blt a 150) ((-1)) (0))) (0))) (cond (Nat.blt a 160) (cond (Nat.blt a 157) (cond (Nat.blt a 155) (0) (cond (Nat.blt a 156) ((-1)) (0))) (cond (Nat.blt a 158) (0) (cond (Nat.blt a 159) (0) (1000)))) (0))) (cond (Nat.blt a 178) (cond (Nat.blt a 172) (0) (cond (Nat.blt a 175) (cond (Nat.blt a 173) (0) (cond (Nat.blt a 174) ((-1)) (0))) (0))) (0))))
abbrev hp (L : Nat) (x : Hs) : aHp := ((1, 189), SH L, x)
abbrev xi (x : Int32) : Nat := x.toNatClampNeg
def x0 (xs : Nat → Int32) : Hs := (I0 xs, fun _ _ => 0, fun _ _ => 0)
def wI (x : Hs) (q j : Nat) (v : Int32) : Hs := (up2 x.1 q j v, x.2)
def wJ (x : Hs) (q j : Nat) (v : Int64) : Hs := (x.1, up2 x.2.1 q j v, x.2.2)
def wE (x : Hs) (q j : Nat) (v : UInt64) : Hs := (x.1, x.2.1, up2 x.2.2 q j v)
/-- cell q is of kind k -/
def kk (L q k : Nat) : Bool := Nat.blt q 189 && Nat.beq (SH L q).1 k
def A5 (L q : Nat) : Prop := kk L q 0 = true ∧ (SH L q).2.1 = 5
def AL (L q : Nat) : Prop := kk L q 2 = true ∧ (SH L q).2.1 = 5
def RG (L q : Nat) : Prop := kk L q 107 = true ∧ (SH L q).2.2 = rr q ∧ A5 L (q + 1) ∧ A5 L (q + 2) ∧ A5 L (q + 3) ∧ AL L (q + 4) ∧ AL L (q + 5) ∧ AL L (q + 6) ∧ AL L (q + 7)
def RO (L q : Nat) : Prop := kk L q 108 = true
def IN (L q : Nat) : Prop := kk L q 105 = true
theorem lt_of_aIn {x : Int32} {n : Nat} (h : aIn x n = true) : xi x < n := by
  unfold aIn at h
  rw [Bool.and_eq_true] at h
  exact Nat.le_of_ble_eq_true h.2
theorem RG_lt (L : Nat) : ∀ j, j < 4 → RG L (60 + 8 * j)
  | 0, _ => ⟨rfl, rfl, ⟨rfl, rfl⟩, ⟨rfl, rfl⟩, ⟨rfl, rfl⟩, ⟨rfl, rfl⟩, ⟨rfl, rfl⟩, ⟨rfl, rfl⟩, ⟨rfl, rfl⟩⟩
  | 1, _ => ⟨rfl, rfl, ⟨rfl, rfl⟩, ⟨rfl, rfl⟩, ⟨rfl, rfl⟩, ⟨rfl, rfl⟩, ⟨rfl, rfl⟩, ⟨rfl, rfl⟩, ⟨rfl, rfl⟩⟩
  | 2, _ => ⟨rfl, rfl, ⟨rfl, rfl⟩, ⟨rfl, rfl⟩, ⟨rfl, rfl⟩, ⟨rfl, rfl⟩, ⟨rfl, rfl⟩, ⟨rfl, rfl⟩, ⟨rfl, rfl⟩⟩
  | 3, _ => ⟨rfl, rfl, ⟨rfl, rfl⟩, ⟨rfl, rfl⟩, ⟨rfl, rfl⟩, ⟨rfl, rfl⟩, ⟨rfl, rfl⟩, ⟨rfl, rfl⟩, ⟨rfl, rfl⟩⟩
  | n + 4, h => by omega
theorem RO_lt (L : Nat) : ∀ j, j < 5 → RO L (93 + j) := by
  intro j hj
  rcases (show j = 0 ∨ j = 1 ∨ j = 2 ∨ j = 3 ∨ j = 4 by omega) with rfl | rfl | rfl | rfl | rfl <;> exact rfl
theorem IN_lt (L : Nat) : ∀ j, j < 12 → IN L (118 + j) := by
  intro j hj
  rcases (show j = 0 ∨ j = 1 ∨ j = 2 ∨ j = 3 ∨ j = 4 ∨ j = 5 ∨ j = 6 ∨ j = 7 ∨ j = 8 ∨ j = 9 ∨ j = 10 ∨ j = 11 by omega) with rfl | rfl | rfl | rfl | rfl | rfl | rfl | rfl | rfl | rfl | rfl | rfl <;> exact rfl
theorem LW_lt (L : Nat) : ∀ j, j < 24 → A5 L (7 + j) := by
  intro j hj
  rcases (show j = 0 ∨ j = 1 ∨ j = 2 ∨ j = 3 ∨ j = 4 ∨ j = 5 ∨ j = 6 ∨ j = 7 ∨ j = 8 ∨ j = 9 ∨ j = 10 ∨ j = 11 ∨ j = 12 ∨ j = 13 ∨ j = 14 ∨ j = 15 ∨ j = 16 ∨ j = 17 ∨ j = 18 ∨ j = 19 ∨ j = 20 ∨ j = 21 ∨ j = 22 ∨ j = 23 by omega) with rfl | rfl | rfl | rfl | rfl | rfl | rfl | rfl | rfl | rfl | rfl | rfl | rfl | rfl | rfl | rfl | rfl | rfl | rfl | rfl | rfl | rfl | rfl | rfl <;> exact ⟨rfl, rfl⟩
theorem HI_lt (L : Nat) : ∀ j, j < 24 → A5 L (32 + j) := by
  intro j hj
  rcases (show j = 0 ∨ j = 1 ∨ j = 2 ∨ j = 3 ∨ j = 4 ∨ j = 5 ∨ j = 6 ∨ j = 7 ∨ j = 8 ∨ j = 9 ∨ j = 10 ∨ j = 11 ∨ j = 12 ∨ j = 13 ∨ j = 14 ∨ j = 15 ∨ j = 16 ∨ j = 17 ∨ j = 18 ∨ j = 19 ∨ j = 20 ∨ j = 21 ∨ j = 22 ∨ j = 23 by omega) with rfl | rfl | rfl | rfl | rfl | rfl | rfl | rfl | rfl | rfl | rfl | rfl | rfl | rfl | rfl | rfl | rfl | rfl | rfl | rfl | rfl | rfl | rfl | rfl <;> exact ⟨rfl, rfl⟩

section RULES
variable {y pc n a b c d : Nat} {v : Value} {u : Nat × Nat} {L0 : List (Option Value)} {st : List Value} {h : aHp} {r : aOut}
theorem cond_some {α : Type} {b : Bool} {t : Option α} {r : α} (h : cond b t none = some r) : b = true ∧ t = some r := by
  cases b with
  | false => cases h
  | true => exact ⟨rfl, h⟩
theorem cond_none {α : Type} {b : Bool} {t : Option α} {r : α} (h : cond b none t = some r) : b = false ∧ t = some r := by
  cases b with
  | true => cases h
  | false => exact ⟨rfl, h⟩
theorem ite_or {α : Type} {p : Prop} [Decidable p] {s t : α} {r : α} (h : (if p then s else t) = r) : (p ∧ s = r) ∨ (¬ p ∧ t = r) := by
  by_cases hp : p
  · rw [if_pos hp] at h; exact Or.inl ⟨hp, h⟩
  · rw [if_neg hp] at h; exact Or.inr ⟨hp, h⟩
theorem bind_ok {α β : Type} {o : Option α} {f : α → Option β} {r : β} (h : o.bind f = some r) : ∃ w, o = some w ∧ f w = some r := Option.bind_eq_some_iff.mp h
theorem ev_s {f' : aFr} {h' : aHp} {e : aEn} {f : aFr} (hc : cd y f.1 = some e) (hp : aPl e = true) (hs : aStep y e u f h = some (f', u, h')) (k : Ev y u f' h' r) : Ev y u f h r := ev_1 (q := (f', u, h')) hc hp hs k
theorem ev_ift {o : Jvm.ClassFile.Cond} {i : Int} {x : Int32} (hc : cd y pc = some (.ifCond o i, n, v, a, b, c, d)) (hd : aC0 o x = true) (k : Ev y u (a, aMb b L0, st) h r) : Ev y u (pc, L0, .int x :: st) h r := by
  refine ev_s hc rfl ?_ k
  show cond (aC0 o x) _ _ = _
  rw [hd]
  rfl
theorem ev_iff {o : Jvm.ClassFile.Cond} {i : Int} {x : Int32} (hc : cd y pc = some (.ifCond o i, n, v, a, b, c, d)) (hd : aC0 o x = false) (k : Ev y u (pc + n, L0, st) h r) : Ev y u (pc, L0, .int x :: st) h r := by
  refine ev_s hc rfl ?_ k
  show cond (aC0 o x) _ _ = _
  rw [hd]
  rfl
theorem ev_ict {o : Jvm.ClassFile.Cond} {i : Int} {x z : Int32} (hc : cd y pc = some (.if_icmp o i, n, v, a, b, c, d)) (hd : aC2 o x z = true) (k : Ev y u (a, aMb b L0, st) h r) : Ev y u (pc, L0, .int z :: .int x :: st) h r := by
  refine ev_s hc rfl ?_ k
  show cond (aC2 o x z) _ _ = _
  rw [hd]
  rfl
theorem ev_icf {o : Jvm.ClassFile.Cond} {i : Int} {x z : Int32} (hc : cd y pc = some (.if_icmp o i, n, v, a, b, c, d)) (hd : aC2 o x z = false) (k : Ev y u (pc + n, L0, st) h r) : Ev y u (pc, L0, .int z :: .int x :: st) h r := by
  refine ev_s hc rfl ?_ k
  show cond (aC2 o x z) _ _ = _
  rw [hd]
  rfl
theorem ev_iald {x : Int32} {q : Nat} (hc : cd y pc = some (.iaload, n, v, a, b, c, d)) (hk : (aK h q 0 || aK h q 8) = true) (hin : aIn x (h.2.1 q).2.1 = true) (k : Ev y u (pc + n, L0, .int (h.2.2.1 q (xi x)) :: st) h r) : Ev y u (pc, L0, .int x :: .ref q :: st) h r := by
  refine ev_s hc rfl ?_ k
  show cond ((aK h q 0 || aK h q 8) && aIn x (h.2.1 q).2.1) _ _ = _
  rw [hk, hin]
  rfl
theorem ev_bald {x : Int32} {q : Nat} (hc : cd y pc = some (.baload, n, v, a, b, c, d)) (hk : aK h q 1 = true) (hin : aIn x (h.2.1 q).2.1 = true) (k : Ev y u (pc + n, L0, .int (h.2.2.1 q (xi x)) :: st) h r) : Ev y u (pc, L0, .int x :: .ref q :: st) h r := by
  refine ev_s hc rfl ?_ k
  show cond (aK h q 1 && aIn x (h.2.1 q).2.1) _ _ = _
  rw [hk, hin]
  rfl
theorem ev_lald {x : Int32} {q : Nat} (hc : cd y pc = some (.laload, n, v, a, b, c, d)) (hk : aK h q 2 = true) (hin : aIn x (h.2.1 q).2.1 = true) (k : Ev y u (pc + n, L0, .long (h.2.2.2.1 q (xi x)) :: st) h r) : Ev y u (pc, L0, .int x :: .ref q :: st) h r := by
  refine ev_s hc rfl ?_ k
  show cond (aK h q 2 && aIn x (h.2.1 q).2.1) _ _ = _
  rw [hk, hin]
  rfl
theorem ev_dald {x : Int32} {q : Nat} (hc : cd y pc = some (.daload, n, v, a, b, c, d)) (hk : aK h q 3 = true) (hin : aIn x (h.2.1 q).2.1 = true) (k : Ev y u (pc + n, L0, .double (h.2.2.2.2 q (xi x)) :: st) h r) : Ev y u (pc, L0, .int x :: .ref q :: st) h r := by
  refine ev_s hc rfl ?_ k
  show cond (aK h q 3 && aIn x (h.2.1 q).2.1) _ _ = _
  rw [hk, hin]
  rfl
theorem ev_aald {x : Int32} {q t : Nat} (hc : cd y pc = some (.aaload, n, v, a, b, c, d)) (hk : (aK h q 4 || (aK h q 5 || (aK h q 6 || aK h q 7))) = true) (hin : aIn x (h.2.1 q).2.1 = true) (ht : va_rf ((h.2.1 q).2.2 (xi x)) = .ref t) (k : Ev y u (pc + n, L0, .ref t :: st) h r) : Ev y u (pc, L0, .int x :: .ref q :: st) h r := by
  refine ev_s hc rfl ?_ k
  show cond ((aK h q 4 || (aK h q 5 || (aK h q 6 || aK h q 7))) && aIn x (h.2.1 q).2.1) _ _ = _
  rw [hk, hin]
  show some ((pc + n, L0, va_rf ((h.2.1 q).2.2 (xi x)) :: st), u, h) = _
  rw [ht]
theorem ev_iast {x w : Int32} {q : Nat} (hc : cd y pc = some (.iastore, n, v, a, b, c, d)) (hk : aK h q 0 = true) (hin : aIn x (h.2.1 q).2.1 = true) (k : Ev y u (pc + n, L0, st) (aWI h q (xi x) w) r) : Ev y u (pc, L0, .int w :: .int x :: .ref q :: st) h r := by
  refine ev_s hc rfl ?_ k
  show cond (aK h q 0 && aIn x (h.2.1 q).2.1) _ _ = _
  rw [hk, hin]
  rfl
theorem ev_bast {x w : Int32} {q : Nat} (hc : cd y pc = some (.bastore, n, v, a, b, c, d)) (hk : aK h q 1 = true) (hin : aIn x (h.2.1 q).2.1 = true) (hw : aBit w = true) (k : Ev y u (pc + n, L0, st) (aWI h q (xi x) w) r) : Ev y u (pc, L0, .int w :: .int x :: .ref q :: st) h r := by
  refine ev_s hc rfl ?_ k
  show cond (aK h q 1 && (aIn x (h.2.1 q).2.1 && aBit w)) _ _ = _
  rw [hk, hin, hw]
  rfl
theorem ev_last {x : Int32} {w : Int64} {q : Nat} (hc : cd y pc = some (.lastore, n, v, a, b, c, d)) (hk : aK h q 2 = true) (hin : aIn x (h.2.1 q).2.1 = true) (k : Ev y u (pc + n, L0, st) (aWJ h q (xi x) w) r) : Ev y u (pc, L0, .long w :: .int x :: .ref q :: st) h r := by
  refine ev_s hc rfl ?_ k
  show cond (aK h q 2 && aIn x (h.2.1 q).2.1) _ _ = _
  rw [hk, hin]
  rfl
theorem ev_dast {x : Int32} {w : UInt64} {q : Nat} (hc : cd y pc = some (.dastore, n, v, a, b, c, d)) (hk : aK h q 3 = true) (hin : aIn x (h.2.1 q).2.1 = true) (k : Ev y u (pc + n, L0, st) (aWE h q (xi x) w) r) : Ev y u (pc, L0, .double w :: .int x :: .ref q :: st) h r := by
  refine ev_s hc rfl ?_ k
  show cond (aK h q 3 && aIn x (h.2.1 q).2.1) _ _ = _
  rw [hk, hin]
  rfl
theorem ev_gfi {i q : Nat} (hc : cd y pc = some (.getfield i, n, v, a, b, c, d)) (hcc : Nat.beq c 1 = false) (hk : aK h q (100 + a) = true) (k : Ev y u (pc + n, L0, .int (h.2.2.1 q b) :: st) h r) : Ev y u (pc, L0, .ref q :: st) h r := by
  refine ev_s hc rfl ?_ k
  show cond (aK h q (100 + a)) (aNx _ n u h (cond (Nat.beq c 1) _ _ :: st)) _ = _
  rw [hk, hcc]
  rfl
theorem ev_gfr {i q t : Nat} (hc : cd y pc = some (.getfield i, n, v, a, b, c, d)) (hcc : Nat.beq c 1 = true) (hk : aK h q (100 + a) = true) (ht : va_rf ((h.2.1 q).2.2 b) = .ref t) (k : Ev y u (pc + n, L0, .ref t :: st) h r) : Ev y u (pc, L0, .ref q :: st) h r := by
  refine ev_s hc rfl ?_ k
  show cond (aK h q (100 + a)) (aNx _ n u h (cond (Nat.beq c 1) (va_rf ((h.2.1 q).2.2 b)) _ :: st)) _ = _
  rw [hk, hcc, ht]
  rfl
theorem ev_pfi {i q : Nat} {x : Int32} (hc : cd y pc = some (.putfield i, n, v, a, b, c, d)) (hk : aK h q (100 + a) = true) (hf : (fOK y a b && (Nat.beq c 0 || (Nat.beq c 2 && aBit x))) = true) (k : Ev y u (pc + n, L0, st) (aWI h q b x) r) : Ev y u (pc, L0, .int x :: .ref q :: st) h r := by
  refine ev_s hc rfl ?_ k
  show cond (aK h q (100 + a) && (fOK y a b && (Nat.beq c 0 || (Nat.beq c 2 && aBit x)))) _ _ = _
  rw [hk, hf]
  rfl
theorem ev_irem {x z : Int32} (hc : cd y pc = some (.irem, n, v, a, b, c, d)) (hz : ¬ z = 0) (k : Ev y u (pc + n, L0, .int (x - x / z * z) :: st) h r) : Ev y u (pc, L0, .int z :: .int x :: st) h r := by
  refine ev_s hc rfl ?_ k
  show cond (decide (z = 0)) _ _ = _
  rw [decide_eq_false hz]
  rfl
theorem ev_idiv {x z : Int32} (hc : cd y pc = some (.idiv, n, v, a, b, c, d)) (hz : ¬ z = 0) (k : Ev y u (pc + n, L0, .int (x / z) :: st) h r) : Ev y u (pc, L0, .int z :: .int x :: st) h r := by
  refine ev_s hc rfl ?_ k
  show cond (decide (z = 0)) _ _ = _
  rw [decide_eq_false hz]
  rfl
theorem ev_lrem {x z : Int64} (hc : cd y pc = some (.lrem, n, v, a, b, c, d)) (hz : ¬ z = 0) (k : Ev y u (pc + n, L0, .long (x - x / z * z) :: st) h r) : Ev y u (pc, L0, .long z :: .long x :: st) h r := by
  refine ev_s hc rfl ?_ k
  show cond (decide (z = 0)) _ _ = _
  rw [decide_eq_false hz]
  rfl
theorem ev_fdiv {x z : UInt32} (hc : cd y pc = some (.fdiv, n, v, a, b, c, d)) (hz : aN32 (FP.fdiv x z) = true) (k : Ev y u (pc + n, L0, .float (FP.fdiv x z) :: st) h r) : Ev y u (pc, L0, .float z :: .float x :: st) h r := by
  refine ev_s hc rfl ?_ k
  show cond (aN32 (FP.fdiv x z)) _ _ = _
  rw [hz]
  rfl
theorem ev_f2d {x : UInt32} (hc : cd y pc = some (.f2d, n, v, a, b, c, d)) (hz : aN64 (FP.f2d x) = true) (k : Ev y u (pc + n, L0, .double (FP.f2d x) :: st) h r) : Ev y u (pc, L0, .float x :: st) h r := by
  refine ev_s hc rfl ?_ k
  show cond (aN64 (FP.f2d x)) _ _ = _
  rw [hz]
  rfl
theorem ev_iret {x : Int32} {tt : FieldType} (hc : cd y pc = some (.ireturn, n, v, a, b, c, d)) (hu : (Nat.ble u.1 (mcT y) && Nat.ble u.2 (msT y)) = true) (ht : rt y = some tt) (hb : tt = .int ∨ (tt = .boolean ∧ aBit x = true)) : Ev y u (pc, L0, [.int x]) h (.inl (some (.int x)), h) := by
  refine ev_end hc rfl hu ?_
  show cond (match rt y with | some .int => true | some .boolean => aBit x | _ => false) _ _ = _
  rw [ht]
  rcases hb with rfl | ⟨rfl, hb⟩
  · rfl
  · dsimp only
    rw [hb]
    rfl
theorem ev_fret {x : UInt32} (hc : cd y pc = some (.freturn, n, v, a, b, c, d)) (hu : (Nat.ble u.1 (mcT y) && Nat.ble u.2 (msT y)) = true) (ht : rt y = some .float) : Ev y u (pc, L0, [.float x]) h (.inl (some (.float x)), h) := by
  refine ev_end hc rfl hu ?_
  show cond (match rt y with | some .float => true | _ => false) _ _ = _
  rw [ht]
  rfl
theorem ev_vret (hc : cd y pc = some (.return_, n, v, a, b, c, d)) (hu : (Nat.ble u.1 (mcT y) && Nat.ble u.2 (msT y)) = true) (ht : rt y = none) : Ev y u (pc, L0, []) h (.inl none, h) := by
  refine ev_end hc rfl hu ?_
  show cond (match rt y with | none => true | _ => false) _ _ = _
  rw [ht]
  rfl
theorem A5.kd {L q : Nat} {x : Hs} (f : A5 L q) : (aK (hp L x) q 0 || aK (hp L x) q 8) = true := by
  show (kk L q 0 || kk L q 8) = true
  rw [f.1]
  rfl
theorem A5.ln {L q : Nat} {x : Hs} {i : Int32} (f : A5 L q) (hi : aIn i 5 = true) : aIn i ((hp L x).2.1 q).2.1 = true := by
  show aIn i (SH L q).2.1 = true
  rw [f.2]
  exact hi
theorem AL.ln {L q : Nat} {x : Hs} {i : Int32} (f : AL L q) (hi : aIn i 5 = true) : aIn i ((hp L x).2.1 q).2.1 = true := by
  show aIn i (SH L q).2.1 = true
  rw [f.2]
  exact hi
theorem RG.fd {L q j : Nat} {x : Hs} (f : RG L q) (h1 : 1 ≤ j) (h8 : j < 8) : va_rf (((hp L x).2.1 q).2.2 j) = .ref (q + j) := by
  show va_rf ((SH L q).2.2 j) = _
  rw [f.2.1]
  unfold rr
  rw [show Nat.blt j 1 = false from by rcases (show j = 1 ∨ j = 2 ∨ j = 3 ∨ j = 4 ∨ j = 5 ∨ j = 6 ∨ j = 7 by omega) with rfl | rfl | rfl | rfl | rfl | rfl | rfl <;> rfl, show Nat.blt j 8 = true from Nat.ble_eq_true_of_le h8]
  rfl
theorem RG.cat {L q : Nat} {x : Hs} (f : RG L q) : va_rf (((hp L x).2.1 q).2.2 0) = .ref 2 := by
  show va_rf ((SH L q).2.2 0) = _
  rw [f.2.1]
  rfl
theorem ok_u {e : aEn} {as t : List Value} (h0 : aCallOK y e (0, 0) as t h = true) (h1 : u.1 + mcT e.2.2.2.1 ≤ mcT y) (h2 : u.2 + msT e.2.2.2.1 ≤ msT y) : aCallOK y e u as t h = true := by
  unfold aCallOK at h0 ⊢
  simp only [Bool.and_eq_true] at h0 ⊢
  obtain ⟨k1, k2, k3, k4, k5, k6, k7⟩ := h0
  exact ⟨k1, k2, Nat.ble_eq_true_of_le h1, Nat.ble_eq_true_of_le h2, k5, k6, k7⟩
/-- another receiver of the class -/
theorem ok_q {e : aEn} {as t : List Value} {q0 q : Nat} {h0 : aHp} (hk : aK h q (100 + ow e.2.2.2.1) = true) (h9 : aCallOK y e u (.ref q0 :: as) t h0 = true) : aCallOK y e u (.ref q :: as) t h = true := by
  unfold aCallOK at h9 ⊢
  simp only [Bool.and_eq_true] at h9 ⊢
  obtain ⟨k1, k2, k3, k4, k5, k6, k7⟩ := h9
  refine ⟨k1, k2, k3, k4, k5, k6, ?_⟩
  rw [hk]
  cases hb : Nat.beq e.2.2.2.2.2.1 1 with
  | true => rfl
  | false => rw [hb] at k7; exact k7
theorem ev_mm {i : Nat} {x z : Int32} (hc : cd y pc = some (.invokestatic i, n, v, a, b, c, d)) (hp : Nat.ble 6 c = true) (hq : (Nat.ble 1 (fr y) && Nat.ble ((st.map fun v => v.category).sum + 13) (lo y)) = true) (h1 : u.1 ≤ mcT y) (h2 : u.2 ≤ msT y) (k : Ev y u (pc + n, L0, .int (cond (Nat.beq c 6) (if x < z then z else x) (if z < x then z else x)) :: st) h r) : Ev y u (pc, L0, .int z :: .int x :: st) h r := by
  refine ev_s hc ?_ ?_ k
  · show (!(!(Nat.ble 6 c))) = true
    rw [hp]
    rfl
  · rw [Bool.and_eq_true] at hq
    show cond (Nat.ble 6 c && (Nat.ble 1 (fr y) && (Nat.ble ((st.map fun v => v.category).sum + 13) (lo y) && (Nat.ble u.1 (mcT y) && Nat.ble u.2 (msT y))))) _ _ = _
    rw [hp, hq.1, hq.2, Nat.ble_eq_true_of_le h1, Nat.ble_eq_true_of_le h2]
    rfl
theorem ev_tswk {d0 : Int} {l0 h0 : Int} {os : Array Int} {x w : Int32} {t : Nat} (hc : cd y pc = some (.tableswitch d0 l0 h0 os, n, v, a, b, c, d)) (hx : x = w) (hin : aIn w (tsw y).length = true) (ht : (tsw y)[w.toNatClampNeg]? = some t) (k : Ev y u (t, L0, st) h r) : Ev y u (pc, L0, .int x :: st) h r := by
  subst hx
  refine ev_s hc rfl ?_ k
  show cond (aIn x (tsw y).length) (match (tsw y)[x.toNatClampNeg]? with | some t => some ((t, L0, st), u, h) | none => none) _ = _
  rw [hin, ht]
  rfl
theorem ev_tswd {d0 : Int} {l0 h0 : Int} {os : Array Int} {x : Int32} (hc : cd y pc = some (.tableswitch d0 l0 h0 os, n, v, a, b, c, d)) (hin : aIn x (tsw y).length = false) (k : Ev y u (a, L0, st) h r) : Ev y u (pc, L0, .int x :: st) h r := by
  refine ev_s hc rfl ?_ k
  show cond (aIn x (tsw y).length) _ _ = _
  rw [hin]
  rfl
theorem aIn_5 {x : Int32} (h0 : ¬ x = 0) (h1 : ¬ x = 1) (h2 : ¬ x = 2) (h3 : ¬ x = 3) (h4 : ¬ x = 4) : aIn x 5 = false := by
  cases hh : aIn x 5 with
  | false => rfl
  | true =>
    exfalso
    have k1 : x.toInt.toNat < 5 := lt_of_aIn hh
    have k2 : ¬ x < 0 := by
      unfold aIn at hh
      simp only [Bool.and_eq_true, Bool.not_eq_true', decide_eq_false_iff_not] at hh
      exact hh.1
    have k3 : ¬ x.toInt < 0 := fun z => k2 (Int32.lt_iff_toInt_lt.mpr z)
    rcases (show x.toInt = 0 ∨ x.toInt = 1 ∨ x.toInt = 2 ∨ x.toInt = 3 ∨ x.toInt = 4 by omega) with e | e | e | e | e
    · exact h0 (Int32.toInt_inj.mp e)
    · exact h1 (Int32.toInt_inj.mp e)
    · exact h2 (Int32.toInt_inj.mp e)
    · exact h3 (Int32.toInt_inj.mp e)
    · exact h4 (Int32.toInt_inj.mp e)
theorem ev_alen {q k : Nat} (hc : cd y pc = some (.arraylength, n, v, a, b, c, d)) (hk : (Nat.blt q h.1.2 && Nat.ble (h.2.1 q).1 8) = true ∧ (h.2.1 q).2.1 = k) (k9 : Ev y u (pc + n, L0, .int (Int32.ofNat k) :: st) h r) : Ev y u (pc, L0, .ref q :: st) h r := by
  refine ev_s hc rfl ?_ k9
  show cond (Nat.blt q h.1.2 && Nat.ble (h.2.1 q).1 8) (aNx _ n u h (.int (Int32.ofNat (h.2.1 q).2.1) :: st)) _ = _
  rw [hk.1, hk.2]
  rfl
theorem al_of {L q k : Nat} {x : Hs} (f : kk L q k = true) (hk : k ≤ 8) (e : (SH L q).2.1 = 5) : (Nat.blt q (hp L x).1.2 && Nat.ble ((hp L x).2.1 q).1 8) = true ∧ ((hp L x).2.1 q).2.1 = 5 := by
  unfold kk at f
  rw [Bool.and_eq_true] at f
  refine ⟨?_, e⟩
  show (Nat.blt q 189 && Nat.ble (SH L q).1 8) = true
  rw [f.1, Nat.eq_of_beq_eq_true f.2, Nat.ble_eq_true_of_le hk]
  rfl
theorem A5.al {L q : Nat} {x : Hs} (f : A5 L q) : (Nat.blt q (hp L x).1.2 && Nat.ble ((hp L x).2.1 q).1 8) = true ∧ ((hp L x).2.1 q).2.1 = 5 := al_of f.1 (by decide) f.2
theorem AL.al {L q : Nat} {x : Hs} (f : AL L q) : (Nat.blt q (hp L x).1.2 && Nat.ble ((hp L x).2.1 q).1 8) = true ∧ ((hp L x).2.1 q).2.1 = 5 := al_of f.1 (by decide) f.2
theorem rf_lt {L : Nat} {x : Hs} {q m j : Nat} {g : Nat → Nat} (e : (SH L q).2.2 = fun j => cond (Nat.blt j m) (some (g j)) none) (h : j < m) : va_rf (((hp L x).2.1 q).2.2 j) = .ref (g j) := by
  show va_rf ((SH L q).2.2 j) = _
  rw [e]
  show va_rf (cond (Nat.blt j m) (some (g j)) none) = _
  rw [show Nat.blt j m = true from Nat.ble_eq_true_of_le h]
  rfl
theorem rf_59 {L : Nat} {x : Hs} {i : Int32} (h : aIn i 4 = true) : va_rf (((hp L x).2.1 59).2.2 (xi i)) = .ref (60 + 8 * xi i) := rf_lt (m := 4) (g := fun j => 60 + 8 * j) rfl (lt_of_aIn h)
theorem rf_92 {L : Nat} {x : Hs} {i : Int32} (h : aIn i 5 = true) : va_rf (((hp L x).2.1 92).2.2 (xi i)) = .ref (93 + xi i) := rf_lt (m := 5) (g := fun j => 93 + j) rfl (lt_of_aIn h)
theorem rf_117 {L : Nat} {x : Hs} {i : Int32} (h : aIn i 12 = true) : va_rf (((hp L x).2.1 117).2.2 (xi i)) = .ref (118 + xi i) := rf_lt (m := 12) (g := fun j => 118 + j) rfl (lt_of_aIn h)
theorem rf_6 {L : Nat} {x : Hs} {i : Int32} (h : aIn i 24 = true) : va_rf (((hp L x).2.1 6).2.2 (xi i)) = .ref (7 + xi i) := rf_lt (m := 24) (g := fun j => 7 + j) rfl (lt_of_aIn h)
theorem rf_31 {L : Nat} {x : Hs} {i : Int32} (h : aIn i 24 = true) : va_rf (((hp L x).2.1 31).2.2 (xi i)) = .ref (32 + xi i) := rf_lt (m := 24) (g := fun j => 32 + j) rfl (lt_of_aIn h)
theorem end_u (h1 : u.1 ≤ mcT y) (h2 : u.2 ≤ msT y) : (Nat.ble u.1 (mcT y) && Nat.ble u.2 (msT y)) = true := by
  rw [Nat.ble_eq_true_of_le h1, Nat.ble_eq_true_of_le h2]
  rfl
theorem ev_thr {e : aEn} {f : aFr} (hc : cd y f.1 = some e) (hp : (!(aIsEnd e) && aIsThrow e) = true) (h0 : (Nat.beq h.1.1 1 && (Nat.ble 6 (fr y) && Nat.ble ((f.2.2.map fun v => v.category).sum + 82) (lo y))) = true) (h1 : u.1 + 1 ≤ mcT y) (h2 : u.2 + 6 ≤ msT y) (hr : r = (.inr e.2.2.2.1, h)) : Ev y u f h r := by
  refine ev_throw hc hp ?_ hr
  simp only [Bool.and_eq_true] at h0 ⊢
  exact ⟨h0.1, h0.2.1, h0.2.2, Nat.ble_eq_true_of_le h1, Nat.ble_eq_true_of_le h2⟩
end RULES
def FU : Nat := 20000
/-- results, as the abstract machine has them -/
def cvPi (L : Nat) (x : Hs) (r : Int32) : aOut := (.inl (some (.int r)), hp L x)
def cvPf (L : Nat) (x : Hs) (r : UInt32) : aOut := (.inl (some (.float r)), hp L x)
def cvPv (L : Nat) (x : Hs) (_ : Unit) : aOut := (.inl none, hp L x)
def cvMi (L : Nat) (r : Int32 × Hs) : aOut := (.inl (some (.int r.1)), hp L r.2)
def cvMf (L : Nat) (r : UInt32 × Hs) : aOut := (.inl (some (.float r.1)), hp L r.2)
def cvMv (L : Nat) (r : Hs) : aOut := (.inl none, hp L r)
def cvXi (L : Nat) (r : (Int32 ⊕ Nat) × Hs) : aOut := match r.1 with
  | .inl v => (.inl (some (.int v)), hp L r.2)
  | .inr k => (.inr k, hp L r.2)
def cvXf (L : Nat) (r : (UInt32 ⊕ Nat) × Hs) : aOut := match r.1 with
  | .inl v => (.inl (some (.float v)), hp L r.2)
  | .inr k => (.inr k, hp L r.2)
def cvXv (L : Nat) (r : (Unit ⊕ Nat) × Hs) : aOut := match r.1 with
  | .inl _ => (.inl none, hp L r.2)
  | .inr k => (.inr k, hp L r.2)
