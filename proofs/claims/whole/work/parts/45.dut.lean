/-! Duty: loops, and who is on duty -/
theorem i_rem {a b : Int32} (ha : 0 ≤ a.toInt) (hb : 0 < b.toInt) : (a - a / b * b).toInt = a.toInt % b.toInt := by
  have h1 : (a / b).toInt = a.toInt / b.toInt := by
    rw [Int32.toInt_div_of_ne_right a b (fun e => by rw [e, m1_int] at hb; omega), Int.tdiv_eq_ediv_of_nonneg ha]
  have h2 : 0 ≤ a.toInt / b.toInt * b.toInt := Int.mul_nonneg (Int.ediv_nonneg ha (by omega)) (by omega)
  have h3 : a.toInt / b.toInt * b.toInt ≤ a.toInt := Int.ediv_mul_le _ (by omega)
  have h4 := a.toInt_lt
  have h5 : (a / b * b).toInt = a.toInt / b.toInt * b.toInt := by
    rw [i_mul] <;> rw [h1] <;> omega
  rw [i_sub] <;> rw [h5]
  · rw [Int.emod_def, Int.mul_comm]
  · omega
  · omega
theorem zI_div {a : Nat} (ha : a < 2147483648) {b : Nat} (hb0 : 0 < b) (hb : b < 2147483648) : zI a / zI b = zI (a / b) := by
  have h0 : a / b ≤ a := Nat.div_le_self a b
  rw [i_eq, Int32.toInt_div_of_ne_right _ _ (fun e => zI_ne_m1 hb e), zI_int ha, zI_int hb, zI_int (by omega), Int.tdiv_eq_ediv_of_nonneg (by omega)]
  rfl
theorem zI_rem {a : Nat} (ha : a < 2147483648) {b : Nat} (hb0 : 0 < b) (hb : b < 2147483648) : zI a - zI a / zI b * zI b = zI (a % b) := by
  have h0 : a % b ≤ a := Nat.mod_le a b
  rw [i_eq, i_rem (by rw [zI_int ha]; omega) (by rw [zI_int hb]; omega), zI_int ha, zI_int hb, zI_int (by omega)]
  rfl
/-- the reference's own part -/
def MD (P I : Nat) (x : Hs) : Prop := (1 ≤ P ∧ P ≤ 5 ∧ I ≤ 12) ∧ x.1 138 40 = zI P ∧ x.1 138 42 = zI I ∧ (∀ i j, i < I → j < I → x.1 181 i = 0 → x.1 181 j = 0 → x.1 174 i = x.1 174 j → i = j)
theorem IDut.md {P I now : Nat} {x : Hs} (h : IDut P I now x) : MD P I x := ⟨h.1, h.2.1.2.1, h.2.1.2.2.2, h.2.2.2.2.2.2.2.1⟩
theorem MD.of {P I : Nat} {x y : Hs} (h : MD P I x) (c1 : y.1 138 40 = x.1 138 40) (c2 : y.1 138 42 = x.1 138 42) (c3 : y.1 181 = x.1 181) (c4 : y.1 174 = x.1 174) : MD P I y := by
  unfold MD at h ⊢
  rw [c1, c2, c3, c4]
  exact h
/-- who is on duty in a turn -/
def dty (x : Hs) (P t : Nat) : Int32 := if x.1 173 t = -1 then zI (t % P) else x.1 173 t
theorem dty_cg {x y : Hs} (h : y.1 173 = x.1 173) (P t : Nat) : dty y P t = dty x P t := by
  unfold dty
  rw [h]
section DUT
variable {P I now : Nat} {x : Hs}
theorem dty_in (hD : IDut P I now x) {t : Nat} (ht : t < 21) : aIn (dty x P t) P = true := by
  obtain ⟨⟨p1, p2, p3⟩, _, _, hs, _⟩ := hD
  unfold dty
  rcases hs t ht with h | h
  · rw [if_pos h]
    have := Nat.mod_lt t (show 0 < P by omega)
    exact aIn_t this (by omega)
  · rw [if_neg (aIn_ne h)]; exact h
theorem s17 (hD : IDut P I now x) {t : Nat} (ht : t < 21) : gm17 (zI t) x = some (dty x P t) := by
  obtain ⟨⟨p1, p2, p3⟩, ⟨e1, e2, e3, e4⟩, w116, hs, _⟩ := hD
  have g1 : zI P ≥ 1 := by rw [show (1 : Int32) = zI 1 from rfl, zI_ge (by omega) (by omega)]; omega
  have g2 : ¬ zI P = 0 := by rw [show (0 : Int32) = zI 0 from rfl, zI_inj (by omega) (by omega)]; omega
  unfold gm17 gm17_18 dty
  rw [aIn_t ht (by omega), cond_true, cond_true, xi_zI (by omega), w116, e1]
  by_cases q : x.1 173 t = -1
  · rw [if_pos q, if_pos q, if_pos g1, if_neg g2, zI_rem (by omega) (by omega) (by omega)]
  · rw [if_neg q, if_neg q]
theorem s160 (hM : MD P I x) {t : Nat} (ht : t < 21) : gm160 (zI t) x = some (dty x P t) := by
  obtain ⟨⟨p1, p2, p3⟩, e2, e4, _⟩ := hM
  have g2 : ¬ zI P = 0 := by rw [show (0 : Int32) = zI 0 from rfl, zI_inj (by omega) (by omega)]; omega
  unfold gm160 dty
  rw [aIn_t ht (by omega), cond_true, cond_true, xi_zI (by omega), e2]
  by_cases q : x.1 173 t = -1
  · rw [if_pos q, if_pos q, if_neg g2, zI_rem (by omega) (by omega) (by omega)]
  · rw [if_neg q, if_neg q]
/-- the open incident of a service, -1 if none -/
def opn (x : Hs) (I : Nat) (a : Int32) : Int32 := fstI (fun k => decide (x.1 174 k = a) && decide (x.1 181 k = 0)) I 0
theorem opn_cg {x y : Hs} (h1 : y.1 174 = x.1 174) (h2 : y.1 181 = x.1 181) (I : Nat) (a : Int32) : opn y I a = opn x I a := by
  unfold opn
  rw [h1, h2]
theorem opn_in (x : Hs) {I : Nat} (hI : I ≤ 12) (a : Int32) : (opn x I a = -1 ∧ ∀ j, j < I → ¬ (x.1 174 j = a ∧ x.1 181 j = 0)) ∨ (aIn (opn x I a) I = true ∧ x.1 174 (xi (opn x I a)) = a ∧ x.1 181 (xi (opn x I a)) = 0) := by
  unfold opn
  rcases fstI_sp (fun k => decide (x.1 174 k = a) && decide (x.1 181 k = 0)) I 0 with ⟨h1, h2⟩ | ⟨j, h1, h2, h3, h4⟩
  · refine Or.inl ⟨h1, fun j hj w => ?_⟩
    have := h2 j (by omega) (by omega)
    rw [decide_eq_true w.1, decide_eq_true w.2] at this
    cases this
  · rw [Bool.and_eq_true, decide_eq_true_eq, decide_eq_true_eq] at h3
    rw [h4, xi_zI (by omega)]
    exact Or.inr ⟨aIn_t (by omega) (by omega), h3.1, h3.2⟩
theorem s18_2 (hD : IDut P I now x) (a : Int32) : ∀ d n i, i + d = I → d < n → gm18_2 n a (zI i) x = some (fstI (fun k => decide (x.1 174 k = a) && decide (x.1 181 k = 0)) d i)
  | _, 0, _, _, h => by omega
  | 0, n + 1, i, e, _ => by
    obtain ⟨⟨p1, p2, p3⟩, ⟨e1, e2, e3, e4⟩, _⟩ := hD
    rw [gm18_2, if_pos ((ge_lit e3 (by omega) (by omega)).mpr (by omega))]
    rfl
  | d + 1, n + 1, i, e, h => by
    have ih := s18_2 hD a d n (i + 1) (by omega) (by omega)
    obtain ⟨⟨p1, p2, p3⟩, ⟨e1, e2, e3, e4⟩, _, _, hf, _⟩ := hD
    obtain ⟨⟨f0, f1, f2, f3, f4, f5, f6⟩, _⟩ := hf i (by omega)
    rw [gm18_2, if_neg (fun w => by have := (ge_lit e3 (by omega) (by omega)).mp w; omega), aIn_t (by omega) (by omega), cond_true, cond_true, xi_zI (by omega), f0, f6, fstI]
    unfold gm18_37
    rw [zI_succ, ih]
    by_cases q : x.1 174 i = a
    · rw [if_pos q, decide_eq_true q]
      by_cases q2 : x.1 181 i = 0
      · rw [if_pos q2, decide_eq_true q2]; rfl
      · rw [if_neg q2, decide_eq_false q2]; rfl
    · rw [if_neg q, decide_eq_false q]; rfl
theorem s18 (hD : IDut P I now x) (a : Int32) : gm18 a x = some (opn x I a) := s18_2 hD a I FU 0 (by omega) (by have := hD.1; unfold FU; omega)
theorem s162_20 (hI : x.1 138 42 = zI I) (h12 : I ≤ 12) (a1 a2 a3 a4 : Int32) : ∀ d n i r, i + d = I → d < n → gm162_20 n a1 a2 a3 a4 r (zI i) x = gm162_65 a1 a2 a3 a4 (lstI (fun k => decide (x.1 174 k = a1) && decide (x.1 181 k = 0)) d i r) x
  | _, 0, _, _, _, h => by omega
  | 0, n + 1, i, r, h0, _ => by
    rw [gm162_20, if_pos ((ge_lit hI (by omega) (by omega)).mpr (by omega))]
    rfl
  | d + 1, n + 1, i, r, h0, h => by
    have ih := fun r => s162_20 hI h12 a1 a2 a3 a4 d n (i + 1) r (by omega) (by omega)
    rw [gm162_20, if_neg (fun w => by have := (ge_lit hI (by omega) (by omega)).mp w; omega), aIn_t (by omega) (by omega), cond_true, cond_true, xi_zI (by omega), lstI]
    unfold gm162_55 gm162_57
    rw [zI_succ, ih, ih]
    by_cases q : x.1 174 i = a1
    · rw [if_pos q, decide_eq_true q]
      by_cases q2 : x.1 181 i = 0
      · rw [if_pos q2, decide_eq_true q2]; rfl
      · rw [if_neg q2, decide_eq_false q2]; rfl
    · rw [if_neg q, decide_eq_false q]; rfl
theorem s162 (hM : MD P I x) (a1 a2 a3 a4 : Int32) : gm162_20 FU a1 a2 a3 a4 (-1) 0 x = gm162_65 a1 a2 a3 a4 (opn x I a1) x := by
  have h := s162_20 hM.2.2.1 hM.1.2.2 a1 a2 a3 a4 I FU 0 (-1) (by omega) (by have := hM.1; unfold FU; omega)
  rw [lst_fst (fun i j hi hj pi pj => by
    rw [Bool.and_eq_true, decide_eq_true_eq, decide_eq_true_eq] at pi pj
    exact hM.2.2.2 i j hi hj pi.2 pj.2 (pi.1.trans pj.1.symm))] at h
  exact h
end DUT
