/-! Checks that many calls share -/
def win (a b c : Int32) : Bool := !(decide (a < b)) && !(decide (a > c))
theorem s99 (a b c : Int32) (x : Hs) : gm99 a b c x = some (b2i (win a b c)) := by
  unfold gm99 win
  by_cases h1 : a < b
  · rw [if_pos h1, decide_eq_true h1]; rfl
  · rw [if_neg h1, decide_eq_false h1]
    by_cases h2 : a > c
    · rw [if_pos h2, decide_eq_true h2]; rfl
    · rw [if_neg h2, decide_eq_false h2]; rfl
theorem s114 (a b c : Int32) (x : Hs) : gm114 a b c x = some (b2i (win a b c)) := by
  unfold gm114 win
  by_cases h1 : a < b
  · rw [if_pos h1, decide_eq_true h1]; rfl
  · rw [if_neg h1, decide_eq_false h1]
    by_cases h2 : a > c
    · rw [if_pos h2, decide_eq_true h2]; rfl
    · rw [if_neg h2, decide_eq_false h2]; rfl
theorem win_iff (a b c : Int32) : win a b c = true ↔ b.toInt ≤ a.toInt ∧ a.toInt ≤ c.toInt := by
  unfold win
  rw [Bool.and_eq_true, Bool.not_eq_true', Bool.not_eq_true', decide_eq_false_iff_not, decide_eq_false_iff_not, i_lt, i_gt]
  omega
theorem win_in (a : Int32) {n : Nat} (h : n < 2147483648) : win a 0 (zI n - 1) = aIn a n := by
  have h1 : (zI n - 1).toInt = n - 1 := by
    rw [i_sub] <;> rw [zI_int h, show (1 : Int32).toInt = 1 from rfl] <;> omega
  rw [Bool.eq_iff_iff, win_iff, aIn_iff, h1, show (0 : Int32).toInt = 0 from rfl]
  omega
theorem win_lit (a : Int32) {n : Nat} (h : n < 2147483647) : win a 0 (zI n) = aIn a (n + 1) := by
  rw [Bool.eq_iff_iff, win_iff, aIn_iff, zI_int (by omega), show (0 : Int32).toInt = 0 from rfl]
  omega
theorem s92_1 (x : Hs) : gm92 1 x = some (.inl (), x) := by unfold gm92; rw [if_neg (by decide)]
theorem s92_0 (x : Hs) : gm92 0 x = some (.inr 1, x) := by unfold gm92; rw [if_pos rfl]
theorem s93_1 (x : Hs) : gm93 1 x = some (.inl (), x) := by unfold gm93; rw [if_neg (by decide)]
theorem s93_0 (x : Hs) : gm93 0 x = some (.inr 2, x) := by unfold gm93; rw [if_pos rfl]
theorem s91_t {a : Int32} {n : Nat} (x : Hs) (h : aIn a n = true) (hn : n < 2147483648) : gm91 a (zI n) x = some (.inl (), x) := by
  rw [aIn_iff] at h
  unfold gm91
  rw [if_neg (by rw [i_lt, show (0 : Int32).toInt = 0 from rfl]; omega), if_pos (by rw [i_lt, zI_int hn]; omega)]
theorem s91_f {a : Int32} {n : Nat} (x : Hs) (h : aIn a n = false) (hn : n < 2147483648) : gm91 a (zI n) x = some (.inr 0, x) := by
  have h : ¬ (0 ≤ a.toInt ∧ a.toInt < n) := fun w => by rw [(aIn_iff a n).mpr w] at h; cases h
  unfold gm91 gm91_9
  by_cases h1 : a < 0
  · rw [if_pos h1]
  · rw [if_neg h1, if_neg]
    rw [i_lt, show (0 : Int32).toInt = 0 from rfl] at h1
    rw [i_lt, zI_int hn]
    omega
theorem s94_t {S B : Nat} {x : Hs} {a : Int32} (hC : ICat S B x) (h : aIn a S = true) : gm94 a x = some (.inl (), x) := by
  obtain ⟨⟨k1, k2⟩, ⟨e1, e2, e3, e4⟩, -⟩ := hC
  unfold gm94
  rw [e1, s91_t x h (by omega)]
  rfl
theorem s94_f {S B : Nat} {x : Hs} {a : Int32} (hC : ICat S B x) (h : aIn a S = false) : gm94 a x = some (.inr 0, x) := by
  obtain ⟨⟨k1, k2⟩, ⟨e1, e2, e3, e4⟩, -⟩ := hC
  unfold gm94
  rw [e1, s91_f x h (by omega)]
  rfl
theorem s95_t {S B : Nat} {x : Hs} {a : Int32} (hC : ICat S B x) (h : aIn a B = true) : gm95 a x = some (.inl (), x) := by
  obtain ⟨⟨k1, k2⟩, ⟨e1, e2, e3, e4⟩, -⟩ := hC
  unfold gm95
  rw [e3, s91_t x h (by omega)]
  rfl
theorem s95_f {S B : Nat} {x : Hs} {a : Int32} (hC : ICat S B x) (h : aIn a B = false) : gm95 a x = some (.inr 0, x) := by
  obtain ⟨⟨k1, k2⟩, ⟨e1, e2, e3, e4⟩, -⟩ := hC
  unfold gm95
  rw [e3, s91_f x h (by omega)]
  rfl
theorem s96_t {x : Hs} {a : Int32} (h : aIn a 4 = true) : gm96 a x = some (.inl (), x) := by
  unfold gm96
  rw [show (4 : Int32) = zI 4 from rfl, s91_t x h (by omega)]
  rfl
theorem s96_f {x : Hs} {a : Int32} (h : aIn a 4 = false) : gm96 a x = some (.inr 0, x) := by
  unfold gm96
  rw [show (4 : Int32) = zI 4 from rfl, s91_f x h (by omega)]
  rfl
theorem s97_t {F U : Nat} {x : Hs} {a : Int32} (hF : IFlg F U x) (h : aIn a F = true) : gm97 a x = some (.inl (), x) := by
  obtain ⟨⟨k1, k2⟩, ⟨e1, e2, e3, e4⟩, -⟩ := hF
  unfold gm97
  rw [e1, s91_t x h (by omega)]
  rfl
theorem s97_f {F U : Nat} {x : Hs} {a : Int32} (hF : IFlg F U x) (h : aIn a F = false) : gm97 a x = some (.inr 0, x) := by
  obtain ⟨⟨k1, k2⟩, ⟨e1, e2, e3, e4⟩, -⟩ := hF
  unfold gm97
  rw [e1, s91_f x h (by omega)]
  rfl
theorem s98_t {P I now : Nat} {x : Hs} {a : Int32} (hD : IDut P I now x) (h : aIn a I = true) : gm98 a x = some (.inl (), x) := by
  obtain ⟨⟨k1, k2, k3⟩, ⟨e1, e2, e3, e4⟩, -⟩ := hD
  unfold gm98
  rw [e3, s91_t x h (by omega)]
  rfl
theorem s98_f {P I now : Nat} {x : Hs} {a : Int32} (hD : IDut P I now x) (h : aIn a I = false) : gm98 a x = some (.inr 0, x) := by
  obtain ⟨⟨k1, k2, k3⟩, ⟨e1, e2, e3, e4⟩, -⟩ := hD
  unfold gm98
  rw [e3, s91_f x h (by omega)]
  rfl
theorem s113_0 (x : Hs) : gm113 0 x = some (0, wI x 138 57 0) := by unfold gm113; rw [if_pos (by decide)]
theorem s113_1 (x : Hs) : gm113 1 x = some (1, wI x 138 57 1) := by unfold gm113; rw [if_neg (by decide)]
theorem s113_2 (x : Hs) : gm113 2 x = some (1, wI x 138 57 2) := by unfold gm113; rw [if_neg (by decide)]
theorem s113_3 (x : Hs) : gm113 3 x = some (1, wI x 138 57 3) := by unfold gm113; rw [if_neg (by decide)]
theorem s117 {S : Nat} {x : Hs} (a : Int32) (hC : x.1 138 1 = zI S) (hS : S ≤ 5) : gm117 a x = some (b2i (aIn a S)) := by
  unfold gm117
  rw [hC, s114, Option.bind_some, aBit_b, cond_true, win_in a (by omega)]
theorem s118 {B : Nat} {x : Hs} (a : Int32) (hC : x.1 138 3 = zI B) (hB : B ≤ 24) : gm118 a x = some (b2i (aIn a B)) := by
  unfold gm118
  rw [hC, s114, Option.bind_some, aBit_b, cond_true, win_in a (by omega)]
theorem s119 {x : Hs} (a : Int32) : gm119 a x = some (b2i (aIn a 4)) := by
  unfold gm119
  rw [s114, Option.bind_some, aBit_b, cond_true, show (3 : Int32) = zI 3 from rfl, win_lit a (by omega)]
theorem s149 {F : Nat} {x : Hs} (a : Int32) (hC : x.1 138 31 = zI F) (hB : F ≤ 12) : gm149 a x = some (b2i (aIn a F)) := by
  unfold gm149
  rw [hC, s114, Option.bind_some, aBit_b, cond_true, win_in a (by omega)]
theorem s159 {P : Nat} {x : Hs} (a : Int32) (hC : x.1 138 40 = zI P) (hB : P ≤ 5) : gm159 a x = some (b2i (aIn a P)) := by
  unfold gm159
  rw [hC, s114, Option.bind_some, aBit_b, cond_true, win_in a (by omega)]
theorem s163 {I : Nat} {x : Hs} (a : Int32) (hC : x.1 138 42 = zI I) (hB : I ≤ 12) : gm163 a x = some (b2i (aIn a I)) := by
  unfold gm163
  rw [hC, s114, Option.bind_some, aBit_b, cond_true, win_in a (by omega)]
/-- a set's bit, asked by the class and by the reference -/
theorem s101 (v k : Int32) (x : Hs) : gm101 v k x = some (b2i (hs v k)) := by
  unfold gm101
  cases h : hs v k with
  | false => rw [if_pos ((hs_and v k).mpr h)]; rfl
  | true => rw [if_neg (fun w => by rw [(hs_and v k).mp w] at h; cases h)]; rfl
theorem s115 (v k : Int32) (x : Hs) : gm115 v k x = some (b2i (hs v k)) := by
  unfold gm115
  cases h : hs v k with
  | true => rw [if_pos (of_decide_eq_true h)]; rfl
  | false => rw [if_neg (of_decide_eq_false h)]; rfl
theorem s7 {a : Int32} (k : Int32) (x : Hs) (h : aIn a 5 = true) : gm7 a k x = some (b2i (hs (x.1 3 (xi a)) k)) := by
  unfold gm7
  rw [h, cond_true]
  cases h : hs (x.1 3 (xi a)) k with
  | false => rw [if_pos ((hs_and _ k).mpr h)]; rfl
  | true => rw [if_neg (fun w => by rw [(hs_and _ k).mp w] at h; cases h)]; rfl
theorem s11 {a : Int32} (k : Int32) (x : Hs) (h : aIn a 24 = true) : gm11 a k x = some (b2i (hs (x.1 56 (xi a)) k)) := by
  unfold gm11
  rw [h, cond_true, s101, Option.bind_some, aBit_b, cond_true]
/-- one call: the class's side, then the reference's: the same exception, the same answer, and the invariant behind it -/
def OpOK (c : Nat) (x : Hs) (A : Option (Int32 × Hs)) (M : Hs → Option (Int32 × Hs)) (O : Int32 → Int64) : Prop :=
  ∃ k x1 b x2, A = some (k, x1) ∧ M x1 = some (b, x2) ∧ x2.1 138 57 = k ∧ (k = 0 → x2.2.1 187 0 = O b) ∧ x1.1 0 = x.1 0 ∧ x2.1 0 = x.1 0 ∧ Inv (c + 1) x2
def o64 (b : Int32) : Int64 := b.toInt64
def o01 (b : Int32) : Int64 := if b = 0 then 0 else 1
/-- a call that is refused on both sides -/
theorem Inv.no {c : Nat} {x : Hs} (h : Inv c x) (k : Int32) : Inv (c + 1) (wI x 138 57 k) := by
  obtain ⟨S, B, Z, F, U, P, I, now, hN, hC, hR, hZ, hB, hF, hD, hP⟩ := h
  have e : SB 11 x (wI x 138 57 k) := (SB.rf 11 x).M (Or.inl rfl)
  exact ⟨S, B, Z, F, U, P, I, now, hN.fr e (by decide), hC.fr e (by decide), hR.fr e (by decide), hZ.fr e (by decide), hB.fr e (by decide), hF.fr e (by decide), hD.fr e (by decide), hP.fr e (by decide)⟩
theorem OpOK.no {c : Nat} {x : Hs} (h : Inv c x) {A : Option (Int32 × Hs)} {M : Hs → Option (Int32 × Hs)} {O : Int32 → Int64} {k b : Int32} (hk : ¬ k = 0) (hA : A = some (k, x)) (hM : M x = some (b, wI x 138 57 k)) : OpOK c x A M O :=
  ⟨k, x, b, wI x 138 57 k, hA, hM, wI_j .., fun e => absurd e hk, rfl, wI_ne (by decide), h.no k⟩
/-- a call that only asks -/
theorem OpOK.ask {c : Nat} {x : Hs} (h : Inv c x) {A : Option (Int32 × Hs)} {M : Hs → Option (Int32 × Hs)} {O : Int32 → Int64} {b : Int32} (v : Int64) (hA : A = some (0, wJ x 187 0 v)) (hM : M (wJ x 187 0 v) = some (b, wI (wJ x 187 0 v) 138 57 0)) (hv : v = O b) : OpOK c x A M O := by
  refine ⟨0, _, b, _, hA, hM, wI_j .., fun _ => ?_, rfl, wI_ne (by decide), ?_⟩
  · rw [wI_J, wJ_at, if_pos rfl, hv]
  · obtain ⟨S, B, Z, F, U, P, I, now, hN, hC, hR, hZ, hB, hF, hD, hP⟩ := h
    have e : SB 11 x (wI (wJ x 187 0 v) 138 57 0) := ((SB.rf 11 x).J (Or.inl rfl)).M (Or.inl rfl)
    exact ⟨S, B, Z, F, U, P, I, now, hN.fr e (by decide), hC.fr e (by decide), hR.fr e (by decide), hZ.fr e (by decide), hB.fr e (by decide), hF.fr e (by decide), hD.fr e (by decide), hP.fr e (by decide)⟩
/-- the same, of a call without an answer -/
def OpU (c : Nat) (x : Hs) (A : Option (Int32 × Hs)) (M : Hs → Option Hs) : Prop :=
  ∃ k x1 x2, A = some (k, x1) ∧ M x1 = some x2 ∧ x2.1 138 57 = k ∧ x1.1 0 = x.1 0 ∧ x2.1 0 = x.1 0 ∧ Inv (c + 1) x2
theorem OpU.no {c : Nat} {x : Hs} (h : Inv c x) {A : Option (Int32 × Hs)} {M : Hs → Option Hs} {k : Int32} (hA : A = some (k, x)) (hM : M x = some (wI x 138 57 k)) : OpU c x A M :=
  ⟨k, x, wI x 138 57 k, hA, hM, wI_j .., rfl, wI_ne (by decide), h.no k⟩
theorem LH_of {x y : Hs} (h : ∀ b, b < 24 → ∀ s, s < 5 → x.1 (7 + b) s = x.1 142 (5 * b + s) ∧ x.1 (32 + b) s = x.1 143 (5 * b + s)) (q : ∀ a, 7 ≤ a → a ≤ 55 → y.1 a = x.1 a) (q2 : y.1 142 = x.1 142) (q3 : y.1 143 = x.1 143) : ∀ b, b < 24 → ∀ s, s < 5 → y.1 (7 + b) s = y.1 142 (5 * b + s) ∧ y.1 (32 + b) s = y.1 143 (5 * b + s) := by
  intro b hb s hs
  rw [q (7 + b) (by omega) (by omega), q (32 + b) (by omega) (by omega), q2, q3]
  exact h b hb s hs
