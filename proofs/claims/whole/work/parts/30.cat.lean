/-! The catalogue's calls: loops -/
theorem ge_lit {i N : Nat} {v : Int32} (hv : v = zI N) (hi : i < 2147483648) (hN : N < 2147483648) : zI i ≥ v ↔ N ≤ i := by rw [hv, zI_ge hi hN]
theorem s9_2 {B : Nat} {x : Hs} (hB : x.1 2 1 = zI B) (hb : B ≤ 24) (a : Int32) : ∀ d n i, i + d = B → d < n → gm9_2 n a (zI i) x = some (b2i (anyF (fun b => decide (x.1 4 b = a)) d i))
  | _, 0, _, _, h => by omega
  | 0, n + 1, i, e, _ => by
    rw [gm9_2, if_pos ((ge_lit hB (by omega) (by omega)).mpr (by omega))]
    rfl
  | d + 1, n + 1, i, e, h => by
    rw [gm9_2, if_neg (fun w => by have := (ge_lit hB (by omega) (by omega)).mp w; omega), aIn_t (by omega) (by omega), cond_true, xi_zI (by omega), anyF]
    by_cases hp : x.1 4 i = a
    · rw [if_pos hp, decide_eq_true hp]; rfl
    · rw [if_neg hp, decide_eq_false hp, zI_succ, s9_2 hB hb a d n (i + 1) (by omega) (by omega), Bool.false_or]
theorem s9 {B : Nat} {x : Hs} (hB : x.1 2 1 = zI B) (hb : B ≤ 24) (a : Int32) : gm9 a x = some (b2i (anyF (fun b => decide (x.1 4 b = a)) B 0)) :=
  s9_2 hB hb a B FU 0 (by omega) (by unfold FU; omega)
theorem s121_4 {B : Nat} {x : Hs} (hB : x.1 138 3 = zI B) (hb : B ≤ 24) (a : Int32) : ∀ d n i c, i + d = B → d < n → gm121_4 n a (b2i c) (zI i) x = some (b2i (c || anyF (fun b => decide (x.1 140 b = a)) d i))
  | _, 0, _, _, _, h => by omega
  | 0, n + 1, i, c, e, _ => by
    rw [gm121_4, if_pos ((ge_lit hB (by omega) (by omega)).mpr (by omega)), aBit_b, cond_true, anyF, Bool.or_false]
  | d + 1, n + 1, i, c, e, h => by
    rw [gm121_4, if_neg (fun w => by have := (ge_lit hB (by omega) (by omega)).mp w; omega)]
    have ih := fun c => s121_4 hB hb a d n (i + 1) c (by omega) (by omega)
    unfold gm121_26 gm121_31
    rw [zI_succ, anyF]
    cases c with
    | true =>
      rw [if_neg ib_t]
      exact (ih true)
    | false =>
      rw [if_pos ib_f, aIn_t (by omega) (by omega), cond_true, xi_zI (by omega), Bool.false_or]
      by_cases hp : x.1 140 i = a
      · rw [if_pos hp, decide_eq_true hp]; exact ih true
      · rw [if_neg hp, decide_eq_false hp]; exact ih false
theorem s121 {B : Nat} {x : Hs} (hB : x.1 138 3 = zI B) (hb : B ≤ 24) (a : Int32) : gm121 a x = some (b2i (anyF (fun b => decide (x.1 140 b = a)) B 0)) :=
  s121_4 hB hb a B FU 0 false (by omega) (by unfold FU; omega)
/-- a build runs, or is a canary, somewhere -/
def outM (x : Hs) (a : Int32) : Bool := anyF (fun k => decide (x.1 147 k = a) || decide (x.1 148 k = a)) 20 0
theorem s102_12 {x : Hs} {sv : Int32} (hs : aIn sv 5 = true) (a : Int32) : ∀ d n i, i + d = 4 → d < n → gm102_12 n a sv (zI i) x = some (b2i (anyF (fun r => decide (x.1 (60 + 8 * r + 1) (xi sv) = a)) d i))
  | _, 0, _, _, h => by omega
  | 0, n + 1, i, e, _ => by
    rw [gm102_12, if_pos ((ge_lit (v := 4) (N := 4) rfl (by omega) (by omega)).mpr (by omega))]
    rfl
  | d + 1, n + 1, i, e, h => by
    rw [gm102_12, if_neg (fun w => by have := (ge_lit (v := 4) (N := 4) rfl (by omega) (by omega)).mp w; omega), aIn_t (by omega) (by omega), cond_true, hs, cond_true, xi_zI (by omega), anyF]
    by_cases hp : x.1 (60 + 8 * i + 1) (xi sv) = a
    · rw [if_pos hp, decide_eq_true hp]; rfl
    · rw [if_neg hp, decide_eq_false hp, zI_succ, s102_12 hs a d n (i + 1) (by omega) (by omega), Bool.false_or]
theorem s103_12 {x : Hs} {sv : Int32} (hs : aIn sv 5 = true) (a : Int32) : ∀ d n i, i + d = 4 → d < n → gm103_12 n a sv (zI i) x = some (b2i (anyF (fun r => decide (x.1 (60 + 8 * r + 2) (xi sv) = a)) d i))
  | _, 0, _, _, h => by omega
  | 0, n + 1, i, e, _ => by
    rw [gm103_12, if_pos ((ge_lit (v := 4) (N := 4) rfl (by omega) (by omega)).mpr (by omega))]
    rfl
  | d + 1, n + 1, i, e, h => by
    rw [gm103_12, if_neg (fun w => by have := (ge_lit (v := 4) (N := 4) rfl (by omega) (by omega)).mp w; omega), aIn_t (by omega) (by omega), cond_true, hs, cond_true, xi_zI (by omega), anyF]
    by_cases hp : x.1 (60 + 8 * i + 2) (xi sv) = a
    · rw [if_pos hp, decide_eq_true hp]; rfl
    · rw [if_neg hp, decide_eq_false hp, zI_succ, s103_12 hs a d n (i + 1) (by omega) (by omega), Bool.false_or]
theorem vB_s {B s t : Nat} {its : Nat → Int32} {v : Int32} (h : vB B its s v) (hv : aIn v B = true) (ht : its (xi v) = zI t) (hs : s < 5) (ht5 : t < 5) : s = t := by
  rcases h with h | ⟨_, h⟩
  · exact absurd h (aIn_ne hv)
  · rw [h] at ht
    exact (zI_inj (by omega) (by omega)).mp ht
section CAT
variable {c S B : Nat} {x : Hs}
theorem s102 (hC : ICat S B x) (hR : IRng c B (x.1 140) x) {a : Int32} (ha : aIn a B = true) : gm102 a x = some (b2i (anyF (fun k => decide (x.1 147 k = a)) 20 0)) := by
  obtain ⟨⟨k1, k2⟩, _, ⟨_, w4, _⟩, _, _, hv, _⟩ := hC
  obtain ⟨t, ht, et⟩ := aIn_ex (hv _ (aIn_lt ha))
  have h5 : aIn (x.1 4 (xi a)) 5 = true := by rw [w4]; exact aIn_up (hv _ (aIn_lt ha)) k1
  unfold gm102
  rw [aIn_up ha k2, cond_true, show (0 : Int32) = zI 0 from rfl, s102_12 h5 a 4 FU 0 (by omega) (by unfold FU; omega), w4, et, xi_zI (by omega)]
  congr 2
  rw [Bool.eq_iff_iff, anyF_0, anyF_0]
  constructor
  · rintro ⟨r, hr, h⟩
    refine ⟨5 * r + t, by omega, ?_⟩
    rw [(hR.1 r hr t (by omega)).1.1] at h
    exact h
  · rintro ⟨k, hk, h⟩
    have hq := hR.1 (k / 5) (by omega) (k % 5) (by omega)
    rw [show 5 * (k / 5) + k % 5 = k by omega] at hq
    have h' := of_decide_eq_true h
    rw [h'] at hq
    have := vB_s hq.2.2.1.1 ha et (by omega) (by omega)
    refine ⟨k / 5, by omega, ?_⟩
    rw [← this, hq.1.1]
    exact decide_eq_true rfl
theorem s103 (hC : ICat S B x) (hR : IRng c B (x.1 140) x) {a : Int32} (ha : aIn a B = true) : gm103 a x = some (b2i (anyF (fun k => decide (x.1 148 k = a)) 20 0)) := by
  obtain ⟨⟨k1, k2⟩, _, ⟨_, w4, _⟩, _, _, hv, _⟩ := hC
  obtain ⟨t, ht, et⟩ := aIn_ex (hv _ (aIn_lt ha))
  have h5 : aIn (x.1 4 (xi a)) 5 = true := by rw [w4]; exact aIn_up (hv _ (aIn_lt ha)) k1
  unfold gm103
  rw [aIn_up ha k2, cond_true, show (0 : Int32) = zI 0 from rfl, s103_12 h5 a 4 FU 0 (by omega) (by unfold FU; omega), w4, et, xi_zI (by omega)]
  congr 2
  rw [Bool.eq_iff_iff, anyF_0, anyF_0]
  constructor
  · rintro ⟨r, hr, h⟩
    refine ⟨5 * r + t, by omega, ?_⟩
    rw [(hR.1 r hr t (by omega)).1.2.1] at h
    exact h
  · rintro ⟨k, hk, h⟩
    have hq := hR.1 (k / 5) (by omega) (k % 5) (by omega)
    rw [show 5 * (k / 5) + k % 5 = k by omega] at hq
    have h' := of_decide_eq_true h
    rw [h'] at hq
    have := vB_s hq.2.2.1.2.1 ha et (by omega) (by omega)
    refine ⟨k / 5, by omega, ?_⟩
    rw [← this, hq.1.2.1]
    exact decide_eq_true rfl
theorem anyF_or (p q : Nat → Bool) : ∀ d i, anyF (fun k => p k || q k) d i = (anyF p d i || anyF q d i)
  | 0, _ => rfl
  | d + 1, i => by
    rw [anyF, anyF, anyF, anyF_or p q d (i + 1)]
    cases p i <;> cases q i <;> cases anyF p d (i + 1) <;> rfl
theorem s104 (hC : ICat S B x) (hR : IRng c B (x.1 140) x) {a : Int32} (ha : aIn a B = true) : gm104 a x = some (b2i (outM x a)) := by
  unfold gm104 gm104_16 outM
  rw [s102 hC hR ha, s103 hC hR ha, anyF_or, Option.bind_some, Option.bind_some]
  cases anyF (fun k => decide (x.1 147 k = a)) 20 0 <;> cases anyF (fun k => decide (x.1 148 k = a)) 20 0 <;> rfl
theorem s124_4 (a : Int32) : ∀ d n i e, i + d = 20 → d < n → gm124_4 n a (b2i e) (zI i) x = some (b2i (e || anyF (fun k => decide (x.1 147 k = a) || decide (x.1 148 k = a)) d i))
  | _, 0, _, _, _, h => by omega
  | 0, n + 1, i, e, h0, _ => by
    rw [gm124_4, if_pos ((ge_lit (v := 20) (N := 20) rfl (by omega) (by omega)).mpr (by omega)), aBit_b, cond_true, anyF, Bool.or_false]
  | d + 1, n + 1, i, e, h0, h => by
    rw [gm124_4, if_neg (fun w => by have := (ge_lit (v := 20) (N := 20) rfl (by omega) (by omega)).mp w; omega)]
    have ih := fun c => s124_4 a d n (i + 1) c (by omega) (by omega)
    unfold gm124_34 gm124_39
    rw [zI_succ, anyF]
    cases e with
    | true =>
      rw [if_neg ib_t]
      exact (ih true)
    | false =>
      rw [if_pos ib_f, aIn_t (by omega) (by omega), cond_true, xi_zI (by omega), cond_true, Bool.false_or]
      by_cases hp : x.1 147 i = a
      · rw [if_pos hp, decide_eq_true hp]; exact ih true
      · rw [if_neg hp, decide_eq_false hp]
        by_cases hp2 : x.1 148 i = a
        · rw [if_pos hp2, decide_eq_true hp2]; exact ih true
        · rw [if_neg hp2, decide_eq_false hp2]; exact ih false
theorem s124 (a : Int32) (x : Hs) : gm124 a x = some (b2i (outM x a)) := s124_4 a 20 FU 0 false (by omega) (by unfold FU; omega)
/-- all columns that a build uses are whole -/
def rdyM (x : Hs) (a : Int32) : Bool := allF (fun c => !(hs (x.1 144 (xi a)) (zI c)) || decide (x.1 146 c = 100)) 5 0
theorem s12_2 {a : Int32} (ha : aIn a 24 = true) : ∀ d n i, i + d = 5 → d < n → gm12_2 n a (zI i) x = some (b2i (allF (fun c => !(hs (x.1 56 (xi a)) (zI c)) || decide (x.1 58 c = 100)) d i && decide (x.1 57 (xi a) = 0)))
  | _, 0, _, _, h => by omega
  | 0, n + 1, i, e, _ => by
    rw [gm12_2, if_pos ((ge_lit (v := 5) (N := 5) rfl (by omega) (by omega)).mpr (by omega))]
    unfold gm12_35
    rw [ha, cond_true, allF, Bool.true_and]
    by_cases hp : x.1 57 (xi a) = 0
    · rw [if_pos hp, decide_eq_true hp]; rfl
    · rw [if_neg hp, decide_eq_false hp]; rfl
  | d + 1, n + 1, i, e, h => by
    have ih := s12_2 ha d n (i + 1) (by omega) (by omega)
    rw [gm12_2, if_neg (fun w => by have := (ge_lit (v := 5) (N := 5) rfl (by omega) (by omega)).mp w; omega), s11 _ _ ha, Option.bind_some, aIn_t (by omega) (by omega), cond_true, xi_zI (by omega), allF]
    unfold gm12_29
    rw [zI_succ, ih]
    cases hs (x.1 56 (xi a)) (zI i) with
    | false => rw [if_pos ib_f]; rfl
    | true =>
      rw [if_neg ib_t]
      by_cases hp : x.1 58 i = 100
      · rw [if_pos hp, decide_eq_true hp]; rfl
      · rw [if_neg hp, decide_eq_false hp]; rfl
theorem s12 (hC : ICat S B x) {a : Int32} (ha : aIn a B = true) : gm12 a x = some (b2i (rdyM x a && decide (x.1 145 (xi a) = 0))) := by
  obtain ⟨⟨k1, k2⟩, _, ⟨_, _, _, w56, w57⟩, _, _, _, _, hc⟩ := hC
  unfold gm12 rdyM
  rw [show (0 : Int32) = zI 0 from rfl, s12_2 (aIn_up ha k2) 5 FU 0 (by omega) (by unfold FU; omega), w56, w57]
  congr 3
  refine allF_cg 5 0 (fun j _ h2 => ?_)
  congr 1
  rw [Bool.eq_iff_iff, decide_eq_true_eq, decide_eq_true_eq]
  rcases hc j (by omega) with ⟨e1, e2⟩ | ⟨e1, e2⟩ | ⟨e1, e2⟩
  · rw [e1, e2]; decide
  · rw [e1, e2]; decide
  · rw [e1]
theorem s130_4 {a : Int32} (ha : aIn a 24 = true) : ∀ d n i e, i + d = 5 → d < n → gm130_4 n a (b2i e) (zI i) x = some (b2i (e && allF (fun c => !(hs (x.1 144 (xi a)) (zI c)) || decide (x.1 146 c = 100)) d i))
  | _, 0, _, _, _, h => by omega
  | 0, n + 1, i, e, h0, _ => by
    rw [gm130_4, if_pos ((ge_lit (v := 5) (N := 5) rfl (by omega) (by omega)).mpr (by omega)), aBit_b, cond_true, allF, Bool.and_true]
  | d + 1, n + 1, i, e, h0, h => by
    rw [gm130_4, if_neg (fun w => by have := (ge_lit (v := 5) (N := 5) rfl (by omega) (by omega)).mp w; omega)]
    have ih := fun c => s130_4 ha d n (i + 1) c (by omega) (by omega)
    unfold gm130_37 gm130_41 gm130_42
    rw [zI_succ, allF, s115, Option.bind_some, ha, cond_true, aIn_t (by omega) (by omega), cond_true, xi_zI (by omega)]
    cases e with
    | false =>
      rw [if_pos ib_f]
      exact (ih false)
    | true =>
      rw [if_neg ib_t, Bool.true_and]
      cases hs (x.1 144 (xi a)) (zI i) with
      | false => rw [if_pos ib_f]; exact ih true
      | true =>
        rw [if_neg ib_t]
        by_cases hp : x.1 146 i = 100
        · rw [if_pos hp, decide_eq_true hp]; exact ih true
        · rw [if_neg hp, decide_eq_false hp]; exact ih false
theorem s130 {a : Int32} (ha : aIn a 24 = true) : gm130 a x = some (b2i (rdyM x a)) := s130_4 ha 5 FU 0 true (by omega) (by unfold FU; omega)
theorem s105_2 (hC : ICat S B x) (hR : IRng c B (x.1 140) x) (a : Int32) : ∀ d n i, i + d = B → d < n → gm105_2 n a (zI i) x = some (b2i (anyF (fun b => hs (x.1 144 b) a && outM x (zI b)) d i))
  | _, 0, _, _, h => by omega
  | 0, n + 1, i, e, _ => by
    rw [gm105_2, if_pos ((ge_lit hC.2.1.2.2.1 (by have := hC.1; omega) (by have := hC.1; omega)).mpr (by omega))]
    rfl
  | d + 1, n + 1, i, e, h => by
    have hk := hC.1
    have ih := s105_2 hC hR a d n (i + 1) (by omega) (by omega)
    rw [gm105_2, if_neg (fun w => by have := (ge_lit hC.2.1.2.2.1 (by omega) (by omega)).mp w; omega), s11 _ _ (aIn_t (by omega) (by omega)), Option.bind_some, s104 hC hR (aIn_t (by omega) (by omega)), Option.bind_some, xi_zI (by omega), hC.2.2.1.2.2.2.1, anyF]
    unfold gm105_35
    rw [zI_succ, ih]
    cases hs (x.1 144 i) a with
    | false => rw [if_pos ib_f]; rfl
    | true =>
      rw [if_neg ib_t]
      cases outM x (zI i) with
      | false => rw [if_pos ib_f]; rfl
      | true => rw [if_neg ib_t]; rfl
theorem s105 (hC : ICat S B x) (hR : IRng c B (x.1 140) x) (a : Int32) : gm105 a x = some (b2i (anyF (fun b => hs (x.1 144 b) a && outM x (zI b)) B 0)) :=
  s105_2 hC hR a B FU 0 (by omega) (by have := hC.1; unfold FU; omega)
theorem s128_4 (hB : x.1 138 3 = zI B) (hb : B ≤ 24) (a : Int32) : ∀ d n i e, i + d = B → d < n → gm128_4 n a (b2i e) (zI i) x = some (b2i (e || anyF (fun b => hs (x.1 144 b) a && outM x (zI b)) d i))
  | _, 0, _, _, _, h => by omega
  | 0, n + 1, i, e, h0, _ => by
    rw [gm128_4, if_pos ((ge_lit hB (by omega) (by omega)).mpr (by omega)), aBit_b, cond_true, anyF, Bool.or_false]
  | d + 1, n + 1, i, e, h0, h => by
    rw [gm128_4, if_neg (fun w => by have := (ge_lit hB (by omega) (by omega)).mp w; omega)]
    have ih := fun c => s128_4 hB hb a d n (i + 1) c (by omega) (by omega)
    unfold gm128_37 gm128_41 gm128_42
    rw [zI_succ, anyF, s115, s124, Option.bind_some, Option.bind_some]
    cases e with
    | true =>
      rw [if_neg ib_t]
      exact (ih true)
    | false =>
      rw [if_pos ib_f, aIn_t (by omega) (by omega), cond_true, xi_zI (by omega), Bool.false_or]
      cases hs (x.1 144 i) a with
      | false => rw [if_pos ib_f]; exact ih false
      | true =>
        rw [if_neg ib_t]
        cases outM x (zI i) with
        | false => rw [if_pos ib_f]; exact ih false
        | true => rw [if_neg ib_t]; exact ih true
theorem s128 (hB : x.1 138 3 = zI B) (hb : B ≤ 24) (a : Int32) : gm128 a x = some (b2i (anyF (fun b => hs (x.1 144 b) a && outM x (zI b)) B 0)) :=
  s128_4 hB hb a B FU 0 false (by omega) (by unfold FU; omega)
end CAT
