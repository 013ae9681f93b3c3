/-! Sound rings: both ways to see it -/
/-- a build accepts another one, or there is no other -/
def accM (x : Hs) (b o : Int32) : Bool := decide (o = -1) || win (x.1 141 (xi o)) (x.1 142 (5 * xi b + xi (x.1 140 (xi o)))) (x.1 143 (5 * xi b + xi (x.1 140 (xi o))))
def goM (x : Hs) (b o : Int32) : Bool := decide (b = -1) || accM x b o
def soundM (x : Hs) (run can : Nat → Int32) (S : Nat) : Bool :=
  allF (fun a => allF (fun b => !(hs (x.1 139 a) (zI b)) || ((decide (run a = -1) && decide (can a = -1)) || (!(decide (run b = -1)) && ((goM x (run a) (run b) && goM x (run a) (can b)) && (goM x (can a) (run b) && goM x (can a) (can b)))))) S 0) S 0
/-- what the class asks of one build -/
def hwM (x : Hs) (run can : Nat → Int32) (S : Nat) (a : Int32) : Bool :=
  decide (a = -1) || allF (fun i => !(hs (x.1 139 (xi (x.1 140 (xi a)))) (zI i)) || (!(decide (run i = -1)) && (accM x a (run i) && accM x a (can i)))) S 0
section SND
variable {S B : Nat} {x : Hs}
theorem s15 (hC : ICat S B x) {b o : Int32} (hb : aIn b B = true) (ho : o = -1 ∨ aIn o B = true) : gm15 b o x = some (b2i (accM x b o)) := by
  obtain ⟨⟨k1, k2⟩, _, ⟨w3, w4, w5, w56, w57⟩, hLH, hbt, hit, hcd, hcl⟩ := hC
  unfold gm15 accM
  rcases ho with ho | ho
  · rw [if_pos ho, decide_eq_true ho]; rfl
  · have i5 := aIn_up (hit _ (aIn_lt ho)) k1
    have hl := hLH (xi b) (by have := aIn_lt hb; omega) (xi (x.1 140 (xi o))) (aIn_lt i5)
    rw [if_neg (aIn_ne ho), decide_eq_false (aIn_ne ho), aIn_up ho k2, cond_true, cond_true, aIn_up hb k2, cond_true, w4, i5, cond_true, w5, hl.1, hl.2, cond_true, cond_true, cond_true, Bool.false_or]
    unfold win
    by_cases h1 : x.1 141 (xi o) < x.1 142 (5 * xi b + xi (x.1 140 (xi o)))
    · rw [if_pos h1, decide_eq_true h1]; rfl
    · rw [if_neg h1, decide_eq_false h1]
      by_cases h2 : x.1 141 (xi o) > x.1 143 (5 * xi b + xi (x.1 140 (xi o)))
      · rw [if_pos h2, decide_eq_true h2]; rfl
      · rw [if_neg h2, decide_eq_false h2]; rfl
theorem s14_10 (hC : ICat S B x) {q1 q2 : Nat} (v1 : ∀ s, s < S → x.1 q1 s = -1 ∨ aIn (x.1 q1 s) B = true) (v2 : ∀ s, s < S → x.1 q2 s = -1 ∨ aIn (x.1 q2 s) B = true) {a : Int32} (ha : aIn a B = true) : ∀ d n i, i + d = S → d < n → gm14_10 n a q1 q2 (zI i) x = some (b2i (allF (fun i => !(hs (x.1 139 (xi (x.1 140 (xi a)))) (zI i)) || (!(decide (x.1 q1 i = -1)) && (accM x a (x.1 q1 i) && accM x a (x.1 q2 i)))) d i))
  | _, 0, _, _, h => by omega
  | 0, n + 1, i, e, _ => by
    have hk := hC.1
    rw [gm14_10, if_pos ((ge_lit hC.2.1.1 (by omega) (by omega)).mpr (by omega))]
    rfl
  | d + 1, n + 1, i, e, h => by
    have hk := hC.1
    have ih := s14_10 hC v1 v2 ha d n (i + 1) (by omega) (by omega)
    have i5 := aIn_up (hC.2.2.2.2.2.1 _ (aIn_lt ha)) hk.1
    have w4 := hC.2.2.1.2.1
    have w3 := hC.2.2.1.1
    have j5 : aIn (zI i) 5 = true := aIn_t (by omega) (by omega)
    rw [gm14_10, if_neg (fun w => by have := (ge_lit hC.2.1.1 (by omega) (by omega)).mp w; omega), aIn_up ha hk.2, cond_true, w4, s7 _ _ i5, w3, Option.bind_some, j5, cond_true, cond_true, cond_true, xi_zI (by omega), s15 hC ha (v1 i (by omega)), s15 hC ha (v2 i (by omega)), Option.bind_some, Option.bind_some, allF]
    unfold gm14_68
    rw [zI_succ, ih]
    cases hs (x.1 139 (xi (x.1 140 (xi a)))) (zI i) with
    | false => rw [if_pos ib_f]; rfl
    | true =>
      rw [if_neg ib_t]
      by_cases q : x.1 q1 i = -1
      · rw [if_pos q, decide_eq_true q]; rfl
      · rw [if_neg q, decide_eq_false q]
        cases accM x a (x.1 q1 i) with
        | false => rw [if_pos ib_f]; rfl
        | true =>
          rw [if_neg ib_t]
          cases accM x a (x.1 q2 i) with
          | false => rw [if_pos ib_f]; rfl
          | true => rw [if_neg ib_t]; rfl
theorem s14 (hC : ICat S B x) {q1 q2 : Nat} (v1 : ∀ s, s < S → x.1 q1 s = -1 ∨ aIn (x.1 q1 s) B = true) (v2 : ∀ s, s < S → x.1 q2 s = -1 ∨ aIn (x.1 q2 s) B = true) {a : Int32} (ha : a = -1 ∨ aIn a B = true) : gm14 a q1 q2 x = some (b2i (hwM x (x.1 q1) (x.1 q2) S a)) := by
  unfold gm14 hwM
  rcases ha with ha | ha
  · rw [if_pos ha, decide_eq_true ha]; rfl
  · rw [if_neg (aIn_ne ha), decide_eq_false (aIn_ne ha), Bool.false_or]
    exact s14_10 hC v1 v2 ha S FU 0 (by omega) (by have := hC.1; unfold FU; omega)
theorem s13_2 (hC : ICat S B x) {q1 q2 : Nat} (v1 : ∀ s, s < S → x.1 q1 s = -1 ∨ aIn (x.1 q1 s) B = true) (v2 : ∀ s, s < S → x.1 q2 s = -1 ∨ aIn (x.1 q2 s) B = true) : ∀ d n i, i + d = S → d < n → gm13_2 n q1 q2 (zI i) x = some (b2i (allF (fun a => hwM x (x.1 q1) (x.1 q2) S (x.1 q1 a) && hwM x (x.1 q1) (x.1 q2) S (x.1 q2 a)) d i))
  | _, 0, _, _, h => by omega
  | 0, n + 1, i, e, _ => by
    have hk := hC.1
    rw [gm13_2, if_pos ((ge_lit hC.2.1.1 (by omega) (by omega)).mpr (by omega))]
    rfl
  | d + 1, n + 1, i, e, h => by
    have hk := hC.1
    have ih := s13_2 hC v1 v2 d n (i + 1) (by omega) (by omega)
    have j5 : aIn (zI i) 5 = true := aIn_t (by omega) (by omega)
    rw [gm13_2, if_neg (fun w => by have := (ge_lit hC.2.1.1 (by omega) (by omega)).mp w; omega), j5, cond_true, cond_true, xi_zI (by omega), s14 hC v1 v2 (v1 i (by omega)), s14 hC v1 v2 (v2 i (by omega)), Option.bind_some, Option.bind_some, allF, zI_succ, ih]
    cases hwM x (x.1 q1) (x.1 q2) S (x.1 q1 i) with
    | false => rw [if_pos ib_f]; rfl
    | true =>
      rw [if_neg ib_t]
      cases hwM x (x.1 q1) (x.1 q2) S (x.1 q2 i) with
      | false => rw [if_pos ib_f]; rfl
      | true => rw [if_neg ib_t]; rfl
/-- the class's way says the same as the reference's -/
theorem hw_sound (run can : Nat → Int32) (h1 : ∀ s, s < S → run s = -1 ∨ x.1 140 (xi (run s)) = zI s) (h2 : ∀ s, s < S → can s = -1 ∨ x.1 140 (xi (can s)) = zI s) (hS : S ≤ 5) : allF (fun a => hwM x run can S (run a) && hwM x run can S (can a)) S 0 = soundM x run can S := by
  unfold soundM
  refine allF_cg S 0 (fun a _ ha => ?_)
  have hx : ∀ v : Int32, (v = -1 ∨ x.1 140 (xi v) = zI a) → hwM x run can S v = allF (fun i => decide (v = -1) || (!(hs (x.1 139 a) (zI i)) || (!(decide (run i = -1)) && (accM x v (run i) && accM x v (can i))))) S 0 := by
    intro v hv
    unfold hwM
    rcases hv with hv | hv
    · rw [decide_eq_true hv, Bool.true_or]
      symm
      rw [allF_0]
      intro j _
      rw [Bool.true_or]
    · rw [hv, xi_zI (by omega)]
      by_cases q : v = -1
      · rw [decide_eq_true q, Bool.true_or]
        symm
        rw [allF_0]
        intro j _
        rw [Bool.true_or]
      · rw [decide_eq_false q, Bool.false_or]
        refine allF_cg S 0 (fun j _ _ => ?_)
        rw [Bool.false_or]
  rw [hx _ (h1 a (by omega)), hx _ (h2 a (by omega)), Bool.eq_iff_iff, Bool.and_eq_true, allF_0, allF_0, allF_0]
  unfold goM
  constructor
  · rintro ⟨g1, g2⟩ j hj
    have g1 := g1 j hj
    have g2 := g2 j hj
    revert g1 g2
    cases hs (x.1 139 a) (zI j) <;> cases decide (run a = -1) <;> cases decide (can a = -1) <;> cases decide (run j = -1) <;> cases accM x (run a) (run j) <;> cases accM x (run a) (can j) <;> cases accM x (can a) (run j) <;> cases accM x (can a) (can j) <;> simp
  · intro g
    refine ⟨fun j hj => ?_, fun j hj => ?_⟩
    · have g := g j hj
      revert g
      cases hs (x.1 139 a) (zI j) <;> cases decide (run a = -1) <;> cases decide (can a = -1) <;> cases decide (run j = -1) <;> cases accM x (run a) (run j) <;> cases accM x (run a) (can j) <;> simp
    · have g := g j hj
      revert g
      cases hs (x.1 139 a) (zI j) <;> cases decide (run a = -1) <;> cases decide (can a = -1) <;> cases decide (run j = -1) <;> cases accM x (can a) (run j) <;> cases accM x (can a) (can j) <;> simp
theorem s13 (hC : ICat S B x) {q1 q2 : Nat} (v1 : ∀ s, s < S → vB B (x.1 140) s (x.1 q1 s)) (v2 : ∀ s, s < S → vB B (x.1 140) s (x.1 q2 s)) : gm13 q1 q2 x = some (b2i (soundM x (x.1 q1) (x.1 q2) S)) := by
  have hk := hC.1
  have a1 : ∀ s, s < S → x.1 q1 s = -1 ∨ aIn (x.1 q1 s) B = true := fun s hs => (v1 s hs).imp id (fun h => h.1)
  have a2 : ∀ s, s < S → x.1 q2 s = -1 ∨ aIn (x.1 q2 s) B = true := fun s hs => (v2 s hs).imp id (fun h => h.1)
  have h := s13_2 hC a1 a2 S FU 0 (by omega) (by unfold FU; omega)
  rw [hw_sound (x.1 q1) (x.1 q2) (fun s hs => (v1 s hs).imp id (fun h => h.2)) (fun s hs => (v2 s hs).imp id (fun h => h.2)) hk.1] at h
  exact h
/-- the reference's own part of the catalogue -/
def MC (S B : Nat) (x : Hs) : Prop := (S ≤ 5 ∧ B ≤ 24) ∧ x.1 138 1 = zI S ∧ x.1 138 3 = zI B ∧ (∀ b, b < B → aIn (x.1 140 b) S = true) ∧ (∀ b, x.1 145 b = 0 ∨ x.1 145 b = 1)
theorem ICat.mc (h : ICat S B x) : MC S B x := ⟨h.1, h.2.1.2.1, h.2.1.2.2.2, h.2.2.2.2.2.1, h.2.2.2.2.2.2.1⟩
theorem MC.of {y : Hs} (h : MC S B x) (c1 : y.1 138 1 = x.1 138 1) (c2 : y.1 138 3 = x.1 138 3) (c3 : y.1 140 = x.1 140) (c4 : y.1 145 = x.1 145) : MC S B y := by
  unfold MC at h ⊢
  rw [c1, c2, c3, c4]
  exact h
theorem s131 (hM : MC S B x) {b o : Int32} (hb : b = -1 ∨ aIn b B = true) (ho : o = -1 ∨ aIn o B = true) : gm131 b o x = some (b2i (goM x b o)) := by
  obtain ⟨⟨k1, k2⟩, _, _, hit, _⟩ := hM
  unfold gm131 gm131_52 goM accM
  rcases hb with hb | hb
  · rw [if_pos hb, decide_eq_true hb]; rfl
  · rw [if_neg (aIn_ne hb), decide_eq_false (aIn_ne hb)]
    rcases ho with ho | ho
    · rw [if_pos ho, decide_eq_true ho]; rfl
    · obtain ⟨t, ht, et⟩ := aIn_ex (hit _ (aIn_lt ho))
      obtain ⟨k, hk, ek⟩ := aIn_ex hb
      rw [if_neg (aIn_ne ho), decide_eq_false (aIn_ne ho), aIn_up ho k2, cond_true, cond_true, cond_true, et, ek, show (5 : Int32) = zI 5 from rfl, zI_mul, zI_add, aIn_t (by omega) (by omega), cond_true, cond_true, xi_zI (by omega), xi_zI (by omega), xi_zI (by omega), s114, Option.bind_some, Bool.false_or, Bool.false_or]
      cases win (x.1 141 (xi o)) (x.1 142 (5 * k + t)) (x.1 143 (5 * k + t)) <;> rfl
theorem s132_39 (hM : MC S B x) (k4 : Int32 → Int32 → Int32 → Hs → Option Int32) {r a : Nat} (hr : r < 4) (ha : a < S) (v1 : ∀ s, s < S → x.1 147 (5 * r + s) = -1 ∨ aIn (x.1 147 (5 * r + s)) B = true) (v2 : ∀ s, s < S → x.1 148 (5 * r + s) = -1 ∨ aIn (x.1 148 (5 * r + s)) B = true) : ∀ d n i e, i + d = S → d < n → gm132_39 k4 n (zI r) (b2i e) (zI a) (x.1 147 (5 * r + a)) (x.1 148 (5 * r + a)) (zI i) x = k4 (zI r) (b2i (e && allF (fun b => !(hs (x.1 139 a) (zI b)) || ((decide (x.1 147 (5 * r + a) = -1) && decide (x.1 148 (5 * r + a) = -1)) || (!(decide (x.1 147 (5 * r + b) = -1)) && ((goM x (x.1 147 (5 * r + a)) (x.1 147 (5 * r + b)) && goM x (x.1 147 (5 * r + a)) (x.1 148 (5 * r + b))) && (goM x (x.1 148 (5 * r + a)) (x.1 147 (5 * r + b)) && goM x (x.1 148 (5 * r + a)) (x.1 148 (5 * r + b))))))) d i)) (zI a + 1) x
  | _, 0, _, _, _, h => by omega
  | 0, n + 1, i, e, h0, _ => by
    have hk := hM.1
    rw [gm132_39, if_pos ((ge_lit hM.2.1 (by omega) (by omega)).mpr (by omega))]
    unfold gm132_166
    rw [allF, Bool.and_true]
  | d + 1, n + 1, i, e, h0, h => by
    have hk := hM.1
    have ih := fun e => s132_39 hM k4 hr ha v1 v2 d n (i + 1) e (by omega) (by omega)
    have iht := ih true
    have ihf := ih false
    have ihe := ih e
    rw [b2i_t] at iht
    rw [b2i_f] at ihf
    have j5 : aIn (zI a) 5 = true := aIn_t (by omega) (by omega)
    have ix : 5 * zI r + zI i = zI (5 * r + i) := by rw [show (5 : Int32) = zI 5 from rfl, zI_mul, zI_add]
    have i20 : aIn (zI (5 * r + i)) 20 = true := aIn_t (by omega) (by omega)
    rw [gm132_39, if_neg (fun w => by have := (ge_lit hM.2.1 (by omega) (by omega)).mp w; omega), j5, cond_true, xi_zI (by omega), s115, Option.bind_some]
    unfold gm132_74 gm132_158 gm132_159 gm132_160
    rw [ix, i20, cond_true, cond_true, xi_zI (by omega), zI_succ, iht, ihf, ihe, s131 hM (v1 a ha) (v1 i (by omega)), s131 hM (v1 a ha) (v2 i (by omega)), s131 hM (v2 a ha) (v1 i (by omega)), s131 hM (v2 a ha) (v2 i (by omega)), Option.bind_some, Option.bind_some, Option.bind_some, Option.bind_some, allF]
    cases hs (x.1 139 a) (zI i) with
    | false => rw [if_pos ib_f]; rfl
    | true =>
      rw [if_neg ib_t]
      by_cases q1 : x.1 147 (5 * r + a) = -1
      · by_cases q2 : x.1 148 (5 * r + a) = -1
        · rw [if_pos q1, if_pos q2, decide_eq_true q1, decide_eq_true q2]; rfl
        · rw [if_pos q1, if_neg q2, decide_eq_true q1, decide_eq_false q2]
          cases e with
          | false => rw [if_pos ib_f]; rfl
          | true =>
            rw [if_neg ib_t]
            by_cases q3 : x.1 147 (5 * r + i) = -1
            · rw [if_pos q3, decide_eq_true q3]; rfl
            · rw [if_neg q3, decide_eq_false q3]
              cases goM x (x.1 147 (5 * r + a)) (x.1 147 (5 * r + i)) with
              | false => rw [if_pos ib_f]; rfl
              | true =>
                rw [if_neg ib_t]
                cases goM x (x.1 147 (5 * r + a)) (x.1 148 (5 * r + i)) with
                | false => rw [if_pos ib_f]; rfl
                | true =>
                  rw [if_neg ib_t]
                  cases goM x (x.1 148 (5 * r + a)) (x.1 147 (5 * r + i)) with
                  | false => rw [if_pos ib_f]; rfl
                  | true =>
                    rw [if_neg ib_t]
                    cases goM x (x.1 148 (5 * r + a)) (x.1 148 (5 * r + i)) with
                    | false => rw [if_pos ib_f]; rfl
                    | true =>
                      rw [if_neg ib_t]
                      rfl
      · rw [if_neg q1, decide_eq_false q1]
        cases e with
        | false => rw [if_pos ib_f]; rfl
        | true =>
          rw [if_neg ib_t]
          by_cases q3 : x.1 147 (5 * r + i) = -1
          · rw [if_pos q3, decide_eq_true q3]; rfl
          · rw [if_neg q3, decide_eq_false q3]
            cases goM x (x.1 147 (5 * r + a)) (x.1 147 (5 * r + i)) with
            | false => rw [if_pos ib_f]; rfl
            | true =>
              rw [if_neg ib_t]
              cases goM x (x.1 147 (5 * r + a)) (x.1 148 (5 * r + i)) with
              | false => rw [if_pos ib_f]; rfl
              | true =>
                rw [if_neg ib_t]
                cases goM x (x.1 148 (5 * r + a)) (x.1 147 (5 * r + i)) with
                | false => rw [if_pos ib_f]; rfl
                | true =>
                  rw [if_neg ib_t]
                  cases goM x (x.1 148 (5 * r + a)) (x.1 148 (5 * r + i)) with
                  | false => rw [if_pos ib_f]; rfl
                  | true =>
                    rw [if_neg ib_t]
                    rfl
theorem s132_4 (hM : MC S B x) {r : Nat} (hr : r < 4) (v1 : ∀ s, s < S → x.1 147 (5 * r + s) = -1 ∨ aIn (x.1 147 (5 * r + s)) B = true) (v2 : ∀ s, s < S → x.1 148 (5 * r + s) = -1 ∨ aIn (x.1 148 (5 * r + s)) B = true) : ∀ d n i e, i + d = S → d < n → gm132_4 n (zI r) (b2i e) (zI i) x = some (b2i (e && allF (fun a => allF (fun b => !(hs (x.1 139 a) (zI b)) || ((decide (x.1 147 (5 * r + a) = -1) && decide (x.1 148 (5 * r + a) = -1)) || (!(decide (x.1 147 (5 * r + b) = -1)) && ((goM x (x.1 147 (5 * r + a)) (x.1 147 (5 * r + b)) && goM x (x.1 147 (5 * r + a)) (x.1 148 (5 * r + b))) && (goM x (x.1 148 (5 * r + a)) (x.1 147 (5 * r + b)) && goM x (x.1 148 (5 * r + a)) (x.1 148 (5 * r + b))))))) S 0) d i))
  | _, 0, _, _, _, h => by omega
  | 0, n + 1, i, e, h0, _ => by
    have hk := hM.1
    rw [gm132_4, if_pos ((ge_lit hM.2.1 (by omega) (by omega)).mpr (by omega)), aBit_b, cond_true, allF, Bool.and_true]
  | d + 1, n + 1, i, e, h0, h => by
    have hk := hM.1
    have ix : 5 * zI r + zI i = zI (5 * r + i) := by rw [show (5 : Int32) = zI 5 from rfl, zI_mul, zI_add]
    have i20 : aIn (zI (5 * r + i)) 20 = true := aIn_t (by omega) (by omega)
    rw [gm132_4, if_neg (fun w => by have := (ge_lit hM.2.1 (by omega) (by omega)).mp w; omega), ix, i20, cond_true, cond_true, xi_zI (by omega), show (0 : Int32) = zI 0 from rfl, s132_39 hM (gm132_4 n) hr (by omega) v1 v2 S FU 0 e (by omega) (by unfold FU; omega), zI_succ, s132_4 hM hr v1 v2 d n (i + 1) _ (by omega) (by omega), allF, Bool.and_assoc]
theorem s132 (hM : MC S B x) {r : Nat} (hr : r < 4) (v1 : ∀ s, s < S → x.1 147 (5 * r + s) = -1 ∨ aIn (x.1 147 (5 * r + s)) B = true) (v2 : ∀ s, s < S → x.1 148 (5 * r + s) = -1 ∨ aIn (x.1 148 (5 * r + s)) B = true) : gm132 (zI r) x = some (b2i (soundM x (fun s => x.1 147 (5 * r + s)) (fun s => x.1 148 (5 * r + s)) S)) := by
  have h := s132_4 hM hr v1 v2 S FU 0 true (by omega) (by have := hM.1; unfold FU; omega)
  rw [Bool.true_and] at h
  exact h
end SND
/-- the reference's cells are the same -/
def Md (x y : Hs) : Prop := ∀ a, 139 ≤ a → a ≤ 186 → y.1 a = x.1 a
theorem accM_cg {x y : Hs} (h : ∀ a, 139 ≤ a → a ≤ 143 → y.1 a = x.1 a) (b o : Int32) : accM y b o = accM x b o := by
  unfold accM
  rw [h 140 (by decide) (by decide), h 141 (by decide) (by decide), h 142 (by decide) (by decide), h 143 (by decide) (by decide)]
theorem goM_cg {x y : Hs} (h : ∀ a, 139 ≤ a → a ≤ 143 → y.1 a = x.1 a) (b o : Int32) : goM y b o = goM x b o := by
  unfold goM
  rw [accM_cg h]
theorem soundM_cg {x y : Hs} (h : ∀ a, 139 ≤ a → a ≤ 143 → y.1 a = x.1 a) (run can : Nat → Int32) (S : Nat) : soundM y run can S = soundM x run can S := by
  unfold soundM
  rw [h 139 (by decide) (by decide)]
  refine allF_cg S 0 (fun a _ _ => allF_cg S 0 (fun b _ _ => ?_))
  rw [goM_cg h, goM_cg h, goM_cg h, goM_cg h]
theorem soundM_fn {x : Hs} {run can run2 can2 : Nat → Int32} {S : Nat} (h1 : ∀ s, s < S → run s = run2 s) (h2 : ∀ s, s < S → can s = can2 s) : soundM x run can S = soundM x run2 can2 S := by
  unfold soundM
  refine allF_cg S 0 (fun a _ ha => allF_cg S 0 (fun b _ hb => ?_))
  rw [h1 a (by omega), h2 a (by omega), h1 b (by omega), h2 b (by omega)]
