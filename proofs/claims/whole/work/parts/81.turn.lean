/-! One turn of the law's loop: each call -/
def Turn (N c : Nat) (x : Hs) (k : Int32 → Hs → Option (Int32 × Hs)) (a5 : Int32) (A : Option (Int32 × Hs)) : Prop := ∃ y, A = k (a5 + 6) y ∧ y.1 0 = x.1 0 ∧ Inv (c + 1) y
theorem cs_0 {N c : Nat} {x : Hs} (h : Inv c x) (hc : c < 512) (k : Int32 → Hs → Option (Int32 × Hs)) (a5 : Int32) (i1 : aIn (a5 + 1) N = true) (i2 : aIn (a5 + 2) N = true) (i3 : aIn (a5 + 3) N = true) (i4 : aIn (a5 + 4) N = true) (i5 : aIn (a5 + 5) N = true) : Turn N c x k a5 (gm214_188 N k a5 x) := by
  obtain ⟨kk, x1, b, x2, hA, hM, h57, hO, g1, g2, hI⟩ := op_service h 
  refine ⟨x2, ?_, g2, hI⟩
  by_cases hk : kk = 0
  · subst hk
    have e0 : lg_cmp (x2.2.1 187 0) (Int32.toInt64 b) = 0 := (cmp_eq _ _).mpr (hO rfl)
    simp only [gm214_188, gm214_229, gm214_2306, i1, i2, i3, i4, i5, hA, g1, hM, h57, if_pos e0, cond_true, Option.bind_some, eq_self, ↓reduceIte, if_true, xi0, aI01, gm112]
  · simp only [gm214_188, gm214_229, gm214_2306, i1, i2, i3, i4, i5, hA, g1, hM, h57, if_neg hk, cond_true, Option.bind_some, eq_self, ↓reduceIte, if_true, xi0, aI01, gm112]
theorem cs_1 {N c : Nat} {x : Hs} (h : Inv c x) (hc : c < 512) (k : Int32 → Hs → Option (Int32 × Hs)) (a5 : Int32) (i1 : aIn (a5 + 1) N = true) (i2 : aIn (a5 + 2) N = true) (i3 : aIn (a5 + 3) N = true) (i4 : aIn (a5 + 4) N = true) (i5 : aIn (a5 + 5) N = true) : Turn N c x k a5 (gm214_232 N k a5 x) := by
  obtain ⟨kk, x1, b, x2, hA, hM, h57, hO, g1, g2, hI⟩ := op_needs h (x.1 0 (xi (a5 + 1))) (x.1 0 (xi (a5 + 2)))
  refine ⟨x2, ?_, g2, hI⟩
  by_cases hk : kk = 0
  · subst hk
    have e0 : lg_cmp (x2.2.1 187 0) (Int32.toInt64 b) = 0 := (cmp_eq _ _).mpr (hO rfl)
    simp only [gm214_232, gm214_297, gm214_2306, i1, i2, i3, i4, i5, hA, g1, hM, h57, if_pos e0, cond_true, Option.bind_some, eq_self, ↓reduceIte, if_true, xi0, aI01, gm112]
  · simp only [gm214_232, gm214_297, gm214_2306, i1, i2, i3, i4, i5, hA, g1, hM, h57, if_neg hk, cond_true, Option.bind_some, eq_self, ↓reduceIte, if_true, xi0, aI01, gm112]
theorem cs_2 {N c : Nat} {x : Hs} (h : Inv c x) (hc : c < 512) (k : Int32 → Hs → Option (Int32 × Hs)) (a5 : Int32) (i1 : aIn (a5 + 1) N = true) (i2 : aIn (a5 + 2) N = true) (i3 : aIn (a5 + 3) N = true) (i4 : aIn (a5 + 4) N = true) (i5 : aIn (a5 + 5) N = true) : Turn N c x k a5 (gm214_300 N k a5 x) := by
  obtain ⟨kk, x1, b, x2, hA, hM, h57, hO, g1, g2, hI⟩ := op_build h (x.1 0 (xi (a5 + 1))) (x.1 0 (xi (a5 + 2)))
  refine ⟨x2, ?_, g2, hI⟩
  by_cases hk : kk = 0
  · subst hk
    have e0 : lg_cmp (x2.2.1 187 0) (Int32.toInt64 b) = 0 := (cmp_eq _ _).mpr (hO rfl)
    simp only [gm214_300, gm214_365, gm214_2306, i1, i2, i3, i4, i5, hA, g1, hM, h57, if_pos e0, cond_true, Option.bind_some, eq_self, ↓reduceIte, if_true, xi0, aI01, gm112]
  · simp only [gm214_300, gm214_365, gm214_2306, i1, i2, i3, i4, i5, hA, g1, hM, h57, if_neg hk, cond_true, Option.bind_some, eq_self, ↓reduceIte, if_true, xi0, aI01, gm112]
theorem cs_3 {N c : Nat} {x : Hs} (h : Inv c x) (hc : c < 512) (k : Int32 → Hs → Option (Int32 × Hs)) (a5 : Int32) (i1 : aIn (a5 + 1) N = true) (i2 : aIn (a5 + 2) N = true) (i3 : aIn (a5 + 3) N = true) (i4 : aIn (a5 + 4) N = true) (i5 : aIn (a5 + 5) N = true) : Turn N c x k a5 (gm214_368 N k a5 x) := by
  obtain ⟨kk, x1, x2, hA, hM, h57, g1, g2, hI⟩ := op_accepts h (x.1 0 (xi (a5 + 1))) (x.1 0 (xi (a5 + 2))) (x.1 0 (xi (a5 + 3))) (x.1 0 (xi (a5 + 4)))
  refine ⟨x2, ?_, g2, hI⟩
  simp only [gm214_368, gm214_2306, i1, i2, i3, i4, i5, hA, g1, hM, h57, cond_true, Option.bind_some, eq_self, ↓reduceIte, if_true, xi0, aI01, gm112]
theorem cs_4 {N c : Nat} {x : Hs} (h : Inv c x) (hc : c < 512) (k : Int32 → Hs → Option (Int32 × Hs)) (a5 : Int32) (i1 : aIn (a5 + 1) N = true) (i2 : aIn (a5 + 2) N = true) (i3 : aIn (a5 + 3) N = true) (i4 : aIn (a5 + 4) N = true) (i5 : aIn (a5 + 5) N = true) : Turn N c x k a5 (gm214_440 N k a5 x) := by
  obtain ⟨kk, x1, x2, hA, hM, h57, g1, g2, hI⟩ := op_uses h (x.1 0 (xi (a5 + 1))) (x.1 0 (xi (a5 + 2)))
  refine ⟨x2, ?_, g2, hI⟩
  simp only [gm214_440, gm214_2306, i1, i2, i3, i4, i5, hA, g1, hM, h57, cond_true, Option.bind_some, eq_self, ↓reduceIte, if_true, xi0, aI01, gm112]
theorem cs_5 {N c : Nat} {x : Hs} (h : Inv c x) (hc : c < 512) (k : Int32 → Hs → Option (Int32 × Hs)) (a5 : Int32) (i1 : aIn (a5 + 1) N = true) (i2 : aIn (a5 + 2) N = true) (i3 : aIn (a5 + 3) N = true) (i4 : aIn (a5 + 4) N = true) (i5 : aIn (a5 + 5) N = true) : Turn N c x k a5 (gm214_488 N k a5 x) := by
  obtain ⟨kk, x1, b, x2, hA, hM, h57, hO, g1, g2, hI⟩ := op_condemn h (x.1 0 (xi (a5 + 1)))
  refine ⟨x2, ?_, g2, hI⟩
  by_cases hk : kk = 0
  · subst hk
    have hO := hO rfl
    unfold o01 at hO
    by_cases hb : b = 0
    · rw [if_pos hb] at hO
      have e0 : lg_cmp (x2.2.1 187 0) 0 = 0 := (cmp_eq _ _).mpr hO
      simp only [gm214_488, gm214_548, gm214_2306, gm214_542, i1, i2, i3, i4, i5, hA, g1, hM, h57, if_pos hb, if_pos e0, cond_true, Option.bind_some, eq_self, ↓reduceIte, if_true, xi0, aI01, gm112]
    · rw [if_neg hb] at hO
      have e0 : lg_cmp (x2.2.1 187 0) 1 = 0 := (cmp_eq _ _).mpr hO
      simp only [gm214_488, gm214_548, gm214_2306, gm214_542, i1, i2, i3, i4, i5, hA, g1, hM, h57, if_neg hb, if_pos e0, cond_true, Option.bind_some, eq_self, ↓reduceIte, if_true, xi0, aI01, gm112]
  · simp only [gm214_488, gm214_548, gm214_2306, gm214_542, i1, i2, i3, i4, i5, hA, g1, hM, h57, if_neg hk, cond_true, Option.bind_some, eq_self, ↓reduceIte, if_true, xi0, aI01, gm112]
theorem cs_6 {N c : Nat} {x : Hs} (h : Inv c x) (hc : c < 512) (k : Int32 → Hs → Option (Int32 × Hs)) (a5 : Int32) (i1 : aIn (a5 + 1) N = true) (i2 : aIn (a5 + 2) N = true) (i3 : aIn (a5 + 3) N = true) (i4 : aIn (a5 + 4) N = true) (i5 : aIn (a5 + 5) N = true) : Turn N c x k a5 (gm214_551 N k a5 x) := by
  obtain ⟨kk, x1, b, x2, hA, hM, h57, hO, g1, g2, hI⟩ := op_column h (x.1 0 (xi (a5 + 1))) (x.1 0 (xi (a5 + 2)))
  refine ⟨x2, ?_, g2, hI⟩
  by_cases hk : kk = 0
  · subst hk
    have e0 : lg_cmp (x2.2.1 187 0) (Int32.toInt64 b) = 0 := (cmp_eq _ _).mpr (hO rfl)
    simp only [gm214_551, gm214_616, gm214_2306, i1, i2, i3, i4, i5, hA, g1, hM, h57, if_pos e0, cond_true, Option.bind_some, eq_self, ↓reduceIte, if_true, xi0, aI01, gm112]
  · simp only [gm214_551, gm214_616, gm214_2306, i1, i2, i3, i4, i5, hA, g1, hM, h57, if_neg hk, cond_true, Option.bind_some, eq_self, ↓reduceIte, if_true, xi0, aI01, gm112]
theorem cs_7 {N c : Nat} {x : Hs} (h : Inv c x) (hc : c < 512) (k : Int32 → Hs → Option (Int32 × Hs)) (a5 : Int32) (i1 : aIn (a5 + 1) N = true) (i2 : aIn (a5 + 2) N = true) (i3 : aIn (a5 + 3) N = true) (i4 : aIn (a5 + 4) N = true) (i5 : aIn (a5 + 5) N = true) : Turn N c x k a5 (gm214_619 N k a5 x) := by
  obtain ⟨kk, x1, b, x2, hA, hM, h57, hO, g1, g2, hI⟩ := op_begin h (x.1 0 (xi (a5 + 1)))
  refine ⟨x2, ?_, g2, hI⟩
  by_cases hk : kk = 0
  · subst hk
    have e0 : lg_cmp (x2.2.1 187 0) (Int32.toInt64 b) = 0 := (cmp_eq _ _).mpr (hO rfl)
    simp only [gm214_619, gm214_672, gm214_2306, i1, i2, i3, i4, i5, hA, g1, hM, h57, if_pos e0, cond_true, Option.bind_some, eq_self, ↓reduceIte, if_true, xi0, aI01, gm112]
  · simp only [gm214_619, gm214_672, gm214_2306, i1, i2, i3, i4, i5, hA, g1, hM, h57, if_neg hk, cond_true, Option.bind_some, eq_self, ↓reduceIte, if_true, xi0, aI01, gm112]
theorem cs_8 {N c : Nat} {x : Hs} (h : Inv c x) (hc : c < 512) (k : Int32 → Hs → Option (Int32 × Hs)) (a5 : Int32) (i1 : aIn (a5 + 1) N = true) (i2 : aIn (a5 + 2) N = true) (i3 : aIn (a5 + 3) N = true) (i4 : aIn (a5 + 4) N = true) (i5 : aIn (a5 + 5) N = true) : Turn N c x k a5 (gm214_675 N k a5 x) := by
  obtain ⟨kk, x1, b, x2, hA, hM, h57, hO, g1, g2, hI⟩ := op_step h (x.1 0 (xi (a5 + 1)))
  refine ⟨x2, ?_, g2, hI⟩
  by_cases hk : kk = 0
  · subst hk
    have e0 : lg_cmp (x2.2.1 187 0) (Int32.toInt64 b) = 0 := (cmp_eq _ _).mpr (hO rfl)
    simp only [gm214_675, gm214_728, gm214_2306, i1, i2, i3, i4, i5, hA, g1, hM, h57, if_pos e0, cond_true, Option.bind_some, eq_self, ↓reduceIte, if_true, xi0, aI01, gm112]
  · simp only [gm214_675, gm214_728, gm214_2306, i1, i2, i3, i4, i5, hA, g1, hM, h57, if_neg hk, cond_true, Option.bind_some, eq_self, ↓reduceIte, if_true, xi0, aI01, gm112]
theorem cs_9 {N c : Nat} {x : Hs} (h : Inv c x) (hc : c < 512) (k : Int32 → Hs → Option (Int32 × Hs)) (a5 : Int32) (i1 : aIn (a5 + 1) N = true) (i2 : aIn (a5 + 2) N = true) (i3 : aIn (a5 + 3) N = true) (i4 : aIn (a5 + 4) N = true) (i5 : aIn (a5 + 5) N = true) : Turn N c x k a5 (gm214_731 N k a5 x) := by
  obtain ⟨kk, x1, b, x2, hA, hM, h57, hO, g1, g2, hI⟩ := op_back h (x.1 0 (xi (a5 + 1)))
  refine ⟨x2, ?_, g2, hI⟩
  by_cases hk : kk = 0
  · subst hk
    have e0 : lg_cmp (x2.2.1 187 0) (Int32.toInt64 b) = 0 := (cmp_eq _ _).mpr (hO rfl)
    simp only [gm214_731, gm214_784, gm214_2306, i1, i2, i3, i4, i5, hA, g1, hM, h57, if_pos e0, cond_true, Option.bind_some, eq_self, ↓reduceIte, if_true, xi0, aI01, gm112]
  · simp only [gm214_731, gm214_784, gm214_2306, i1, i2, i3, i4, i5, hA, g1, hM, h57, if_neg hk, cond_true, Option.bind_some, eq_self, ↓reduceIte, if_true, xi0, aI01, gm112]
theorem cs_10 {N c : Nat} {x : Hs} (h : Inv c x) (hc : c < 512) (k : Int32 → Hs → Option (Int32 × Hs)) (a5 : Int32) (i1 : aIn (a5 + 1) N = true) (i2 : aIn (a5 + 2) N = true) (i3 : aIn (a5 + 3) N = true) (i4 : aIn (a5 + 4) N = true) (i5 : aIn (a5 + 5) N = true) : Turn N c x k a5 (gm214_787 N k a5 x) := by
  by_cases q : x.1 0 (xi (a5 + 3)) = 0
  ·
    obtain ⟨kk, x1, b, x2, hA, hM, h57, hO, g1, g2, hI⟩ := op_requests h hc (x.1 0 (xi (a5 + 1))) (x.1 0 (xi (a5 + 2))) 0 (x.1 0 (xi (a5 + 4))) (x.1 0 (xi (a5 + 5)))
    refine ⟨x2, ?_, g2, hI⟩
    by_cases hk : kk = 0
    · subst hk
      have e0 : lg_cmp (x2.2.1 187 0) (Int32.toInt64 b) = 0 := (cmp_eq _ _).mpr (hO rfl)
      simp only [gm214_787, gm214_814, gm214_859, gm214_904, gm214_2306, i1, i2, i3, i4, i5, if_pos q, hA, g1, hM, h57, if_pos e0, cond_true, Option.bind_some, eq_self, ↓reduceIte, if_true, xi0, aI01, gm112]
    · simp only [gm214_787, gm214_814, gm214_859, gm214_904, gm214_2306, i1, i2, i3, i4, i5, if_pos q, hA, g1, hM, h57, if_neg hk, cond_true, Option.bind_some, eq_self, ↓reduceIte, if_true, xi0, aI01, gm112]
  ·
    obtain ⟨kk, x1, b, x2, hA, hM, h57, hO, g1, g2, hI⟩ := op_requests h hc (x.1 0 (xi (a5 + 1))) (x.1 0 (xi (a5 + 2))) 1 (x.1 0 (xi (a5 + 4))) (x.1 0 (xi (a5 + 5)))
    refine ⟨x2, ?_, g2, hI⟩
    by_cases hk : kk = 0
    · subst hk
      have e0 : lg_cmp (x2.2.1 187 0) (Int32.toInt64 b) = 0 := (cmp_eq _ _).mpr (hO rfl)
      simp only [gm214_787, gm214_814, gm214_859, gm214_904, gm214_2306, i1, i2, i3, i4, i5, if_neg q, hA, g1, hM, h57, if_pos e0, cond_true, Option.bind_some, eq_self, ↓reduceIte, if_true, xi0, aI01, gm112]
    · simp only [gm214_787, gm214_814, gm214_859, gm214_904, gm214_2306, i1, i2, i3, i4, i5, if_neg q, hA, g1, hM, h57, if_neg hk, cond_true, Option.bind_some, eq_self, ↓reduceIte, if_true, xi0, aI01, gm112]
theorem cs_11 {N c : Nat} {x : Hs} (h : Inv c x) (hc : c < 512) (k : Int32 → Hs → Option (Int32 × Hs)) (a5 : Int32) (i1 : aIn (a5 + 1) N = true) (i2 : aIn (a5 + 2) N = true) (i3 : aIn (a5 + 3) N = true) (i4 : aIn (a5 + 4) N = true) (i5 : aIn (a5 + 5) N = true) : Turn N c x k a5 (gm214_907 N k a5 x) := by
  obtain ⟨kk, x1, b, x2, hA, hM, h57, hO, g1, g2, hI⟩ := op_freeze h (x.1 0 (xi (a5 + 1))) (x.1 0 (xi (a5 + 2))) (x.1 0 (xi (a5 + 3)))
  refine ⟨x2, ?_, g2, hI⟩
  by_cases hk : kk = 0
  · subst hk
    have e0 : lg_cmp (x2.2.1 187 0) (Int32.toInt64 b) = 0 := (cmp_eq _ _).mpr (hO rfl)
    simp only [gm214_907, gm214_984, gm214_2306, i1, i2, i3, i4, i5, hA, g1, hM, h57, if_pos e0, cond_true, Option.bind_some, eq_self, ↓reduceIte, if_true, xi0, aI01, gm112]
  · simp only [gm214_907, gm214_984, gm214_2306, i1, i2, i3, i4, i5, hA, g1, hM, h57, if_neg hk, cond_true, Option.bind_some, eq_self, ↓reduceIte, if_true, xi0, aI01, gm112]
theorem cs_12 {N c : Nat} {x : Hs} (h : Inv c x) (hc : c < 512) (k : Int32 → Hs → Option (Int32 × Hs)) (a5 : Int32) (i1 : aIn (a5 + 1) N = true) (i2 : aIn (a5 + 2) N = true) (i3 : aIn (a5 + 3) N = true) (i4 : aIn (a5 + 4) N = true) (i5 : aIn (a5 + 5) N = true) : Turn N c x k a5 (gm214_987 N k a5 x) := by
  obtain ⟨kk, x1, b, x2, hA, hM, h57, hO, g1, g2, hI⟩ := op_except h (x.1 0 (xi (a5 + 1)))
  refine ⟨x2, ?_, g2, hI⟩
  by_cases hk : kk = 0
  · subst hk
    have e0 : lg_cmp (x2.2.1 187 0) (Int32.toInt64 b) = 0 := (cmp_eq _ _).mpr (hO rfl)
    simp only [gm214_987, gm214_1040, gm214_2306, i1, i2, i3, i4, i5, hA, g1, hM, h57, if_pos e0, cond_true, Option.bind_some, eq_self, ↓reduceIte, if_true, xi0, aI01, gm112]
  · simp only [gm214_987, gm214_1040, gm214_2306, i1, i2, i3, i4, i5, hA, g1, hM, h57, if_neg hk, cond_true, Option.bind_some, eq_self, ↓reduceIte, if_true, xi0, aI01, gm112]
theorem cs_13 {N c : Nat} {x : Hs} (h : Inv c x) (hc : c < 512) (k : Int32 → Hs → Option (Int32 × Hs)) (a5 : Int32) (i1 : aIn (a5 + 1) N = true) (i2 : aIn (a5 + 2) N = true) (i3 : aIn (a5 + 3) N = true) (i4 : aIn (a5 + 4) N = true) (i5 : aIn (a5 + 5) N = true) : Turn N c x k a5 (gm214_1043 N k a5 x) := by
  obtain ⟨kk, x1, b, x2, hA, hM, h57, hO, g1, g2, hI⟩ := op_budget h (x.1 0 (xi (a5 + 1))) (x.1 0 (xi (a5 + 2)))
  refine ⟨x2, ?_, g2, hI⟩
  by_cases hk : kk = 0
  · subst hk
    have e0 : lg_cmp (x2.2.1 187 0) (Int32.toInt64 b) = 0 := (cmp_eq _ _).mpr (hO rfl)
    simp only [gm214_1043, gm214_1108, gm214_2306, i1, i2, i3, i4, i5, hA, g1, hM, h57, if_pos e0, cond_true, Option.bind_some, eq_self, ↓reduceIte, if_true, xi0, aI01, gm112]
  · simp only [gm214_1043, gm214_1108, gm214_2306, i1, i2, i3, i4, i5, hA, g1, hM, h57, if_neg hk, cond_true, Option.bind_some, eq_self, ↓reduceIte, if_true, xi0, aI01, gm112]
theorem cs_14 {N c : Nat} {x : Hs} (h : Inv c x) (hc : c < 512) (k : Int32 → Hs → Option (Int32 × Hs)) (a5 : Int32) (i1 : aIn (a5 + 1) N = true) (i2 : aIn (a5 + 2) N = true) (i3 : aIn (a5 + 3) N = true) (i4 : aIn (a5 + 4) N = true) (i5 : aIn (a5 + 5) N = true) : Turn N c x k a5 (gm214_1111 N k a5 x) := by
  obtain ⟨kk, x1, b, x2, hA, hM, h57, hO, g1, g2, hI⟩ := op_used h (by omega) (x.1 0 (xi (a5 + 1)))
  refine ⟨x2, ?_, g2, hI⟩
  by_cases hk : kk = 0
  · subst hk
    obtain ⟨d1, d2, d3⟩ := hO rfl
    simp only [gm214_1111, gm214_1186, gm214_2306, i1, i2, i3, i4, i5, hA, g1, hM, h57, d1, d2, if_pos d3, cond_true, Option.bind_some, eq_self, ↓reduceIte, if_true, xi0, aI01, gm112]
  · simp only [gm214_1111, gm214_1186, gm214_2306, i1, i2, i3, i4, i5, hA, g1, hM, h57, if_neg hk, cond_true, Option.bind_some, eq_self, ↓reduceIte, if_true, xi0, aI01, gm112]
theorem cs_15 {N c : Nat} {x : Hs} (h : Inv c x) (hc : c < 512) (k : Int32 → Hs → Option (Int32 × Hs)) (a5 : Int32) (i1 : aIn (a5 + 1) N = true) (i2 : aIn (a5 + 2) N = true) (i3 : aIn (a5 + 3) N = true) (i4 : aIn (a5 + 4) N = true) (i5 : aIn (a5 + 5) N = true) : Turn N c x k a5 (gm214_1189 N k a5 x) := by
  obtain ⟨kk, x1, b, x2, hA, hM, h57, hO, g1, g2, hI⟩ := op_flag h (x.1 0 (xi (a5 + 1))) (x.1 0 (xi (a5 + 2))) (x.1 0 (xi (a5 + 3))) (x.1 0 (xi (a5 + 4)))
  refine ⟨x2, ?_, g2, hI⟩
  by_cases hk : kk = 0
  · subst hk
    have e0 : lg_cmp (x2.2.1 187 0) (Int32.toInt64 b) = 0 := (cmp_eq _ _).mpr (hO rfl)
    simp only [gm214_1189, gm214_1278, gm214_2306, i1, i2, i3, i4, i5, hA, g1, hM, h57, if_pos e0, cond_true, Option.bind_some, eq_self, ↓reduceIte, if_true, xi0, aI01, gm112]
  · simp only [gm214_1189, gm214_1278, gm214_2306, i1, i2, i3, i4, i5, hA, g1, hM, h57, if_neg hk, cond_true, Option.bind_some, eq_self, ↓reduceIte, if_true, xi0, aI01, gm112]
theorem cs_16 {N c : Nat} {x : Hs} (h : Inv c x) (hc : c < 512) (k : Int32 → Hs → Option (Int32 × Hs)) (a5 : Int32) (i1 : aIn (a5 + 1) N = true) (i2 : aIn (a5 + 2) N = true) (i3 : aIn (a5 + 3) N = true) (i4 : aIn (a5 + 4) N = true) (i5 : aIn (a5 + 5) N = true) : Turn N c x k a5 (gm214_1281 N k a5 x) := by
  obtain ⟨kk, x1, b, x2, hA, hM, h57, hO, g1, g2, hI⟩ := op_resize h (x.1 0 (xi (a5 + 1))) (x.1 0 (xi (a5 + 2))) (x.1 0 (xi (a5 + 3)))
  refine ⟨x2, ?_, g2, hI⟩
  by_cases hk : kk = 0
  · subst hk
    have e0 : lg_cmp (x2.2.1 187 0) (Int32.toInt64 b) = 0 := (cmp_eq _ _).mpr (hO rfl)
    simp only [gm214_1281, gm214_1358, gm214_2306, i1, i2, i3, i4, i5, hA, g1, hM, h57, if_pos e0, cond_true, Option.bind_some, eq_self, ↓reduceIte, if_true, xi0, aI01, gm112]
  · simp only [gm214_1281, gm214_1358, gm214_2306, i1, i2, i3, i4, i5, hA, g1, hM, h57, if_neg hk, cond_true, Option.bind_some, eq_self, ↓reduceIte, if_true, xi0, aI01, gm112]
theorem cs_17 {N c : Nat} {x : Hs} (h : Inv c x) (hc : c < 512) (k : Int32 → Hs → Option (Int32 × Hs)) (a5 : Int32) (i1 : aIn (a5 + 1) N = true) (i2 : aIn (a5 + 2) N = true) (i3 : aIn (a5 + 3) N = true) (i4 : aIn (a5 + 4) N = true) (i5 : aIn (a5 + 5) N = true) : Turn N c x k a5 (gm214_1361 N k a5 x) := by
  obtain ⟨kk, x1, b, x2, hA, hM, h57, hO, g1, g2, hI⟩ := op_kill h (x.1 0 (xi (a5 + 1)))
  refine ⟨x2, ?_, g2, hI⟩
  by_cases hk : kk = 0
  · subst hk
    have hO := hO rfl
    unfold o01 at hO
    by_cases hb : b = 0
    · rw [if_pos hb] at hO
      have e0 : lg_cmp (x2.2.1 187 0) 0 = 0 := (cmp_eq _ _).mpr hO
      simp only [gm214_1361, gm214_1421, gm214_2306, gm214_1415, i1, i2, i3, i4, i5, hA, g1, hM, h57, if_pos hb, if_pos e0, cond_true, Option.bind_some, eq_self, ↓reduceIte, if_true, xi0, aI01, gm112]
    · rw [if_neg hb] at hO
      have e0 : lg_cmp (x2.2.1 187 0) 1 = 0 := (cmp_eq _ _).mpr hO
      simp only [gm214_1361, gm214_1421, gm214_2306, gm214_1415, i1, i2, i3, i4, i5, hA, g1, hM, h57, if_neg hb, if_pos e0, cond_true, Option.bind_some, eq_self, ↓reduceIte, if_true, xi0, aI01, gm112]
  · simp only [gm214_1361, gm214_1421, gm214_2306, gm214_1415, i1, i2, i3, i4, i5, hA, g1, hM, h57, if_neg hk, cond_true, Option.bind_some, eq_self, ↓reduceIte, if_true, xi0, aI01, gm112]
theorem cs_18 {N c : Nat} {x : Hs} (h : Inv c x) (hc : c < 512) (k : Int32 → Hs → Option (Int32 × Hs)) (a5 : Int32) (i1 : aIn (a5 + 1) N = true) (i2 : aIn (a5 + 2) N = true) (i3 : aIn (a5 + 3) N = true) (i4 : aIn (a5 + 4) N = true) (i5 : aIn (a5 + 5) N = true) : Turn N c x k a5 (gm214_1424 N k a5 x) := by
  obtain ⟨kk, x1, b, x2, hA, hM, h57, hO, g1, g2, hI⟩ := op_isOn h (x.1 0 (xi (a5 + 1))) (x.1 0 (xi (a5 + 2)))
  refine ⟨x2, ?_, g2, hI⟩
  by_cases hk : kk = 0
  · subst hk
    have hO := hO rfl
    unfold o01 at hO
    by_cases hb : b = 0
    · rw [if_pos hb] at hO
      have e0 : lg_cmp (x2.2.1 187 0) 0 = 0 := (cmp_eq _ _).mpr hO
      simp only [gm214_1424, gm214_1496, gm214_2306, gm214_1490, i1, i2, i3, i4, i5, hA, g1, hM, h57, if_pos hb, if_pos e0, cond_true, Option.bind_some, eq_self, ↓reduceIte, if_true, xi0, aI01, gm112]
    · rw [if_neg hb] at hO
      have e0 : lg_cmp (x2.2.1 187 0) 1 = 0 := (cmp_eq _ _).mpr hO
      simp only [gm214_1424, gm214_1496, gm214_2306, gm214_1490, i1, i2, i3, i4, i5, hA, g1, hM, h57, if_neg hb, if_pos e0, cond_true, Option.bind_some, eq_self, ↓reduceIte, if_true, xi0, aI01, gm112]
  · simp only [gm214_1424, gm214_1496, gm214_2306, gm214_1490, i1, i2, i3, i4, i5, hA, g1, hM, h57, if_neg hk, cond_true, Option.bind_some, eq_self, ↓reduceIte, if_true, xi0, aI01, gm112]
theorem cs_19 {N c : Nat} {x : Hs} (h : Inv c x) (hc : c < 512) (k : Int32 → Hs → Option (Int32 × Hs)) (a5 : Int32) (i1 : aIn (a5 + 1) N = true) (i2 : aIn (a5 + 2) N = true) (i3 : aIn (a5 + 3) N = true) (i4 : aIn (a5 + 4) N = true) (i5 : aIn (a5 + 5) N = true) : Turn N c x k a5 (gm214_1499 N k a5 x) := by
  obtain ⟨kk, x1, b, x2, hA, hM, h57, hO, g1, g2, hI⟩ := op_see h (x.1 0 (xi (a5 + 1)))
  refine ⟨x2, ?_, g2, hI⟩
  by_cases hk : kk = 0
  · subst hk
    have e0 : lg_cmp (x2.2.1 187 0) (Int32.toInt64 b) = 0 := (cmp_eq _ _).mpr (hO rfl)
    simp only [gm214_1499, gm214_1552, gm214_2306, i1, i2, i3, i4, i5, hA, g1, hM, h57, if_pos e0, cond_true, Option.bind_some, eq_self, ↓reduceIte, if_true, xi0, aI01, gm112]
  · simp only [gm214_1499, gm214_1552, gm214_2306, i1, i2, i3, i4, i5, hA, g1, hM, h57, if_neg hk, cond_true, Option.bind_some, eq_self, ↓reduceIte, if_true, xi0, aI01, gm112]
theorem cs_20 {N c : Nat} {x : Hs} (h : Inv c x) (hc : c < 512) (k : Int32 → Hs → Option (Int32 × Hs)) (a5 : Int32) (i1 : aIn (a5 + 1) N = true) (i2 : aIn (a5 + 2) N = true) (i3 : aIn (a5 + 3) N = true) (i4 : aIn (a5 + 4) N = true) (i5 : aIn (a5 + 5) N = true) : Turn N c x k a5 (gm214_1555 N k a5 x) := by
  obtain ⟨kk, x1, b, x2, hA, hM, h57, hO, g1, g2, hI⟩ := op_person h 
  refine ⟨x2, ?_, g2, hI⟩
  by_cases hk : kk = 0
  · subst hk
    have e0 : lg_cmp (x2.2.1 187 0) (Int32.toInt64 b) = 0 := (cmp_eq _ _).mpr (hO rfl)
    simp only [gm214_1555, gm214_1596, gm214_2306, i1, i2, i3, i4, i5, hA, g1, hM, h57, if_pos e0, cond_true, Option.bind_some, eq_self, ↓reduceIte, if_true, xi0, aI01, gm112]
  · simp only [gm214_1555, gm214_1596, gm214_2306, i1, i2, i3, i4, i5, hA, g1, hM, h57, if_neg hk, cond_true, Option.bind_some, eq_self, ↓reduceIte, if_true, xi0, aI01, gm112]
theorem cs_21 {N c : Nat} {x : Hs} (h : Inv c x) (hc : c < 512) (k : Int32 → Hs → Option (Int32 × Hs)) (a5 : Int32) (i1 : aIn (a5 + 1) N = true) (i2 : aIn (a5 + 2) N = true) (i3 : aIn (a5 + 3) N = true) (i4 : aIn (a5 + 4) N = true) (i5 : aIn (a5 + 5) N = true) : Turn N c x k a5 (gm214_1599 N k a5 x) := by
  obtain ⟨kk, x1, b, x2, hA, hM, h57, hO, g1, g2, hI⟩ := op_standIn h (x.1 0 (xi (a5 + 1))) (x.1 0 (xi (a5 + 2)))
  refine ⟨x2, ?_, g2, hI⟩
  by_cases hk : kk = 0
  · subst hk
    have e0 : lg_cmp (x2.2.1 187 0) (Int32.toInt64 b) = 0 := (cmp_eq _ _).mpr (hO rfl)
    simp only [gm214_1599, gm214_1664, gm214_2306, i1, i2, i3, i4, i5, hA, g1, hM, h57, if_pos e0, cond_true, Option.bind_some, eq_self, ↓reduceIte, if_true, xi0, aI01, gm112]
  · simp only [gm214_1599, gm214_1664, gm214_2306, i1, i2, i3, i4, i5, hA, g1, hM, h57, if_neg hk, cond_true, Option.bind_some, eq_self, ↓reduceIte, if_true, xi0, aI01, gm112]
theorem cs_22 {N c : Nat} {x : Hs} (h : Inv c x) (hc : c < 512) (k : Int32 → Hs → Option (Int32 × Hs)) (a5 : Int32) (i1 : aIn (a5 + 1) N = true) (i2 : aIn (a5 + 2) N = true) (i3 : aIn (a5 + 3) N = true) (i4 : aIn (a5 + 4) N = true) (i5 : aIn (a5 + 5) N = true) : Turn N c x k a5 (gm214_1667 N k a5 x) := by
  obtain ⟨kk, x1, b, x2, hA, hM, h57, hO, g1, g2, hI⟩ := op_alert h (x.1 0 (xi (a5 + 1))) (x.1 0 (xi (a5 + 2)))
  refine ⟨x2, ?_, g2, hI⟩
  by_cases hk : kk = 0
  · subst hk
    have e0 : lg_cmp (x2.2.1 187 0) (Int32.toInt64 b) = 0 := (cmp_eq _ _).mpr (hO rfl)
    simp only [gm214_1667, gm214_1732, gm214_2306, i1, i2, i3, i4, i5, hA, g1, hM, h57, if_pos e0, cond_true, Option.bind_some, eq_self, ↓reduceIte, if_true, xi0, aI01, gm112]
  · simp only [gm214_1667, gm214_1732, gm214_2306, i1, i2, i3, i4, i5, hA, g1, hM, h57, if_neg hk, cond_true, Option.bind_some, eq_self, ↓reduceIte, if_true, xi0, aI01, gm112]
theorem cs_23 {N c : Nat} {x : Hs} (h : Inv c x) (hc : c < 512) (k : Int32 → Hs → Option (Int32 × Hs)) (a5 : Int32) (i1 : aIn (a5 + 1) N = true) (i2 : aIn (a5 + 2) N = true) (i3 : aIn (a5 + 3) N = true) (i4 : aIn (a5 + 4) N = true) (i5 : aIn (a5 + 5) N = true) : Turn N c x k a5 (gm214_1735 N k a5 x) := by
  obtain ⟨kk, x1, b, x2, hA, hM, h57, hO, g1, g2, hI⟩ := op_take h (x.1 0 (xi (a5 + 1))) (x.1 0 (xi (a5 + 2)))
  refine ⟨x2, ?_, g2, hI⟩
  by_cases hk : kk = 0
  · subst hk
    have e0 : lg_cmp (x2.2.1 187 0) (Int32.toInt64 b) = 0 := (cmp_eq _ _).mpr (hO rfl)
    simp only [gm214_1735, gm214_1800, gm214_2306, i1, i2, i3, i4, i5, hA, g1, hM, h57, if_pos e0, cond_true, Option.bind_some, eq_self, ↓reduceIte, if_true, xi0, aI01, gm112]
  · simp only [gm214_1735, gm214_1800, gm214_2306, i1, i2, i3, i4, i5, hA, g1, hM, h57, if_neg hk, cond_true, Option.bind_some, eq_self, ↓reduceIte, if_true, xi0, aI01, gm112]
theorem cs_24 {N c : Nat} {x : Hs} (h : Inv c x) (hc : c < 512) (k : Int32 → Hs → Option (Int32 × Hs)) (a5 : Int32) (i1 : aIn (a5 + 1) N = true) (i2 : aIn (a5 + 2) N = true) (i3 : aIn (a5 + 3) N = true) (i4 : aIn (a5 + 4) N = true) (i5 : aIn (a5 + 5) N = true) : Turn N c x k a5 (gm214_1803 N k a5 x) := by
  obtain ⟨kk, x1, b, x2, hA, hM, h57, hO, g1, g2, hI⟩ := op_close h (x.1 0 (xi (a5 + 1)))
  refine ⟨x2, ?_, g2, hI⟩
  by_cases hk : kk = 0
  · subst hk
    have e0 : lg_cmp (x2.2.1 187 0) (Int32.toInt64 b) = 0 := (cmp_eq _ _).mpr (hO rfl)
    simp only [gm214_1803, gm214_1856, gm214_2306, i1, i2, i3, i4, i5, hA, g1, hM, h57, if_pos e0, cond_true, Option.bind_some, eq_self, ↓reduceIte, if_true, xi0, aI01, gm112]
  · simp only [gm214_1803, gm214_1856, gm214_2306, i1, i2, i3, i4, i5, hA, g1, hM, h57, if_neg hk, cond_true, Option.bind_some, eq_self, ↓reduceIte, if_true, xi0, aI01, gm112]
theorem cs_25 {N c : Nat} {x : Hs} (h : Inv c x) (hc : c < 512) (k : Int32 → Hs → Option (Int32 × Hs)) (a5 : Int32) (i1 : aIn (a5 + 1) N = true) (i2 : aIn (a5 + 2) N = true) (i3 : aIn (a5 + 3) N = true) (i4 : aIn (a5 + 4) N = true) (i5 : aIn (a5 + 5) N = true) : Turn N c x k a5 (gm214_1859 N k a5 x) := by
  obtain ⟨kk, x1, b, x2, hA, hM, h57, hO, g1, g2, hI⟩ := op_incident h (x.1 0 (xi (a5 + 1))) (x.1 0 (xi (a5 + 2)))
  refine ⟨x2, ?_, g2, hI⟩
  by_cases hk : kk = 0
  · subst hk
    have e0 : lg_cmp (x2.2.1 187 0) (Int32.toInt64 b) = 0 := (cmp_eq _ _).mpr (hO rfl)
    simp only [gm214_1859, gm214_1924, gm214_2306, i1, i2, i3, i4, i5, hA, g1, hM, h57, if_pos e0, cond_true, Option.bind_some, eq_self, ↓reduceIte, if_true, xi0, aI01, gm112]
  · simp only [gm214_1859, gm214_1924, gm214_2306, i1, i2, i3, i4, i5, hA, g1, hM, h57, if_neg hk, cond_true, Option.bind_some, eq_self, ↓reduceIte, if_true, xi0, aI01, gm112]
theorem cs_26 {N c : Nat} {x : Hs} (h : Inv c x) (hc : c < 512) (k : Int32 → Hs → Option (Int32 × Hs)) (a5 : Int32) (i1 : aIn (a5 + 1) N = true) (i2 : aIn (a5 + 2) N = true) (i3 : aIn (a5 + 3) N = true) (i4 : aIn (a5 + 4) N = true) (i5 : aIn (a5 + 5) N = true) : Turn N c x k a5 (gm214_1927 N k a5 x) := by
  obtain ⟨kk, x1, b, x2, hA, hM, h57, hO, g1, g2, hI⟩ := op_pass h (x.1 0 (xi (a5 + 1)))
  refine ⟨x2, ?_, g2, hI⟩
  by_cases hk : kk = 0
  · subst hk
    have e0 : lg_cmp (x2.2.1 187 0) (Int32.toInt64 b) = 0 := (cmp_eq _ _).mpr (hO rfl)
    simp only [gm214_1927, gm214_1980, gm214_2306, i1, i2, i3, i4, i5, hA, g1, hM, h57, if_pos e0, cond_true, Option.bind_some, eq_self, ↓reduceIte, if_true, xi0, aI01, gm112]
  · simp only [gm214_1927, gm214_1980, gm214_2306, i1, i2, i3, i4, i5, hA, g1, hM, h57, if_neg hk, cond_true, Option.bind_some, eq_self, ↓reduceIte, if_true, xi0, aI01, gm112]
theorem cs_27 {N c : Nat} {x : Hs} (h : Inv c x) (hc : c < 512) (k : Int32 → Hs → Option (Int32 × Hs)) (a5 : Int32) (i1 : aIn (a5 + 1) N = true) (i2 : aIn (a5 + 2) N = true) (i3 : aIn (a5 + 3) N = true) (i4 : aIn (a5 + 4) N = true) (i5 : aIn (a5 + 5) N = true) : Turn N c x k a5 (gm214_1983 N k a5 x) := by
  obtain ⟨kk, x1, b, x2, hA, hM, h57, hO, g1, g2, hI⟩ := op_in h (x.1 0 (xi (a5 + 1))) (x.1 0 (xi (a5 + 2))) (x.1 0 (xi (a5 + 3)))
  refine ⟨x2, ?_, g2, hI⟩
  by_cases hk : kk = 0
  · subst hk
    have e0 : lg_cmp (x2.2.1 187 0) (Int32.toInt64 b) = 0 := (cmp_eq _ _).mpr (hO rfl)
    simp only [gm214_1983, gm214_2060, gm214_2306, i1, i2, i3, i4, i5, hA, g1, hM, h57, if_pos e0, cond_true, Option.bind_some, eq_self, ↓reduceIte, if_true, xi0, aI01, gm112]
  · simp only [gm214_1983, gm214_2060, gm214_2306, i1, i2, i3, i4, i5, hA, g1, hM, h57, if_neg hk, cond_true, Option.bind_some, eq_self, ↓reduceIte, if_true, xi0, aI01, gm112]
theorem cs_28 {N c : Nat} {x : Hs} (h : Inv c x) (hc : c < 512) (k : Int32 → Hs → Option (Int32 × Hs)) (a5 : Int32) (i1 : aIn (a5 + 1) N = true) (i2 : aIn (a5 + 2) N = true) (i3 : aIn (a5 + 3) N = true) (i4 : aIn (a5 + 4) N = true) (i5 : aIn (a5 + 5) N = true) : Turn N c x k a5 (gm214_2063 N k a5 x) := by
  obtain ⟨kk, x1, b, x2, hA, hM, h57, hO, g1, g2, hI⟩ := op_isSound h (x.1 0 (xi (a5 + 1)))
  refine ⟨x2, ?_, g2, hI⟩
  by_cases hk : kk = 0
  · subst hk
    have hO := hO rfl
    unfold o01 at hO
    by_cases hb : b = 0
    · rw [if_pos hb] at hO
      have e0 : lg_cmp (x2.2.1 187 0) 0 = 0 := (cmp_eq _ _).mpr hO
      simp only [gm214_2063, gm214_2123, gm214_2306, gm214_2117, i1, i2, i3, i4, i5, hA, g1, hM, h57, if_pos hb, if_pos e0, cond_true, Option.bind_some, eq_self, ↓reduceIte, if_true, xi0, aI01, gm112]
    · rw [if_neg hb] at hO
      have e0 : lg_cmp (x2.2.1 187 0) 1 = 0 := (cmp_eq _ _).mpr hO
      simp only [gm214_2063, gm214_2123, gm214_2306, gm214_2117, i1, i2, i3, i4, i5, hA, g1, hM, h57, if_neg hb, if_pos e0, cond_true, Option.bind_some, eq_self, ↓reduceIte, if_true, xi0, aI01, gm112]
  · simp only [gm214_2063, gm214_2123, gm214_2306, gm214_2117, i1, i2, i3, i4, i5, hA, g1, hM, h57, if_neg hk, cond_true, Option.bind_some, eq_self, ↓reduceIte, if_true, xi0, aI01, gm112]
theorem cs_29 {N c : Nat} {x : Hs} (h : Inv c x) (hc : c < 512) (k : Int32 → Hs → Option (Int32 × Hs)) (a5 : Int32) (i1 : aIn (a5 + 1) N = true) (i2 : aIn (a5 + 2) N = true) (i3 : aIn (a5 + 3) N = true) (i4 : aIn (a5 + 4) N = true) (i5 : aIn (a5 + 5) N = true) : Turn N c x k a5 (gm214_2126 N k a5 x) := by
  obtain ⟨kk, x1, b, x2, hA, hM, h57, hO, g1, g2, hI⟩ := op_rolling h (x.1 0 (xi (a5 + 1)))
  refine ⟨x2, ?_, g2, hI⟩
  by_cases hk : kk = 0
  · subst hk
    have e0 : lg_cmp (x2.2.1 187 0) (Int32.toInt64 b) = 0 := (cmp_eq _ _).mpr (hO rfl)
    simp only [gm214_2126, gm214_2179, gm214_2306, i1, i2, i3, i4, i5, hA, g1, hM, h57, if_pos e0, cond_true, Option.bind_some, eq_self, ↓reduceIte, if_true, xi0, aI01, gm112]
  · simp only [gm214_2126, gm214_2179, gm214_2306, i1, i2, i3, i4, i5, hA, g1, hM, h57, if_neg hk, cond_true, Option.bind_some, eq_self, ↓reduceIte, if_true, xi0, aI01, gm112]
theorem cs_30 {N c : Nat} {x : Hs} (h : Inv c x) (hc : c < 512) (k : Int32 → Hs → Option (Int32 × Hs)) (a5 : Int32) (i1 : aIn (a5 + 1) N = true) (i2 : aIn (a5 + 2) N = true) (i3 : aIn (a5 + 3) N = true) (i4 : aIn (a5 + 4) N = true) (i5 : aIn (a5 + 5) N = true) : Turn N c x k a5 (gm214_2182 N k a5 x) := by
  obtain ⟨kk, x1, b, x2, hA, hM, h57, hO, g1, g2, hI⟩ := op_plan h (by omega) (x.1 0 (xi (a5 + 1))) (x.1 0 (xi (a5 + 2)))
  refine ⟨x2, ?_, g2, hI⟩
  by_cases hk : kk = 0
  · subst hk
    have e0 : lg_cmp (x2.2.1 187 0) (Int32.toInt64 b) = 0 := (cmp_eq _ _).mpr (hO rfl)
    simp only [gm214_2182, gm214_2247, gm214_2306, i1, i2, i3, i4, i5, hA, g1, hM, h57, if_pos e0, cond_true, Option.bind_some, eq_self, ↓reduceIte, if_true, xi0, aI01, gm112]
  · simp only [gm214_2182, gm214_2247, gm214_2306, i1, i2, i3, i4, i5, hA, g1, hM, h57, if_neg hk, cond_true, Option.bind_some, eq_self, ↓reduceIte, if_true, xi0, aI01, gm112]
theorem cs_31 {N c : Nat} {x : Hs} (h : Inv c x) (hc : c < 512) (k : Int32 → Hs → Option (Int32 × Hs)) (a5 : Int32) (i1 : aIn (a5 + 1) N = true) (i2 : aIn (a5 + 2) N = true) (i3 : aIn (a5 + 3) N = true) (i4 : aIn (a5 + 4) N = true) (i5 : aIn (a5 + 5) N = true) : Turn N c x k a5 (gm214_2250 N k a5 x) := by
  obtain ⟨kk, x1, b, x2, hA, hM, h57, hO, g1, g2, hI⟩ := op_planned h (x.1 0 (xi (a5 + 1)))
  refine ⟨x2, ?_, g2, hI⟩
  by_cases hk : kk = 0
  · subst hk
    have e0 : lg_cmp (x2.2.1 187 0) (Int32.toInt64 b) = 0 := (cmp_eq _ _).mpr (hO rfl)
    simp only [gm214_2250, gm214_2303, gm214_2306, i1, i2, i3, i4, i5, hA, g1, hM, h57, if_pos e0, cond_true, Option.bind_some, eq_self, ↓reduceIte, if_true, xi0, aI01, gm112]
  · simp only [gm214_2250, gm214_2303, gm214_2306, i1, i2, i3, i4, i5, hA, g1, hM, h57, if_neg hk, cond_true, Option.bind_some, eq_self, ↓reduceIte, if_true, xi0, aI01, gm112]
