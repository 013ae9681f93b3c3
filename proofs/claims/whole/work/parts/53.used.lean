/-! How much of a budget is used: the same float on both sides, and no NaN -/
theorem l2f_i2f {a : Int64} {b : Int32} (h : a.toInt = b.toInt) : FP.l2f a = FP.i2f b := by
  show FP.Core.l2f a = FP.Core.i2f b
  unfold FP.Core.l2f FP.Core.i2f
  rw [h]
theorem n32_of {a : UInt32} (h : FP.Core.fIsNaN a = false) : aN32 a = true := by
  unfold aN32
  refine decide_eq_true ?_
  rw [UInt32.le_iff_toNat_le, UInt32.toNat_and]
  have h1 : ¬ 2139095040 < a.toNat % 2 ^ 31 := fun w => by
    rw [(FP.Core.isNaN_bits32 a).mpr w] at h
    cases h
  have h2 : a.toNat &&& (2 ^ 31 - 1) = a.toNat % 2 ^ 31 := Nat.and_two_pow_sub_one_eq_mod _ _
  rw [show (0x7fffffff : UInt32).toNat = 2 ^ 31 - 1 from rfl, h2, show (0x7f800000 : UInt32).toNat = 2139095040 from rfl]
  omega
theorem n64_of {a : UInt64} (h : FP.Core.dIsNaN a = false) : aN64 a = true := by
  unfold aN64
  refine decide_eq_true ?_
  rw [UInt64.le_iff_toNat_le, UInt64.toNat_and]
  have h1 : ¬ 9218868437227405312 < a.toNat % 2 ^ 63 := fun w => by
    rw [(FP.Core.isNaN_bits a).mpr w] at h
    cases h
  have h2 : a.toNat &&& (2 ^ 63 - 1) = a.toNat % 2 ^ 63 := Nat.and_two_pow_sub_one_eq_mod _ _
  rw [show (0x7fffffffffffffff : UInt64).toNat = 2 ^ 63 - 1 from rfl, h2, show (0x7ff0000000000000 : UInt64).toNat = 9218868437227405312 from rfl]
  omega
theorem div_ok {a b : Int32} (hb : ¬ b = 0) : FP.Core.fIsNaN (FP.fdiv (FP.i2f a) (FP.i2f b)) = false := by
  show FP.Core.fIsNaN (FP.Core.fdiv (FP.Core.i2f a) (FP.Core.i2f b)) = false
  refine FP.Core.fdiv_out (FP.Core.FFin.notNaN (FP.Core.i2f_fin a)) (FP.Core.i2f_fin b) ?_
  rw [FP.Core.zero_bits232]
  exact FP.Core.i2f_ne_zero hb
theorem c0_ok : FP.Core.fIsNaN FP.fconst0 = false := by decide +kernel
theorem f2d_ok {a : UInt32} (h : FP.Core.fIsNaN a = false) : aN64 (FP.f2d a) = true ∧ Op.cmpValue (FP.dcmp (FP.f2d a) (FP.f2d a)) .l = 0 := by
  have h1 : FP.Core.dIsNaN (FP.f2d a) = false := (FP.f2d_nan a).trans h
  refine ⟨n64_of h1, ?_⟩
  have h2 : FP.dcmp (FP.f2d a) (FP.f2d a) = some .eq := FP.Core.dcmp_self (fun w => by
    rw [(FP.Core.dIsNaN_iff _).mpr w] at h1
    cases h1)
  rw [h2]
  rfl
theorem j_mul {a b : Int64} (h1 : -9223372036854775808 ≤ a.toInt * b.toInt) (h2 : a.toInt * b.toInt < 9223372036854775808) : (a * b).toInt = a.toInt * b.toInt := by
  rw [Int64.toInt_mul]
  show (a.toInt * b.toInt).bmod 18446744073709551616 = _
  apply Int.bmod_eq_of_le <;> omega
/-- the call that answers a float -/
def OpD (c : Nat) (x : Hs) (A : Option (Int32 × Hs)) (M : Hs → Option (UInt32 × Hs)) : Prop :=
  ∃ k x1 b x2, A = some (k, x1) ∧ M x1 = some (b, x2) ∧ x2.1 138 57 = k ∧ (k = 0 → aN64 (FP.f2d b) = true ∧ x2.2.2 188 0 = FP.f2d b ∧ Op.cmpValue (FP.dcmp (FP.f2d b) (FP.f2d b)) .l = 0) ∧ x1.1 0 = x.1 0 ∧ x2.1 0 = x.1 0 ∧ Inv (c + 1) x2
theorem OpD.ask {c : Nat} {x : Hs} (h : Inv c x) {A : Option (Int32 × Hs)} {M : Hs → Option (UInt32 × Hs)} {b : UInt32} (hb : FP.Core.fIsNaN b = false) (hA : A = some (0, wE x 188 0 (FP.f2d b))) (hM : M (wE x 188 0 (FP.f2d b)) = some (b, wI (wE x 188 0 (FP.f2d b)) 138 57 0)) : OpD c x A M := by
  refine ⟨0, _, b, _, hA, hM, wI_j .., fun _ => ⟨(f2d_ok hb).1, rfl, (f2d_ok hb).2⟩, rfl, wI_ne (by decide), ?_⟩
  obtain ⟨S, B, Z, F, U, P, I, now, hN, hC, hR, hZ, hB, hF, hD, hP⟩ := h
  have e : SB 11 x (wI (wE x 188 0 (FP.f2d b)) 138 57 0) := by
    refine SB.M ?_ (Or.inl rfl)
    exact SB.E (SB.rf _ _)
  exact ⟨S, B, Z, F, U, P, I, now, hN.fr e (by decide), hC.fr e (by decide), hR.fr e (by decide), hZ.fr e (by decide), hB.fr e (by decide), hF.fr e (by decide), hD.fr e (by decide), hP.fr e (by decide)⟩
theorem op_used {c : Nat} {x : Hs} (h : Inv c x) (hc : c ≤ 512) (a1 : Int32) : OpD c x (gm196 a1 x) (gm146 a1) := by
  have h0 := h
  obtain ⟨S, B, Z, F, U, P, I, now, hN, hC, hR, hZ, hB, hF, hD, hP⟩ := h
  obtain ⟨⟨k1, k2⟩, ⟨e1, e2, e3, e4⟩, -⟩ := id hC
  obtain ⟨w104, hb⟩ := id hB
  obtain ⟨n1, n2, n3⟩ := id hN
  have T0 := s117 (x := x) a1 e2 k1
  cases h1 : aIn a1 S with
  | false =>
    rw [h1] at T0
    refine ⟨1, x, FP.fconst0, wI x 138 57 1, ?_, ?_, wI_j .., fun e => absurd e (by decide), rfl, wI_ne (by decide), h0.no 1⟩
    · simp only [gm196, gm73, s94_f hC h1, n10, n20, n21, Option.bind_some, b2i_t, b2i_f, i10, ↓reduceIte, cond_true, cond_false, kb0, kb1, kb2, s92_1, s92_0, s93_1, s93_0, s113_0, s113_1, s113_2, s113_3, aBit_b, aI01, xi0, xi1]
    · simp only [gm146_14, gm146, T0, n10, n20, n21, Option.bind_some, b2i_t, b2i_f, i10, ↓reduceIte, cond_true, cond_false, kb0, kb1, kb2, s92_1, s92_0, s93_1, s93_0, s113_0, s113_1, s113_2, s113_3, aBit_b, aI01, xi0, xi1]
  | true =>
  have F1 := s94_t hC h1
  have i5 := aIn_up h1 k1
  obtain ⟨s, hs, es⟩ := aIn_ex i5
  have xs : xi a1 = s := by rw [es, xi_zI (by omega)]
  obtain ⟨⟨b1, b1'⟩, b2, b3, b4, b5, b6⟩ := hb s hs
  have dv : zI now / 60 = zI (now / 60) := zI_div (by omega) (by omega) (b := 60) (by omega)
  have T1 : ∀ v, gm117 a1 (wE x 188 0 v) = some (b2i true) := fun v => by rw [← h1]; exact s117 (x := wE x 188 0 v) a1 e2 k1
  have zz : ∀ v, (wI (wE x 188 0 v) 138 57 0).1 138 0 = zI now := fun v => by rw [wI_nj (by decide)]; exact n3
  have za : ∀ v a, 139 ≤ a → (wI (wE x 188 0 v) 138 57 0).1 a = x.1 a := fun v a ha => by rw [wI_ne (by omega)]; rfl
  have Z4 : ∀ (t : Int64), (if lg_cmp t 0 ≤ 0 then True else False) = (t ≤ 0) := fun t => by
    rw [eq_iff_iff, ← cmp_le]
    by_cases q : lg_cmp t 0 ≤ 0
    · rw [if_pos q]; exact ⟨fun _ => q, fun _ => trivial⟩
    · rw [if_neg q]; exact ⟨fun w => w.elim, fun w => q w⟩
  by_cases q : x.1 160 s = zI (now / 60)
  case neg =>
    obtain ⟨g1, g2⟩ := b6 q
    have c4 : gm4 a1 x = some FP.fconst0 := by
      unfold gm4
      rw [i5, cond_true, cond_true, xs, g1, if_pos]
      rw [Int64.mul_zero]
      decide
    refine OpD.ask h0 (b := FP.fconst0) c0_ok ?_ ?_
    · simp only [gm196, gm73, F1, c4, (f2d_ok c0_ok).1, n10, n20, n21, Option.bind_some, b2i_t, b2i_f, i10, ↓reduceIte, cond_true, cond_false, kb0, kb1, kb2, s92_1, s92_0, s93_1, s93_0, s113_0, s113_1, s113_2, s113_3, aBit_b, aI01, xi0, xi1]
    · simp only [gm146_14, gm146, gm137, T1, i5, xs, zz, za _ 160 (by decide), dv, if_neg q, n10, n20, n21, Option.bind_some, b2i_t, b2i_f, i10, ↓reduceIte, cond_true, cond_false, kb0, kb1, kb2, s92_1, s92_0, s93_1, s93_0, s113_0, s113_1, s113_2, s113_3, aBit_b, aI01, xi0, xi1]
  case pos =>
  obtain ⟨g1, g2⟩ := b5 q
  obtain ⟨d1, d2⟩ := b3
  obtain ⟨d3, d4⟩ := b4
  by_cases q0 : x.1 161 s = 0
  · have c4 : gm4 a1 x = some FP.fconst0 := by
      unfold gm4
      rw [i5, cond_true, cond_true, xs, g1, q0, if_pos]
      rw [show (0 : Int32).toInt64 = 0 from rfl, Int64.mul_zero]
      decide
    refine OpD.ask h0 (b := FP.fconst0) c0_ok ?_ ?_
    · simp only [gm196, gm73, F1, c4, (f2d_ok c0_ok).1, n10, n20, n21, Option.bind_some, b2i_t, b2i_f, i10, ↓reduceIte, cond_true, cond_false, kb0, kb1, kb2, s92_1, s92_0, s93_1, s93_0, s113_0, s113_1, s113_2, s113_3, aBit_b, aI01, xi0, xi1]
    · simp only [gm146_14, gm146, gm137, T1, i5, xs, zz, za _ 160 (by decide), za _ 161 (by decide), dv, if_pos q, if_pos q0, n10, n20, n21, Option.bind_some, b2i_t, b2i_f, i10, ↓reduceIte, cond_true, cond_false, kb0, kb1, kb2, s92_1, s92_0, s93_1, s93_0, s113_0, s113_1, s113_2, s113_3, aBit_b, aI01, xi0, xi1]
  · have q0i : ¬ (x.1 161 s).toInt = 0 := fun w => q0 ((i_eq _ _).mpr w)
    have m1 : (x.1 159 s).toInt * (x.1 161 s).toInt ≤ 1000 * (2000 * 512) := Int.mul_le_mul b1' (by omega) (by omega) (by omega)
    have m0 : 0 < (x.1 159 s).toInt * (x.1 161 s).toInt := Int.mul_pos b1 (by omega)
    have p1 : (x.1 159 s * x.1 161 s).toInt = (x.1 159 s).toInt * (x.1 161 s).toInt := i_mul (by omega) (by omega)
    have p2 : ((x.1 159 s).toInt64 * (x.1 161 s).toInt64).toInt = (x.1 159 s).toInt * (x.1 161 s).toInt := by
      rw [j_mul] <;> rw [Int32.toInt_toInt64, Int32.toInt_toInt64] <;> omega
    have p3 : (1000 * x.1 162 s).toInt = 1000 * (x.1 162 s).toInt := i_mul (by rw [show (1000 : Int32).toInt = 1000 from rfl]; omega) (by rw [show (1000 : Int32).toInt = 1000 from rfl]; omega)
    have p4 : (1000 * (x.1 162 s).toInt64).toInt = 1000 * (x.1 162 s).toInt := by
      rw [j_mul] <;> rw [Int32.toInt_toInt64, show (1000 : Int64).toInt = 1000 from rfl] <;> omega
    have nz : ¬ x.1 159 s * x.1 161 s = 0 := by
      rw [i_eq, p1, show (0 : Int32).toInt = 0 from rfl]
      omega
    have ng : ¬ lg_cmp ((x.1 159 s).toInt64 * (x.1 161 s).toInt64) 0 ≤ 0 := by
      rw [cmp_le, Int64.le_iff_toInt_le, p2, show (0 : Int64).toInt = 0 from rfl]
      omega
    have l1 := l2f_i2f (p4.trans p3.symm)
    have l2 := l2f_i2f (p2.trans p1.symm)
    have ok := div_ok (a := 1000 * x.1 162 s) nz
    have c4 : gm4 a1 x = some (FP.fdiv (FP.i2f (1000 * x.1 162 s)) (FP.i2f (x.1 159 s * x.1 161 s))) := by
      unfold gm4
      rw [i5, cond_true, cond_true, cond_true, xs, g1, g2, w104, if_neg ng, l1, l2, n32_of ok, cond_true]
    refine OpD.ask h0 ok ?_ ?_
    · simp only [gm196, gm73, F1, c4, (f2d_ok ok).1, n10, n20, n21, Option.bind_some, b2i_t, b2i_f, i10, ↓reduceIte, cond_true, cond_false, kb0, kb1, kb2, s92_1, s92_0, s93_1, s93_0, s113_0, s113_1, s113_2, s113_3, aBit_b, aI01, xi0, xi1]
    · simp only [gm146_14, gm146, gm137, T1, i5, xs, zz, za _ 160 (by decide), za _ 161 (by decide), za _ 162 (by decide), za _ 159 (by decide), dv, if_pos q, if_neg q0, n32_of ok, n10, n20, n21, Option.bind_some, b2i_t, b2i_f, i10, ↓reduceIte, cond_true, cond_false, kb0, kb1, kb2, s92_1, s92_0, s93_1, s93_0, s113_0, s113_1, s113_2, s113_3, aBit_b, aI01, xi0, xi1]
