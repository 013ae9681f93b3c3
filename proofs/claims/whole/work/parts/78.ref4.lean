/-! The reference's search: a sound state, and the loops -/
section RSO
variable {S B : Nat} {x y : Hs} {σ : Nat → Int32}
theorem goM_rf {x y : Hs} (h : ∀ a, 139 ≤ a → a ≤ 181 → y.1 a = x.1 a) (a b : Int32) : goM y a b = goM x a b := by
  unfold goM accM
  rw [h 140 (by decide) (by decide), h 141 (by decide) (by decide), h 142 (by decide) (by decide), h 143 (by decide) (by decide)]
def sP (x : Hs) (σ : Nat → Int32) (a b : Nat) : Bool := decide (σ a = -1) || (!(hs (x.1 139 a) (zI b)) || (!(decide (σ b = -1)) && goM x (σ a) (σ b)))
theorem sd_sP (x : Hs) (S : Nat) (σ : Nat → Int32) : sdB x S σ = allF (fun a => allF (fun b => sP x σ a b) S 0) S 0 := by
  unfold sdB soundM
  refine allF_cg S 0 (fun a _ _ => allF_cg S 0 (fun b _ _ => ?_))
  have g1 : ∀ v, goM x v (-1) = true := fun v => by unfold goM accM; rw [decide_eq_true rfl, Bool.true_or, Bool.or_true]
  have g2 : ∀ v, goM x (-1) v = true := fun v => by unfold goM; rw [decide_eq_true rfl, Bool.true_or]
  have g3 : decide ((-1 : Int32) = -1) = true := decide_eq_true rfl
  unfold sP
  simp only [g1, g2, g3]
  cases hs (x.1 139 a) (zI b) <;> cases decide (σ a = -1) <;> cases decide (σ b = -1) <;> cases goM x (σ a) (σ b) <;> rfl
theorem s175_14 (hM : MC S B x) (h : RF x y) (hv : vSt B (x.1 140) σ) (hσ : ∀ s, s < S → y.1 186 s = σ s) (k4 : Int32 → Int32 → Hs → Option Int32) {a : Nat} (ha : a < S) : ∀ d i n e, i + d = S → d < n → gm175_14 k4 n (b2i e) (zI a) (zI i) y = k4 (b2i (e && allF (fun b => sP x σ a b) d i)) (zI (a + 1)) y := by
  have hM0 := hM
  obtain ⟨⟨k1, k2⟩, m1, m3, hit, hbd⟩ := hM
  have hMy : MC S B y := hM0.of h.2.1 h.2.2 (h.1 140 (by decide) (by decide)) (h.1 145 (by decide) (by decide))
  intro d
  induction d with
  | zero =>
    intro i n e hi hn
    obtain ⟨n, rfl⟩ : ∃ m, n = m + 1 := ⟨n - 1, by omega⟩
    have hi : i = S := by omega
    subst hi
    rw [gm175_14.eq_2, h.2.1, m1, if_pos (by rw [zI_ge (by omega) (by omega)]; omega)]
    unfold gm175_90
    rw [zI_succ, allF, Bool.and_true]
  | succ d ih =>
    intro i n e hi hn
    obtain ⟨n, rfl⟩ : ∃ m, n = m + 1 := ⟨n - 1, by omega⟩
    have n1 : ¬ zI i ≥ zI S := by rw [zI_ge (by omega) (by omega)]; omega
    have a5 : aIn (zI a) 5 = true := aIn_t (by omega) (by omega)
    have i5 : aIn (zI i) 5 = true := aIn_t (by omega) (by omega)
    have xa : xi (zI a) = a := xi_zI (by omega)
    have xi' : xi (zI i) = i := xi_zI (by omega)
    have key : gm175_14 k4 (n + 1) (b2i e) (zI a) (zI i) y = gm175_14 k4 n (b2i (e && sP x σ a i)) (zI a) (zI (i + 1)) y := by
      rw [gm175_14.eq_2, h.2.1, m1, if_neg n1]
      unfold gm175_78 gm175_82 gm175_83
      rw [zI_succ]
      cases e with
      | false => rw [if_pos ib_f]; rfl
      | true =>
        rw [if_neg ib_t, a5, cond_true, xa, hσ a ha, Bool.true_and]
        unfold sP
        by_cases w : σ a = -1
        · rw [if_pos w, decide_eq_true w]; rfl
        · rw [if_neg w, decide_eq_false w, cond_true, s115, Option.bind_some, h.1 139 (by decide) (by decide), Bool.false_or]
          cases hs (x.1 139 a) (zI i) with
          | false => rw [if_pos ib_f]; rfl
          | true =>
            rw [if_neg ib_t, i5, cond_true, xi', hσ i (by omega)]
            by_cases w2 : σ i = -1
            · rw [if_pos w2, decide_eq_true w2]; rfl
            · have q1 := ((hv.1 a (by omega)).resolve_left w).1
              have q2 := ((hv.1 i (by omega)).resolve_left w2).1
              rw [if_neg w2, decide_eq_false w2, cond_true, cond_true, s131 hMy (Or.inr q1) (Or.inr q2), Option.bind_some, goM_rf h.1]
              cases goM x (σ a) (σ i) with
              | false => rw [if_pos ib_f]; rfl
              | true => rw [if_neg ib_t]; rfl
    rw [key, ih (i + 1) n _ (by omega) (by omega), allF, Bool.and_assoc]
theorem s175_4 (hM : MC S B x) (h : RF x y) (hv : vSt B (x.1 140) σ) (hσ : ∀ s, s < S → y.1 186 s = σ s) : ∀ d a n e, a + d = S → d < n → gm175_4 n (b2i e) (zI a) y = some (b2i (e && allF (fun a => allF (fun b => sP x σ a b) S 0) d a)) := by
  intro d
  induction d with
  | zero =>
    intro i n e hi hn
    have hk := hM.1
    obtain ⟨n, rfl⟩ : ∃ m, n = m + 1 := ⟨n - 1, by omega⟩
    have hi : i = S := by omega
    subst hi
    rw [gm175_4.eq_2, h.2.1, hM.2.1, if_pos (by rw [zI_ge (by omega) (by omega)]; omega), aBit_b, cond_true, allF, Bool.and_true]
  | succ d ih =>
    intro i n e hi hn
    have hk := hM.1
    obtain ⟨n, rfl⟩ : ∃ m, n = m + 1 := ⟨n - 1, by omega⟩
    have n1 : ¬ zI i ≥ zI S := by rw [zI_ge (by omega) (by omega)]; omega
    have st := s175_14 hM h hv hσ (gm175_4 n) (a := i) (by omega) S 0 FU e (by omega) (by unfold FU; omega)
    rw [← zI_0] at st
    rw [gm175_4.eq_2, h.2.1, hM.2.1, if_neg n1, st, ih (i + 1) n _ (by omega) (by omega), allF, Bool.and_assoc]
theorem s175 (hM : MC S B x) (h : RF x y) (hv : vSt B (x.1 140) σ) (hσ : ∀ s, s < S → y.1 186 s = σ s) : gm175 y = some (b2i (sdB x S σ)) := by
  have := s175_4 hM h hv hσ S 0 FU true (by omega) (by have := hM.1; unfold FU; omega)
  rw [← zI_0, Bool.true_and, ← sd_sP] at this
  exact this
def RQ (S B : Nat) (x : Hs) (Q : Qu) (y : Hs) : Prop :=
  (∀ a, a < 183 ∨ 187 ≤ a → y.1 a = x.1 a) ∧ y.2 = x.2 ∧ (∀ k, k < Q.n → y.1 185 k = zI (codS S B (x.1 140) (Q.st k))) ∧ y.1 183 (codS S B (x.1 140) (Q.st 0)) = -1 ∧
  (∀ k, 0 < k → k < Q.n → y.1 183 (codS S B (x.1 140) (Q.st k)) = zI (codS S B (x.1 140) (Q.st (Q.fr k))) ∧ y.1 184 (codS S B (x.1 140) (Q.st k)) = zI (Q.by_ k)) ∧
  ∀ m, m < 8192 → y.1 183 m = -2 ∨ ∃ k, k < Q.n ∧ codS S B (x.1 140) (Q.st k) = m
theorem RQ.rf {Q : Qu} {y : Hs} (h : RQ S B x Q y) : RF x y := ⟨fun a a1 a2 => h.1 a (by omega), by rw [h.1 138 (by omega)], by rw [h.1 138 (by omega)]⟩
theorem RQ.of {Q : Qu} {y z : Hs} (h : RQ S B x Q y) (hz : ∀ a, ¬ a = 186 → z.1 a = y.1 a) (h2 : z.2 = y.2) : RQ S B x Q z := by
  unfold RQ at h ⊢
  rw [hz 183 (by decide), hz 184 (by decide), hz 185 (by decide), h2]
  exact ⟨fun a ha => by rw [hz a (by omega)]; exact h.1 a ha, h.2⟩
theorem rd_split (x : Hs) (b : Nat) : rdB x b = true ↔ x.1 145 b = 0 ∧ rdyM x (zI b) = true := by
  unfold rdB
  rw [Bool.and_eq_true, decide_eq_true_eq]
  exact ⟨fun w => ⟨w.2, w.1⟩, fun w => ⟨w.2, w.1⟩⟩
theorem s176_126 {σ0 : Nat → Int32} (hM : MC S B x) (h0 : 0 < B) (hσ0 : vSt B (x.1 140) σ0) (k82 : Int32 → Int32 → Int32 → Hs → Option (Int32 × Hs)) (a2 a3 : Int32) {j : Nat} (hj : j < (Qat (x.1 140) (rdB x) (sdB x S) B σ0 (j * B)).n) :
    ∀ d b n y, b + d = B → d < n → RQ S B x (Qat (x.1 140) (rdB x) (sdB x S) B σ0 (j * B + b)) y → (∀ s, s < S → y.1 186 s = (Qat (x.1 140) (rdB x) (sdB x S) B σ0 (j * B)).st j s) →
    ∃ z, gm176_126 k82 n a2 a3 (zI (Qat (x.1 140) (rdB x) (sdB x S) B σ0 (j * B + b)).n) (zI (codS S B (x.1 140) ((Qat (x.1 140) (rdB x) (sdB x S) B σ0 (j * B)).st j))) (zI b) y = k82 a2 a3 (zI (Qat (x.1 140) (rdB x) (sdB x S) B σ0 ((j + 1) * B)).n) z ∧ RQ S B x (Qat (x.1 140) (rdB x) (sdB x S) B σ0 ((j + 1) * B)) z := by
  have hM0 := hM
  obtain ⟨⟨k1, k2⟩, m1, m3, hit, hbd⟩ := hM
  have hi5 : ∀ b, b < B → aIn (x.1 140 b) 5 = true := fun b hb => aIn_up (hit b hb) k1
  intro d
  induction d with
  | zero =>
    intro b n y hb hn hy _
    obtain ⟨n, rfl⟩ : ∃ m, n = m + 1 := ⟨n - 1, by omega⟩
    have hb : b = B := by omega
    subst hb
    rw [Nat.add_mul, Nat.one_mul]
    refine ⟨y, ?_, hy⟩
    rw [gm176_126.eq_2, hy.rf.2.2, m3, if_pos (by rw [zI_ge (by omega) (by omega)]; omega)]
    rfl
  | succ d ih =>
    intro b n y hb hn hy h186
    obtain ⟨n, rfl⟩ : ∃ m, n = m + 1 := ⟨n - 1, by omega⟩
    have hb' : b < B := by omega
    have n1 : ¬ zI b ≥ zI B := by rw [zI_ge (by omega) (by omega)]; omega
    have le := Qat_le (its := x.1 140) (rd := rdB x) (sd := sdB x S) (B := B) (σ := σ0) (t := j * B) (u := j * B + b) (by omega)
    have est := (le.2 j hj).1
    have hj' : j < (Qat (x.1 140) (rdB x) (sdB x S) B σ0 (j * B + b)).n := Nat.lt_of_lt_of_le hj le.1
    have at' := Qat_at (its := x.1 140) (rd := rdB x) (sd := sdB x S) (σ := σ0) j b hb'
    have hI := Qat_QI (rd := rdB x) (sd := sdB x S) k2 h0 hi5 hσ0 (j * B + b)
    have hI1 := Qat_QI (rd := rdB x) (sd := sdB x S) k2 h0 hi5 hσ0 (j * B + b + 1)
    have ih := fun y hy => ih (b + 1) n y (by omega) (by omega) hy
    rw [show j * B + (b + 1) = j * B + b + 1 from rfl] at ih
    rw [← est] at h186 ⊢ ih
    rw [at'] at ih hI1
    generalize hQ : Qat (x.1 140) (rdB x) (sdB x S) B σ0 (j * B + b) = Q at *
    have hn6 := QI_n k2 hi5 hI
    obtain ⟨t, ht, et⟩ := aIn_ex (hit b hb')
    have t5 : aIn (zI t) 5 = true := aIn_t (by omega) (by omega)
    have xt : xi (zI t) = t := xi_zI (by omega)
    have xb : xi (zI b) = b := xi_zI (by omega)
    have b24 : aIn (zI b) 24 = true := aIn_t (by omega) (by omega)
    have hvj := hI.2.1 j hj'
    have hvu : vSt B (x.1 140) (upA (x.1 140) (Q.st j) b) := vSt_up k2 hvj hb' (hi5 b hb')
    have clt := cod_lt k1 k2 hi5 hvu
    have r140 := hy.rf.1 140 (by decide) (by decide)
    have hy0 := hy
    obtain ⟨y1, y2, y185, y183, yfr, ym⟩ := hy
    -- as it was
    have skip : ¬ okA (x.1 140) (rdB x) (sdB x S) Q j b → ∀ w, (∀ a, ¬ a = 186 → w.1 a = y.1 a) → w.2 = y.2 → (∀ s, s < S → w.1 186 s = Q.st j s) → ∃ z, gm176_126 k82 n a2 a3 (zI Q.n) (zI (codS S B (x.1 140) (Q.st j))) (zI (b + 1)) w = k82 a2 a3 (zI (Qat (x.1 140) (rdB x) (sdB x S) B σ0 ((j + 1) * B)).n) z ∧ RQ S B x (Qat (x.1 140) (rdB x) (sdB x S) B σ0 ((j + 1) * B)) z := by
      intro nk w w1 w2 w3
      have := ih w
      rw [stp_no nk] at this
      exact this (hy0.of w1 w2) w3
    rw [gm176_126.eq_2, hy0.rf.2.2, m3, if_neg n1, b24, cond_true, xb, r140, et, t5, cond_true, xt, h186 t ht]
    unfold gm176_258
    rw [zI_succ]
    by_cases g1 : Q.st j t = zI b
    · rw [if_pos g1]
      exact skip (fun w => w.2.2.1 (by rw [et, xt]; exact g1)) y (fun _ _ => rfl) rfl h186
    rw [if_neg g1, cond_true, y1 145 (by omega)]
    by_cases g2 : x.1 145 b = 0
    case neg =>
      rw [if_neg g2]
      exact skip (fun w => g2 ((rd_split x b).mp w.2.1).1) y (fun _ _ => rfl) rfl h186
    have e130 : gm130 (zI b) y = some (b2i (rdyM x (zI b))) := by
      rw [s130 b24]
      unfold rdyM
      rw [y1 144 (by omega), y1 146 (by omega)]
    rw [if_pos g2, e130, Option.bind_some]
    cases g3 : rdyM x (zI b) with
    | false =>
      rw [if_pos ib_f]
      exact skip (fun w => by
        have := ((rd_split x b).mp w.2.1).2
        rw [g3] at this
        exact absurd this (by decide)) y (fun _ _ => rfl) rfl h186
    | true =>
    have hrd : rdB x b = true := (rd_split x b).mpr ⟨g2, g3⟩
    rw [if_neg ib_t, cond_true, cond_true]
    generalize hy1 : wI y 186 t (zI b) = v
    have v1 : ∀ a, ¬ a = 186 → v.1 a = y.1 a := fun a ha => by rw [← hy1, wI_ne ha]
    have v2 : v.2 = y.2 := by rw [← hy1]; rfl
    have v186 : ∀ s, s < S → v.1 186 s = upA (x.1 140) (Q.st j) b s := fun s hs => by
      rw [← hy1, wI_at, h186 s hs]
      unfold upA
      rw [et, xt]
    have vq : RQ S B x Q v := hy0.of v1 v2
    rw [s173 hM0 vq.rf hvu v186, Option.bind_some, aIn_t (show codS S B (x.1 140) (upA (x.1 140) (Q.st j) b) < 8192 by omega) (by omega), cond_true, xi_zI (show codS S B (x.1 140) (upA (x.1 140) (Q.st j) b) < 2147483648 by omega), v1 183 (by decide)]
    have back : ∀ (w : Hs), (∀ s, s < S → w.1 186 s = upA (x.1 140) (Q.st j) b s) → ∀ s, s < S → (wI w 186 t (Q.st j t)).1 186 s = Q.st j s := fun w hw s hs => by
      rw [wI_at]
      by_cases q : s = t
      · rw [if_pos q, q]
      · rw [if_neg q, hw s hs]
        unfold upA
        rw [et, xt, if_neg q]
    have fin : ∀ (w : Hs) (m : Int32), w.1 140 = x.1 140 → gm176_244 k82 (gm176_126 k82 n) a2 a3 m (zI (codS S B (x.1 140) (Q.st j))) (zI b) (Q.st j t) w = gm176_126 k82 n a2 a3 m (zI (codS S B (x.1 140) (Q.st j))) (zI (b + 1)) (wI w 186 t (Q.st j t)) := by
      intro w m hw
      unfold gm176_244 gm176_258
      rw [b24, cond_true, xb, hw, et, t5, cond_true, xt, zI_succ]
    have old : (∀ k, k < Q.n → ¬ Q.st k = upA (x.1 140) (Q.st j) b) ↔ y.1 183 (codS S B (x.1 140) (upA (x.1 140) (Q.st j) b)) = -2 := by
      constructor
      · intro w
        rcases ym (codS S B (x.1 140) (upA (x.1 140) (Q.st j) b)) (by omega) with q | ⟨k, q1, q2⟩
        · exact q
        · exact absurd (cod_inj k1 hit (hI.2.1 k q1) hvu q2) (w k q1)
      · intro w k hk e
        rw [← e] at w
        rcases Nat.eq_zero_or_pos k with q | q
        · rw [q, y183] at w
          exact absurd w (by decide)
        · rw [(yfr k q hk).1] at w
          have cl := cod_lt k1 k2 hi5 (hI.2.1 (Q.fr k) (by have := (hI.2.2.2 k q hk).1; omega))
          rw [i_eq, zI_int (by omega), show (-2 : Int32).toInt = -2 from rfl] at w
          omega
    by_cases g4 : y.1 183 (codS S B (x.1 140) (upA (x.1 140) (Q.st j) b)) = -2
    case neg =>
      rw [if_neg g4, fin v _ (by rw [v1 140 (by decide)]; exact r140)]
      exact skip (fun w => g4 (old.mp w.2.2.2.2)) _ (fun a ha => by rw [wI_ne ha, v1 a ha]) v2 (back v v186)
    rw [if_pos g4, s175 hM0 vq.rf hvu v186, Option.bind_some]
    cases g5 : sdB x S (upA (x.1 140) (Q.st j) b) with
    | false =>
      rw [if_pos ib_f, fin v _ (by rw [v1 140 (by decide)]; exact r140)]
      exact skip (fun w => by
        have := w.2.2.2.1
        rw [g5] at this
        exact absurd this (by decide)) _ (fun a ha => by rw [wI_ne ha, v1 a ha]) v2 (back v v186)
    | true =>
    have ok : okA (x.1 140) (rdB x) (sdB x S) Q j b := ⟨hj', hrd, by rw [et, xt]; exact g1, g5, old.mpr g4⟩
    have hn7 := QI_n k2 hi5 hI1
    rw [stp_yes ok] at hn7 ih hI1
    rw [add_n] at hn7
    rw [add_n] at ih
    rw [if_neg ib_t, cond_true, cond_true, aIn_t (show Q.n < 8192 by omega) (by omega), cond_true, xi_zI (show Q.n < 2147483648 by omega), fin _ _ (by rw [wI_ne (by decide), wI_ne (by decide), wI_ne (by decide), v1 140 (by decide)]; exact r140), zI_succ]
    generalize hc : codS S B (x.1 140) (upA (x.1 140) (Q.st j) b) = c at *
    generalize hu : wI (wI (wI v 183 c (zI (codS S B (x.1 140) (Q.st j)))) 184 c (zI b)) 185 Q.n (zI c) = u
    have u186 : ∀ s, s < S → u.1 186 s = upA (x.1 140) (Q.st j) b s := fun s hs => by rw [← hu, wI_ne (by decide), wI_ne (by decide), wI_ne (by decide)]; exact v186 s hs
    have u183 : ∀ k, (wI u 186 t (Q.st j t)).1 183 k = if k = c then zI (codS S B (x.1 140) (Q.st j)) else y.1 183 k := fun k => by rw [wI_ne (by decide), ← hu, wI_ne (by decide), wI_ne (by decide), wI_at, v1 183 (by decide)]
    have u184 : ∀ k, (wI u 186 t (Q.st j t)).1 184 k = if k = c then zI b else y.1 184 k := fun k => by rw [wI_ne (by decide), ← hu, wI_ne (by decide), wI_at, wI_ne (by decide), v1 184 (by decide)]
    have u185 : ∀ k, (wI u 186 t (Q.st j t)).1 185 k = if k = Q.n then zI c else y.1 185 k := fun k => by rw [wI_ne (by decide), ← hu, wI_at, wI_ne (by decide), wI_ne (by decide), v1 185 (by decide)]
    have uo : ∀ a, a < 183 ∨ 187 ≤ a → (wI u 186 t (Q.st j t)).1 a = y.1 a := fun a ha => by rw [wI_ne (by omega), ← hu, wI_ne (by omega), wI_ne (by omega), wI_ne (by omega), v1 a (by omega)]
    have u2 : (wI u 186 t (Q.st j t)).2 = y.2 := by rw [← v2, ← hu]; rfl
    have ub := back u u186
    generalize wI u 186 t (Q.st j t) = w at u183 u184 u185 uo u2 ub
    have s1 : ∀ k, (Q.add (upA (x.1 140) (Q.st j) b) j b).st k = if k = Q.n then upA (x.1 140) (Q.st j) b else Q.st k := fun _ => rfl
    have s2 : ∀ k, (Q.add (upA (x.1 140) (Q.st j) b) j b).fr k = if k = Q.n then j else Q.fr k := fun _ => rfl
    have s3 : ∀ k, (Q.add (upA (x.1 140) (Q.st j) b) j b).by_ k = if k = Q.n then b else Q.by_ k := fun _ => rfl
    have hn1 : 1 ≤ Q.n := hI.1.1
    have cne : ∀ k, k < Q.n → ¬ codS S B (x.1 140) (Q.st k) = c := fun k hk e => ok.2.2.2.2 k hk (cod_inj k1 hit (hI.2.1 k hk) hvu (by rw [e, hc]))
    refine ih w ⟨fun a ha => by rw [uo a ha]; exact y1 a ha, by rw [u2]; exact y2, fun k hk => ?_, ?_, fun k h0 hk => ?_, fun m hm => ?_⟩ ub
    · rw [u185, s1]
      rw [add_n] at hk
      by_cases q : k = Q.n
      · rw [if_pos q, if_pos q, hc]
      · rw [if_neg q, if_neg q]
        exact y185 k (by omega)
    · rw [u183, s1, if_neg (show ¬ 0 = Q.n by omega), if_neg (cne 0 (by omega))]
      exact y183
    · rw [add_n] at hk
      rw [u183, u184, s1, s2, s3]
      by_cases q : k = Q.n
      · rw [if_pos q, if_pos q, if_pos q, hc, if_pos rfl, if_pos rfl, s1, if_neg (by omega)]
        exact ⟨rfl, rfl⟩
      · have hf := (hI.2.2.2 k h0 (by omega)).1
        rw [if_neg q, if_neg q, if_neg q, if_neg (cne k (by omega)), if_neg (cne k (by omega)), s1, if_neg (by omega)]
        exact yfr k h0 (by omega)
    · rw [u183]
      by_cases q : m = c
      · refine Or.inr ⟨Q.n, by rw [add_n]; omega, ?_⟩
        rw [s1, if_pos rfl, hc, q]
      · rw [if_neg q]
        rcases ym m hm with r | ⟨k, r1, r2⟩
        · exact Or.inl r
        · refine Or.inr ⟨k, by rw [add_n]; omega, ?_⟩
          rw [s1, if_neg (by omega)]
          exact r2
end RSO
