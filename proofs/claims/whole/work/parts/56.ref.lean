/-! Why a step is refused: one text for both sides -/
def frozM (x : Hs) (Z : Nat) (now : Int32) (a : Int32) : Bool := anyF (fun k => (decide (x.1 163 k = -1) || decide (x.1 163 k = a)) && (!(decide (now < x.1 164 k)) && !(decide (now ≥ x.1 165 k)))) Z 0
def gravM (x : Hs) (I s : Nat) : Bool := anyF (fun k => decide (x.1 181 k = 0) && (!(decide (x.1 175 k < 2)) && (decide (x.1 174 k = zI s) || hs (x.1 139 s) (x.1 174 k)))) I 0
def usedM (x : Hs) (w : Int32) (s : Nat) : Bool := decide (x.1 160 s = w) && (!(decide (x.1 161 s ≤ 0)) && !(decide (lg_cmp (1000 * (x.1 162 s).toInt64) ((x.1 159 s).toInt64 * (x.1 161 s).toInt64) ≤ 0)))
/-- a ring with something else that runs, or as a canary, of a service -/
def sndR (x : Hs) (S r s : Nat) (w1 w2 : Int32) : Bool := soundM x (fun t => if t = s then w1 else x.1 147 (5 * r + t)) (fun t => if t = s then w2 else x.1 148 (5 * r + t)) S
def worM (x : Hs) (k : Nat) : Bool := if x.1 147 k = -1 then !(decide (lg_cmp (100 * (x.1 152 k).toInt64) (5 * (x.1 151 k).toInt64) ≤ 0)) else !(decide (lg_cmp (100 * ((x.1 152 k).toInt64 * (x.1 153 k).toInt64 - (x.1 154 k).toInt64 * (x.1 151 k).toInt64)) (5 * (x.1 151 k).toInt64 * (x.1 153 k).toInt64) ≤ 0))
def shoM (x : Hs) (k : Nat) : Bool := decide (x.1 151 k < 20) || (!(decide (x.1 147 k = -1)) && !(decide (x.1 153 k ≥ 20)))
def gateM (x : Hs) (S r s : Nat) (now b : Int32) : Int32 :=
  if x.1 148 (5 * r + s) = -1 then
    (if sndR x S r s (x.1 147 (5 * r + s)) b = true then (if r = 0 then 0 else if now - x.1 150 (5 * (r - 1) + s) < 30 then 6 else 0) else 5)
  else (if sndR x S r s b (-1) = true then (if shoM x (5 * r + s) = true then 7 else if worM x (5 * r + s) = true then 8 else 0) else 5)
def refM (x : Hs) (S Z I r s : Nat) (now w b : Int32) : Int32 :=
  if (frozM x Z now (zI s) && decide (x.1 158 s = 0)) = true then 1 else if gravM x I s = true then 2 else if usedM x w s = true then 3 else if (rdyM x b && decide (x.1 145 (xi b) = 0)) = false then 4 else gateM x S r s now b
section REF
variable {c S B Z I P now : Nat} {x : Hs}
theorem s31_2 (hZ : IFrz Z x) (a nw : Int32) : ∀ d n i, i + d = Z → d < n → gm31_2 n a nw (zI i) x = some (b2i (anyF (fun k => (decide (x.1 163 k = -1) || decide (x.1 163 k = a)) && (!(decide (nw < x.1 164 k)) && !(decide (nw ≥ x.1 165 k)))) d i))
  | _, 0, _, _, h => by omega
  | 0, n + 1, i, e, _ => by
    obtain ⟨z1, ⟨z2, z3⟩, _⟩ := hZ
    rw [gm31_2, if_pos ((ge_lit z2 (by omega) (by omega)).mpr (by omega))]
    rfl
  | d + 1, n + 1, i, e, h => by
    have ih := s31_2 hZ a nw d n (i + 1) (by omega) (by omega)
    obtain ⟨z1, ⟨z2, z3⟩, ⟨w100, w101, w102, w99⟩, hex⟩ := hZ
    have i8 : aIn (zI i) 8 = true := aIn_t (by omega) (by omega)
    rw [gm31_2, if_neg (fun w => by have := (ge_lit z2 (by omega) (by omega)).mp w; omega), anyF]
    unfold gm31_30 gm31_35 gm31_64
    simp only [i8, cond_true, xi_zI (show i < 2147483648 by omega), zI_succ, ih, w100, w101, w102, i10, ↓reduceIte]
    by_cases q1 : x.1 163 i = -1
    · rw [if_pos q1, decide_eq_true q1]
      by_cases q3 : nw < x.1 164 i
      · rw [if_pos q3, decide_eq_true q3]; rfl
      · rw [if_neg q3, decide_eq_false q3]
        by_cases q4 : nw ≥ x.1 165 i
        · rw [if_pos q4, decide_eq_true q4]; rfl
        · rw [if_neg q4, decide_eq_false q4]; rfl
    · rw [if_neg q1, decide_eq_false q1]
      by_cases q2 : x.1 163 i = a
      · rw [if_pos q2, decide_eq_true q2]
        by_cases q3 : nw < x.1 164 i
        · rw [if_pos q3, decide_eq_true q3]; rfl
        · rw [if_neg q3, decide_eq_false q3]
          by_cases q4 : nw ≥ x.1 165 i
          · rw [if_pos q4, decide_eq_true q4]; rfl
          · rw [if_neg q4, decide_eq_false q4]; rfl
      · rw [if_neg q2, decide_eq_false q2]; rfl
theorem s31 (hZ : IFrz Z x) (a nw : Int32) : gm31 a nw x = some (b2i (frozM x Z nw a)) := s31_2 hZ a nw Z FU 0 (by omega) (by have := hZ.1; unfold FU; omega)
theorem s135_4 (hB : x.1 138 27 = zI Z) (hb : Z ≤ 8) (a : Int32) : ∀ d n i e, i + d = Z → d < n → gm135_4 n a (b2i e) (zI i) x = some (b2i (e || anyF (fun k => (decide (x.1 163 k = -1) || decide (x.1 163 k = a)) && (!(decide (x.1 138 0 < x.1 164 k)) && !(decide (x.1 138 0 ≥ x.1 165 k)))) d i))
  | _, 0, _, _, _, h => by omega
  | 0, n + 1, i, e, h0, _ => by
    rw [gm135_4, if_pos ((ge_lit hB (by omega) (by omega)).mpr (by omega)), aBit_b, cond_true, anyF, Bool.or_false]
  | d + 1, n + 1, i, e, h0, h => by
    have ih := fun c => s135_4 hB hb a d n (i + 1) c (by omega) (by omega)
    have iht := ih true
    have ihf := ih false
    rw [b2i_t] at iht
    rw [b2i_f] at ihf
    have i8 : aIn (zI i) 8 = true := aIn_t (by omega) (by omega)
    rw [gm135_4, if_neg (fun w => by have := (ge_lit hB (by omega) (by omega)).mp w; omega), anyF]
    unfold gm135_36 gm135_62 gm135_66 gm135_67
    simp only [i8, cond_true, xi_zI (show i < 2147483648 by omega), zI_succ, iht, ihf]
    cases e with
    | true => rw [if_neg ib_t]; rfl
    | false =>
      rw [if_pos ib_f]
      by_cases q1 : x.1 163 i = -1
      · rw [if_pos q1, decide_eq_true q1]
        by_cases q3 : x.1 138 0 < x.1 164 i
        · rw [if_pos (show x.1 164 i > x.1 138 0 from q3), decide_eq_true q3]; rfl
        · rw [if_neg (show ¬ x.1 164 i > x.1 138 0 from q3), decide_eq_false q3]
          by_cases q4 : x.1 138 0 ≥ x.1 165 i
          · rw [if_pos q4, decide_eq_true q4]; rfl
          · rw [if_neg q4, decide_eq_false q4]; rfl
      · rw [if_neg q1, decide_eq_false q1]
        by_cases q2 : x.1 163 i = a
        · rw [if_pos q2, decide_eq_true q2]
          by_cases q3 : x.1 138 0 < x.1 164 i
          · rw [if_pos (show x.1 164 i > x.1 138 0 from q3), decide_eq_true q3]; rfl
          · rw [if_neg (show ¬ x.1 164 i > x.1 138 0 from q3), decide_eq_false q3]
            by_cases q4 : x.1 138 0 ≥ x.1 165 i
            · rw [if_pos q4, decide_eq_true q4]; rfl
            · rw [if_neg q4, decide_eq_false q4]; rfl
        · rw [if_neg q2, decide_eq_false q2]; rfl
theorem s135 (hB : x.1 138 27 = zI Z) (hb : Z ≤ 8) (a : Int32) : gm135 a x = some (b2i (frozM x Z (x.1 138 0) a)) := s135_4 hB hb a Z FU 0 false (by omega) (by unfold FU; omega)
theorem hs_self {v : Int32} {s k : Nat} (hs5 : s < 32) (hk : k < 32) : hs (v ||| (1 <<< (zI s &&& 31))) (zI k) = (decide (zI k = zI s) || hs v (zI k)) := by
  rw [hs_bt _ hk, hs_bt _ hk, bt_or, bt_one31 hs5, Bool.or_comm]
  congr 1
  rw [Bool.eq_iff_iff, decide_eq_true_eq, decide_eq_true_eq, zI_inj (by omega) (by omega)]
theorem s20_2 (hD : IDut P I now x) {s : Nat} (hs5 : s < 5) : ∀ d n i, i + d = I → d < n → gm20_2 n (x.1 139 s ||| (1 <<< (zI s &&& 31))) (zI i) x = some (b2i (anyF (fun k => decide (x.1 181 k = 0) && (!(decide (x.1 175 k < 2)) && (decide (x.1 174 k = zI s) || hs (x.1 139 s) (x.1 174 k)))) d i))
  | _, 0, _, _, h => by omega
  | 0, n + 1, i, e, _ => by
    obtain ⟨⟨p1, p2, p3⟩, ⟨e1, e2, e3, e4⟩, _⟩ := hD
    rw [gm20_2, if_pos ((ge_lit e3 (by omega) (by omega)).mpr (by omega))]
    rfl
  | d + 1, n + 1, i, e, h => by
    have ih := s20_2 hD hs5 d n (i + 1) (by omega) (by omega)
    obtain ⟨⟨p1, p2, p3⟩, ⟨e1, e2, e3, e4⟩, w116, hst, hf, hcl, hdf, hun, hsv⟩ := hD
    obtain ⟨⟨f0, f1, f2, f3, f4, f5, f6⟩, _⟩ := hf i (by omega)
    obtain ⟨t, ht, et⟩ := aIn_ex (hsv i (by omega))
    have i12 : aIn (zI i) 12 = true := aIn_t (by omega) (by omega)
    rw [gm20_2, if_neg (fun w => by have := (ge_lit e3 (by omega) (by omega)).mp w; omega), anyF]
    unfold gm20_45
    simp only [i12, cond_true, xi_zI (show i < 2147483648 by omega), zI_succ, ih, f0, f1, f6, s101, Option.bind_some]
    rw [et, hs_self (by omega) (by omega)]
    by_cases q1 : x.1 181 i = 0
    · rw [if_pos q1, decide_eq_true q1]
      by_cases q2 : x.1 175 i < 2
      · rw [if_pos q2, decide_eq_true q2]; rfl
      · rw [if_neg q2, decide_eq_false q2]
        cases (decide (zI t = zI s) || hs (x.1 139 s) (zI t)) <;> rfl
    · rw [if_neg q1, decide_eq_false q1]; rfl
theorem s20 (hD : IDut P I now x) {s : Nat} (hs5 : s < 5) : gm20 (x.1 139 s ||| (1 <<< (zI s &&& 31))) x = some (b2i (gravM x I s)) := s20_2 hD hs5 I FU 0 (by omega) (by have := hD.1; unfold FU; omega)
theorem s136_4 (hI : x.1 138 42 = zI I) (h12 : I ≤ 12) {s : Nat} (hs5 : s < 5) : ∀ d n i e, i + d = I → d < n → gm136_4 n (zI s) (b2i e) (zI i) x = some (b2i (e || anyF (fun k => decide (x.1 181 k = 0) && (!(decide (x.1 175 k < 2)) && (decide (x.1 174 k = zI s) || hs (x.1 139 s) (x.1 174 k)))) d i))
  | _, 0, _, _, _, h => by omega
  | 0, n + 1, i, e, h0, _ => by
    rw [gm136_4, if_pos ((ge_lit hI (by omega) (by omega)).mpr (by omega)), aBit_b, cond_true, anyF, Bool.or_false]
  | d + 1, n + 1, i, e, h0, h => by
    have ih := fun c => s136_4 hI h12 hs5 d n (i + 1) c (by omega) (by omega)
    have iht := ih true
    have ihf := ih false
    rw [b2i_t] at iht
    rw [b2i_f] at ihf
    have i12 : aIn (zI i) 12 = true := aIn_t (by omega) (by omega)
    have j5 : aIn (zI s) 5 = true := aIn_t (by omega) (by omega)
    rw [gm136_4, if_neg (fun w => by have := (ge_lit hI (by omega) (by omega)).mp w; omega), anyF]
    unfold gm136_63 gm136_67 gm136_68
    simp only [i12, j5, cond_true, xi_zI (show i < 2147483648 by omega), xi_zI (show s < 2147483648 by omega), zI_succ, iht, ihf, s115, Option.bind_some]
    cases e with
    | true => rw [if_neg ib_t]; rfl
    | false =>
      rw [if_pos ib_f]
      by_cases q1 : x.1 181 i = 0
      · rw [if_pos q1, decide_eq_true q1]
        by_cases q2 : x.1 175 i < 2
        · rw [if_pos q2, decide_eq_true q2]; rfl
        · rw [if_neg q2, decide_eq_false q2]
          by_cases q3 : x.1 174 i = zI s
          · rw [if_pos q3, decide_eq_true q3]; rfl
          · rw [if_neg q3, decide_eq_false q3]
            cases hs (x.1 139 s) (x.1 174 i) <;> rfl
      · rw [if_neg q1, decide_eq_false q1]; rfl
theorem s136 (hI : x.1 138 42 = zI I) (h12 : I ≤ 12) {s : Nat} (hs5 : s < 5) : gm136 (zI s) x = some (b2i (gravM x I s)) := s136_4 hI h12 hs5 I FU 0 false (by omega) (by unfold FU; omega)
theorem s3 (hB : IBud c now x) {s : Nat} (hs5 : s < 5) : gm3 (zI s) x = some (b2i (usedM x (zI (now / 60)) s)) := by
  obtain ⟨w104, hb⟩ := hB
  obtain ⟨b1, b2, b3, b4, b5, b6⟩ := hb s hs5
  have j5 : aIn (zI s) 5 = true := aIn_t (by omega) (by omega)
  unfold gm3 usedM
  simp only [j5, cond_true, xi_zI (show s < 2147483648 by omega), w104]
  by_cases q : x.1 160 s = zI (now / 60)
  · obtain ⟨g1, g2⟩ := b5 q
    rw [g1, g2, decide_eq_true q]
    have hz : lg_cmp (x.1 161 s).toInt64 0 ≤ 0 ↔ x.1 161 s ≤ 0 := by
      rw [cmp_le, show (0 : Int64) = (0 : Int32).toInt64 from rfl, Int32.toInt64_le]
    by_cases q1 : x.1 161 s ≤ 0
    · rw [if_pos (hz.mpr q1), decide_eq_true q1]; rfl
    · rw [if_neg (fun w => q1 (hz.mp w)), decide_eq_false q1]
      by_cases q2 : lg_cmp (1000 * (x.1 162 s).toInt64) ((x.1 159 s).toInt64 * (x.1 161 s).toInt64) ≤ 0
      · rw [if_pos q2, decide_eq_true q2]; rfl
      · rw [if_neg q2, decide_eq_false q2]; rfl
  · obtain ⟨g1, g2⟩ := b6 q
    rw [g1, decide_eq_false q, if_pos (by decide)]
    rfl
theorem s138 {w : Int32} (hw : x.1 138 0 / 60 = w) {s : Nat} (hs5 : s < 5) : gm138 (zI s) x = some (b2i (usedM x w s)) := by
  have j5 : aIn (zI s) 5 = true := aIn_t (by omega) (by omega)
  unfold gm138 gm137 usedM
  simp only [j5, cond_true, xi_zI (show s < 2147483648 by omega), hw]
  by_cases q : x.1 160 s = w
  · rw [if_pos q, decide_eq_true q, Option.bind_some, if_neg (by decide)]
    by_cases q1 : x.1 161 s ≤ 0
    · rw [if_pos q1, decide_eq_true q1]; rfl
    · rw [if_neg q1, decide_eq_false q1]
      by_cases q2 : lg_cmp (1000 * (x.1 162 s).toInt64) ((x.1 159 s).toInt64 * (x.1 161 s).toInt64) ≤ 0
      · rw [if_pos q2, decide_eq_true q2]; rfl
      · rw [if_neg q2, decide_eq_false q2]; rfl
  · rw [if_neg q, decide_eq_false q, Option.bind_some, if_pos rfl]
    rfl
theorem four_id {q1 q2 s : Nat} (hq : ¬ q1 = q2) (w1 w2 : Int32) : wI (wI (wI (wI x q1 s w1) q2 s w2) q1 s (x.1 q1 s)) q2 s (x.1 q2 s) = x := by
  refine Prod.ext ?_ rfl
  funext a k
  by_cases h2 : a = q2
  · subst h2
    rw [wI_at]
    by_cases hk : k = s
    · rw [if_pos hk, hk]
    · rw [if_neg hk, wI_ne (fun e => hq e.symm), wI_at, if_neg hk, wI_ne (fun e => hq e.symm)]
  · rw [wI_ne h2]
    by_cases h1 : a = q1
    · subst h1
      rw [wI_at]
      by_cases hk : k = s
      · rw [if_pos hk, hk]
      · rw [if_neg hk, wI_ne h2, wI_at, if_neg hk]
    · rw [wI_ne h1, wI_ne h2, wI_ne h1]
theorem s48 (hC : ICat S B x) (hR : IRng c B (x.1 140) x) {r s : Nat} (hr : r < 4) (hs5 : s < 5) {w1 w2 : Int32} (v1 : vB B (x.1 140) s w1) (v2 : vB B (x.1 140) s w2) : gm48 (60 + 8 * r) (zI s) w1 w2 x = some (b2i (sndR x S r s w1 w2), x) := by
  have hk := hC.1
  have j5 : aIn (zI s) 5 = true := aIn_t (by omega) (by omega)
  have o1 : own (60 + 8 * r + 1) = 2 := by unfold own; rw [if_neg (by omega), if_neg (by omega), if_neg (by omega), if_pos (by omega)]
  have o2 : own (60 + 8 * r + 2) = 2 := by unfold own; rw [if_neg (by omega), if_neg (by omega), if_neg (by omega), if_pos (by omega)]
  have e : SB 2 x (wI (wI x (60 + 8 * r + 1) s w1) (60 + 8 * r + 2) s w2) := by
    refine SB.I ?_ (by omega) (Or.inl o2)
    refine SB.I ?_ (by omega) (Or.inl o1)
    exact SB.rf _ _
  have f1 : ∀ t, (wI (wI x (60 + 8 * r + 1) s w1) (60 + 8 * r + 2) s w2).1 (60 + 8 * r + 1) t = if t = s then w1 else x.1 (60 + 8 * r + 1) t := fun t => by rw [wI_ne (by omega), wI_at]
  have f2 : ∀ t, (wI (wI x (60 + 8 * r + 1) s w1) (60 + 8 * r + 2) s w2).1 (60 + 8 * r + 2) t = if t = s then w2 else x.1 (60 + 8 * r + 2) t := fun t => by rw [wI_at, wI_ne (by omega)]
  have cm : ∀ a, 139 ≤ a → a ≤ 148 → (wI (wI x (60 + 8 * r + 1) s w1) (60 + 8 * r + 2) s w2).1 a = x.1 a := fun a h1 h2 => by rw [wI_ne (by omega), wI_ne (by omega)]
  have h13 : gm13 (60 + 8 * r + 1) (60 + 8 * r + 2) (wI (wI x (60 + 8 * r + 1) s w1) (60 + 8 * r + 2) s w2) = some (b2i (sndR x S r s w1 w2)) := by
    rw [s13 (hC.fr e (by decide)) (fun t ht => by
      rw [cm 140 (by decide) (by decide), f1]
      by_cases hts : t = s
      · rw [if_pos hts, hts]; exact v1
      · rw [if_neg hts, (ring_run hR hr (by omega)).1]; exact (hR.1 r hr t (by omega)).2.2.1.1) (fun t ht => by
      rw [cm 140 (by decide) (by decide), f2]
      by_cases hts : t = s
      · rw [if_pos hts, hts]; exact v2
      · rw [if_neg hts, (ring_run hR hr (by omega)).2]; exact (hR.1 r hr t (by omega)).2.2.1.2.1)]
    unfold sndR
    rw [soundM_cg (x := x) (fun a h1 h2 => cm a h1 (by omega)), soundM_fn (run2 := fun t => if t = s then w1 else x.1 147 (5 * r + t)) (can2 := fun t => if t = s then w2 else x.1 148 (5 * r + t)) (fun t ht => by
      rw [f1]
      by_cases hts : t = s
      · rw [if_pos hts, if_pos hts]
      · rw [if_neg hts, if_neg hts, (ring_run hR hr (by omega)).1]) (fun t ht => by
      rw [f2]
      by_cases hts : t = s
      · rw [if_pos hts, if_pos hts]
      · rw [if_neg hts, if_neg hts, (ring_run hR hr (by omega)).2])]
  unfold gm48
  simp only [j5, cond_true, xi_zI (show s < 2147483648 by omega), h13, Option.bind_some, aBit_b]
  rw [four_id (by omega)]
theorem s133 {y : Hs} (hM : MC S B y) (hcc : ∀ a, 139 ≤ a → a ≤ 148 → y.1 a = x.1 a) (hR : IRng c B (x.1 140) x) {r s : Nat} (hr : r < 4) (hs5 : s < 5) {w1 w2 : Int32} (v1 : vB B (x.1 140) s w1) (v2 : vB B (x.1 140) s w2) : gm133 (zI (5 * r + s)) w1 w2 y = some (b2i (sndR x S r s w1 w2), y) := by
  have hk := hM.1
  have j20 : aIn (zI (5 * r + s)) 20 = true := aIn_t (by omega) (by omega)
  have xk : xi (zI (5 * r + s)) = 5 * r + s := xi_zI (by omega)
  have dv : zI (5 * r + s) / 5 = zI r := by
    rw [show (5 : Int32) = zI 5 from rfl, zI_div (by omega) (by omega) (by omega)]
    congr 1
    omega
  have f1 : ∀ t, (wI (wI y 147 (5 * r + s) w1) 148 (5 * r + s) w2).1 147 t = if t = 5 * r + s then w1 else x.1 147 t := fun t => by rw [wI_ne (by decide), wI_at, hcc 147 (by decide) (by decide)]
  have f2 : ∀ t, (wI (wI y 147 (5 * r + s) w1) 148 (5 * r + s) w2).1 148 t = if t = 5 * r + s then w2 else x.1 148 t := fun t => by rw [wI_at, wI_ne (by decide), hcc 148 (by decide) (by decide)]
  have hM2 : MC S B (wI (wI y 147 (5 * r + s) w1) 148 (5 * r + s) w2) := hM.of rfl rfl rfl rfl
  have h132 : gm132 (zI r) (wI (wI y 147 (5 * r + s) w1) 148 (5 * r + s) w2) = some (b2i (sndR x S r s w1 w2)) := by
    rw [s132 hM2 hr (fun t ht => by
      rw [f1]
      by_cases hts : t = s
      · rw [if_pos (by omega)]; exact v1.imp id (fun h => h.1)
      · rw [if_neg (by omega)]; exact ((hR.1 r hr t (by omega)).2.2.1.1).imp id (fun h => h.1)) (fun t ht => by
      rw [f2]
      by_cases hts : t = s
      · rw [if_pos (by omega)]; exact v2.imp id (fun h => h.1)
      · rw [if_neg (by omega)]; exact ((hR.1 r hr t (by omega)).2.2.1.2.1).imp id (fun h => h.1))]
    unfold sndR
    rw [soundM_cg (x := x) (fun a h1 h2 => by rw [wI_ne (by omega), wI_ne (by omega)]; exact hcc a h1 (by omega)), soundM_fn (run2 := fun t => if t = s then w1 else x.1 147 (5 * r + t)) (can2 := fun t => if t = s then w2 else x.1 148 (5 * r + t)) (fun t ht => by
      rw [f1]
      by_cases hts : t = s
      · rw [if_pos hts, if_pos (by omega)]
      · rw [if_neg hts, if_neg (by omega)]) (fun t ht => by
      rw [f2]
      by_cases hts : t = s
      · rw [if_pos hts, if_pos (by omega)]
      · rw [if_neg hts, if_neg (by omega)])]
  unfold gm133
  simp only [j20, cond_true, xk, dv, h132, Option.bind_some, aBit_b]
  rw [four_id (by decide)]
end REF
