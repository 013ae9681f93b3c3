/-! Going back: the loops of both sides -/
theorem s48g {S B : Nat} {h : Hs} (hC : ICat S B h) {r s : Nat} (hr : r < 4) (hs5 : s < 5) {run can : Nat → Int32} (hrun : ∀ t, t < 5 → h.1 (60 + 8 * r + 1) t = run t ∧ vB B (h.1 140) t (run t)) (hcan : ∀ t, t < 5 → h.1 (60 + 8 * r + 2) t = can t ∧ vB B (h.1 140) t (can t)) {w1 w2 : Int32} (v1 : vB B (h.1 140) s w1) (v2 : vB B (h.1 140) s w2) : gm48 (60 + 8 * r) (zI s) w1 w2 h = some (b2i (soundM h (fun t => if t = s then w1 else run t) (fun t => if t = s then w2 else can t) S), h) := by
  have hk := hC.1
  have j5 : aIn (zI s) 5 = true := aIn_t (by omega) (by omega)
  have o1 : own (60 + 8 * r + 1) = 2 := by unfold own; rw [if_neg (by omega), if_neg (by omega), if_neg (by omega), if_pos (by omega)]
  have o2 : own (60 + 8 * r + 2) = 2 := by unfold own; rw [if_neg (by omega), if_neg (by omega), if_neg (by omega), if_pos (by omega)]
  have e : SB 2 h (wI (wI h (60 + 8 * r + 1) s w1) (60 + 8 * r + 2) s w2) := by
    refine SB.I ?_ (by omega) (Or.inl o2)
    refine SB.I ?_ (by omega) (Or.inl o1)
    exact SB.rf _ _
  have f1 : ∀ t, (wI (wI h (60 + 8 * r + 1) s w1) (60 + 8 * r + 2) s w2).1 (60 + 8 * r + 1) t = if t = s then w1 else h.1 (60 + 8 * r + 1) t := fun t => by rw [wI_ne (by omega), wI_at]
  have f2 : ∀ t, (wI (wI h (60 + 8 * r + 1) s w1) (60 + 8 * r + 2) s w2).1 (60 + 8 * r + 2) t = if t = s then w2 else h.1 (60 + 8 * r + 2) t := fun t => by rw [wI_at, wI_ne (by omega)]
  have cm : ∀ a, 139 ≤ a → a ≤ 148 → (wI (wI h (60 + 8 * r + 1) s w1) (60 + 8 * r + 2) s w2).1 a = h.1 a := fun a h1 h2 => by rw [wI_ne (by omega), wI_ne (by omega)]
  have h13 : gm13 (60 + 8 * r + 1) (60 + 8 * r + 2) (wI (wI h (60 + 8 * r + 1) s w1) (60 + 8 * r + 2) s w2) = some (b2i (soundM h (fun t => if t = s then w1 else run t) (fun t => if t = s then w2 else can t) S)) := by
    rw [s13 (hC.fr e (by decide)) (fun t ht => by
      rw [cm 140 (by decide) (by decide), f1]
      by_cases hts : t = s
      · rw [if_pos hts, hts]; exact v1
      · rw [if_neg hts, (hrun t (by omega)).1]; exact (hrun t (by omega)).2) (fun t ht => by
      rw [cm 140 (by decide) (by decide), f2]
      by_cases hts : t = s
      · rw [if_pos hts, hts]; exact v2
      · rw [if_neg hts, (hcan t (by omega)).1]; exact (hcan t (by omega)).2)]
    rw [soundM_cg (x := h) (fun a h1 h2 => cm a h1 (by omega)), soundM_fn (run2 := fun t => if t = s then w1 else run t) (can2 := fun t => if t = s then w2 else can t) (fun t ht => by
      rw [f1]
      by_cases hts : t = s
      · rw [if_pos hts, if_pos hts]
      · rw [if_neg hts, if_neg hts, (hrun t (by omega)).1]) (fun t ht => by
      rw [f2]
      by_cases hts : t = s
      · rw [if_pos hts, if_pos hts]
      · rw [if_neg hts, if_neg hts, (hcan t (by omega)).1])]
  unfold gm48
  simp only [j5, cond_true, xi_zI (show s < 2147483648 by omega), h13, Option.bind_some, aBit_b]
  rw [four_id (by omega)]
theorem s133g {S B : Nat} {h : Hs} (hM : MC S B h) {r s : Nat} (hr : r < 4) (hs5 : s < 5) {run can : Nat → Int32} (hrun : ∀ t, t < 5 → h.1 147 (5 * r + t) = run t ∧ vB B (h.1 140) t (run t)) (hcan : ∀ t, t < 5 → h.1 148 (5 * r + t) = can t ∧ vB B (h.1 140) t (can t)) {w1 w2 : Int32} (v1 : vB B (h.1 140) s w1) (v2 : vB B (h.1 140) s w2) : gm133 (zI (5 * r + s)) w1 w2 h = some (b2i (soundM h (fun t => if t = s then w1 else run t) (fun t => if t = s then w2 else can t) S), h) := by
  have hk := hM.1
  have j20 : aIn (zI (5 * r + s)) 20 = true := aIn_t (by omega) (by omega)
  have xk : xi (zI (5 * r + s)) = 5 * r + s := xi_zI (by omega)
  have dv : zI (5 * r + s) / 5 = zI r := by
    rw [show (5 : Int32) = zI 5 from rfl, zI_div (by omega) (by omega) (by omega)]
    congr 1
    omega
  have f1 : ∀ t, (wI (wI h 147 (5 * r + s) w1) 148 (5 * r + s) w2).1 147 t = if t = 5 * r + s then w1 else h.1 147 t := fun t => by rw [wI_ne (by decide), wI_at]
  have f2 : ∀ t, (wI (wI h 147 (5 * r + s) w1) 148 (5 * r + s) w2).1 148 t = if t = 5 * r + s then w2 else h.1 148 t := fun t => by rw [wI_at, wI_ne (by decide)]
  have hM2 : MC S B (wI (wI h 147 (5 * r + s) w1) 148 (5 * r + s) w2) := hM.of rfl rfl rfl rfl
  have h132 : gm132 (zI r) (wI (wI h 147 (5 * r + s) w1) 148 (5 * r + s) w2) = some (b2i (soundM h (fun t => if t = s then w1 else run t) (fun t => if t = s then w2 else can t) S)) := by
    rw [s132 hM2 hr (fun t ht => by
      rw [f1]
      by_cases hts : t = s
      · rw [if_pos (by omega)]; exact v1.imp id (fun h => h.1)
      · rw [if_neg (by omega), (hrun t (by omega)).1]; exact ((hrun t (by omega)).2).imp id (fun h => h.1)) (fun t ht => by
      rw [f2]
      by_cases hts : t = s
      · rw [if_pos (by omega)]; exact v2.imp id (fun h => h.1)
      · rw [if_neg (by omega), (hcan t (by omega)).1]; exact ((hcan t (by omega)).2).imp id (fun h => h.1))]
    rw [soundM_cg (x := h) (fun a h1 h2 => by rw [wI_ne (by omega), wI_ne (by omega)]), soundM_fn (run2 := fun t => if t = s then w1 else run t) (can2 := fun t => if t = s then w2 else can t) (fun t ht => by
      rw [f1]
      by_cases hts : t = s
      · rw [if_pos hts, if_pos (by omega)]
      · rw [if_neg hts, if_neg (by omega), (hrun t (by omega)).1]) (fun t ht => by
      rw [f2]
      by_cases hts : t = s
      · rw [if_pos hts, if_pos (by omega)]
      · rw [if_neg hts, if_neg (by omega), (hcan t (by omega)).1])]
  unfold gm133
  simp only [j20, cond_true, xk, dv, h132, Option.bind_some, aBit_b]
  rw [four_id (by decide)]
/-- the former build of a ring can come back -/
def okB (x : Hs) (S s t : Nat) : Bool := (decide (x.1 149 (5 * t + s) = -1) || (rdyM x (x.1 149 (5 * t + s)) && decide (x.1 145 (xi (x.1 149 (5 * t + s))) = 0))) && sndR x S t s (x.1 149 (5 * t + s)) (x.1 148 (5 * t + s))
/-- in how many rings the build runs still -/
def bck (x : Hs) (S s : Nat) : Nat → Nat
  | 0 => 0
  | t + 1 => if okB x S s t = true then bck x S s t else t + 1
theorem bck_le (x : Hs) (S s : Nat) : ∀ i, bck x S s i ≤ i
  | 0 => Nat.le_refl _
  | t + 1 => by
    rw [bck]
    split
    · have := bck_le x S s t
      omega
    · exact Nat.le_refl _
def CB (x h y : Hs) (s L R : Nat) : Prop :=
  (∀ t u, t < 4 → y.1 (60 + 8 * t + 1) u = if u = s ∧ L ≤ t ∧ t < R then x.1 149 (5 * t + s) else h.1 (60 + 8 * t + 1) u) ∧
  (∀ t u, t < 4 → y.1 (60 + 8 * t + 3) u = if u = s ∧ L ≤ t ∧ t < R then -1 else h.1 (60 + 8 * t + 3) u) ∧
  (∀ a, (∀ t, t < 4 → ¬ a = 60 + 8 * t + 1 ∧ ¬ a = 60 + 8 * t + 3) → ¬ a = 93 + s → y.1 a = h.1 a) ∧
  (y.1 (93 + s) 1 = if L < R then zI L else h.1 (93 + s) 1) ∧ (y.1 (93 + s) 3 = if L = 0 then h.1 (93 + s) 3 else 1) ∧ (∀ k, ¬ k = 1 → ¬ k = 3 → y.1 (93 + s) k = h.1 (93 + s) k) ∧ y.2 = h.2
theorem vB_m1 (B : Nat) (its : Nat → Int32) (s : Nat) : vB B its s (-1) := Or.inl rfl
theorem m1_add (a : Int32) : a + (-1) = a - 1 := by
  rw [Int32.sub_eq_add_neg]
section BACK
variable {c S B : Nat} {x : Hs}
theorem s110 (hC : ICat S B x) (hR : IRng c B (x.1 140) x) {s t : Nat} (hs5 : s < 5) (ht : t < 4) {h : Hs} (e : SB 2 x h) (hm : ∀ a, 139 ≤ a → a ≤ 186 → h.1 a = x.1 a) (hv : ∀ u, u < 5 → h.1 (60 + 8 * t + 1) u = x.1 147 (5 * t + u) ∧ h.1 (60 + 8 * t + 2) u = x.1 148 (5 * t + u) ∧ h.1 (60 + 8 * t + 3) u = x.1 149 (5 * t + u)) : gm110 (zI s) (60 + 8 * t) h = some (b2i (okB x S s t), h) := by
  have hC2 := hC.fr e (by decide)
  have j5 : aIn (zI s) 5 = true := aIn_t (by omega) (by omega)
  have xs : xi (zI s) = s := xi_zI (by omega)
  obtain ⟨_, _, ⟨v1, v2, v3⟩, _⟩ := hR.1 t ht s hs5
  have a1 := s48g hC2 ht hs5 (run := fun u => x.1 147 (5 * t + u)) (can := fun u => x.1 148 (5 * t + u)) (fun u hu => ⟨(hv u hu).1, by rw [hm 140 (by decide) (by decide)]; exact (hR.1 t ht u hu).2.2.1.1⟩) (fun u hu => ⟨(hv u hu).2.1, by rw [hm 140 (by decide) (by decide)]; exact (hR.1 t ht u hu).2.2.1.2.1⟩) (w1 := x.1 149 (5 * t + s)) (w2 := x.1 148 (5 * t + s)) (by rw [hm 140 (by decide) (by decide)]; exact v3) (by rw [hm 140 (by decide) (by decide)]; exact v2)
  rw [soundM_cg (x := x) (fun a h1 h2 => hm a h1 (by omega))] at a1
  have a2 : gm48 (60 + 8 * t) (zI s) (x.1 149 (5 * t + s)) (x.1 148 (5 * t + s)) h = some (b2i (sndR x S t s (x.1 149 (5 * t + s)) (x.1 148 (5 * t + s))), h) := a1
  unfold gm110 gm110_23 okB
  simp only [j5, cond_true, xs, (hv s hs5).2.2, (hv s hs5).2.1, a2, Option.bind_some]
  by_cases hf : x.1 149 (5 * t + s) = -1
  · rw [if_pos hf, decide_eq_true hf, Bool.true_or, Bool.true_and]
    cases sndR x S t s (x.1 149 (5 * t + s)) (x.1 148 (5 * t + s)) <;> rfl
  · have hB := (v3.resolve_left hf).1
    have a3 := s12 hC2 hB
    have a4 : gm12 (x.1 149 (5 * t + s)) h = some (b2i (rdyM x (x.1 149 (5 * t + s)) && decide (x.1 145 (xi (x.1 149 (5 * t + s))) = 0))) := by
      rw [a3]
      unfold rdyM
      rw [hm 144 (by decide) (by decide), hm 145 (by decide) (by decide), hm 146 (by decide) (by decide)]
    rw [if_neg hf, decide_eq_false hf, Bool.false_or, a4, Option.bind_some]
    cases (rdyM x (x.1 149 (5 * t + s)) && decide (x.1 145 (xi (x.1 149 (5 * t + s))) = 0)) <;> cases sndR x S t s (x.1 149 (5 * t + s)) (x.1 148 (5 * t + s)) <;> rfl
theorem s68_55 (hC : ICat S B x) (hR : IRng c B (x.1 140) x) {s : Nat} (hs5 : s < 5) : ∀ i n h, i ≤ 4 → i < n → SB 2 x h → (∀ a, 139 ≤ a → a ≤ 186 → h.1 a = x.1 a) → (∀ t, t < i → ∀ u, u < 5 → h.1 (60 + 8 * t + 1) u = x.1 147 (5 * t + u) ∧ h.1 (60 + 8 * t + 2) u = x.1 148 (5 * t + u) ∧ h.1 (60 + 8 * t + 3) u = x.1 149 (5 * t + u)) → h.1 (93 + s) 3 = 0 → ∃ y, gm68_55 n (zI s) (93 + s) (zI i - 1) h = gm68_109 (93 + s) y ∧ CB x h y s (bck x S s i) i ∧ SB 2 x y
  | _, 0, _, _, hn, _, _, _, _ => by omega
  | 0, n + 1, h, hi, hn, e, hm, hv, h3 => by
    refine ⟨h, ?_, ⟨fun t u _ => ?_, fun t u _ => ?_, fun a _ _ => rfl, ?_, ?_, fun k _ _ => rfl, rfl⟩, e⟩
    · rw [gm68_55, if_pos (by decide)]
    · rw [if_neg (by omega)]
    · rw [if_neg (by omega)]
    · rw [if_neg (by omega)]
    · rw [if_pos (show bck x S s 0 = 0 from rfl)]
  | i + 1, n + 1, h, hi, hn, e, hm, hv, h3 => by
    have g : zI (i + 1) - 1 = zI i := zI_sub (a := i + 1) (b := 1) (by omega)
    have j4 : aIn (zI i) 4 = true := aIn_t (by omega) (by omega)
    have j5 : aIn (zI s) 5 = true := aIn_t (by omega) (by omega)
    have xs : xi (zI s) = s := xi_zI (by omega)
    have xi' : xi (zI i) = i := xi_zI (by omega)
    have ng : ¬ zI i < 0 := by rw [show (0 : Int32) = zI 0 from rfl, zI_lt (by omega) (by omega)]; omega
    have a1 := s110 hC hR hs5 (show i < 4 by omega) e hm (hv i (by omega))
    have o9 : own (93 + s) = 2 := by unfold own; rw [if_neg (by omega), if_neg (by omega), if_neg (by omega), if_pos (by omega)]
    have ok : ∀ k, k < 8 → own (60 + 8 * i + k) = 2 := by
      intro k hk
      unfold own; rw [if_neg (by omega), if_neg (by omega), if_neg (by omega), if_pos (by omega)]
    rw [g, gm68_55, if_neg ng, if_pos h3, j4, cond_true, xi', a1, Option.bind_some, cond_true, bck]
    unfold gm68_103
    cases hq : okB x S s i with
    | false =>
      rw [if_pos ib_f, if_neg (by decide), m1_add]
      refine ⟨wI h (93 + s) 3 1, ?_, ⟨fun t u ht => ?_, fun t u ht => ?_, fun a ha h9 => wI_ne h9, ?_, ?_, fun k h1 h2 => wI_nj h2, rfl⟩, e.I (by omega) (Or.inl o9)⟩
      · cases n with
        | zero => omega
        | succ n =>
          rw [gm68_55]
          by_cases hz : zI i - 1 < 0
          · rw [if_pos hz]
          · rw [if_neg hz, if_neg (by rw [wI_j]; decide)]
      · rw [wI_ne (by omega), if_neg (by omega)]
      · rw [wI_ne (by omega), if_neg (by omega)]
      · rw [wI_nj (by decide), if_neg (by omega)]
      · rw [wI_j, if_neg (by omega)]
    | true =>
      have f3 := (hv i (by omega) s hs5).2.2
      have g51 : gm51 (60 + 8 * i) (zI s) h = some (wI (wI h (60 + 8 * i + 1) s (x.1 149 (5 * i + s))) (60 + 8 * i + 3) s (-1)) := by
        unfold gm51
        rw [j5, cond_true, cond_true, cond_true, xs, f3]
      rw [if_neg ib_t, if_pos rfl, g51, Option.bind_some, m1_add]
      have e2 : SB 2 x (wI (wI (wI h (60 + 8 * i + 1) s (x.1 149 (5 * i + s))) (60 + 8 * i + 3) s (-1)) (93 + s) 1 (zI i)) := by
        refine SB.I ?_ (by omega) (Or.inl o9)
        refine SB.I ?_ (by omega) (Or.inl (ok 3 (by decide)))
        refine SB.I ?_ (by omega) (Or.inl (ok 1 (by decide)))
        exact e
      have far : ∀ a, ¬ a = 60 + 8 * i + 1 → ¬ a = 60 + 8 * i + 3 → ¬ a = 93 + s → (wI (wI (wI h (60 + 8 * i + 1) s (x.1 149 (5 * i + s))) (60 + 8 * i + 3) s (-1)) (93 + s) 1 (zI i)).1 a = h.1 a := fun a m1 m2 m3 => by rw [wI_ne m3, wI_ne m2, wI_ne m1]
      have c1 : ∀ u, (wI (wI (wI h (60 + 8 * i + 1) s (x.1 149 (5 * i + s))) (60 + 8 * i + 3) s (-1)) (93 + s) 1 (zI i)).1 (60 + 8 * i + 1) u = if u = s then x.1 149 (5 * i + s) else h.1 (60 + 8 * i + 1) u := fun u => by rw [wI_ne (by omega), wI_ne (by omega), wI_at]
      have c3 : ∀ u, (wI (wI (wI h (60 + 8 * i + 1) s (x.1 149 (5 * i + s))) (60 + 8 * i + 3) s (-1)) (93 + s) 1 (zI i)).1 (60 + 8 * i + 3) u = if u = s then -1 else h.1 (60 + 8 * i + 3) u := fun u => by rw [wI_ne (by omega), wI_at, wI_ne (by omega)]
      have c9 : ∀ k, (wI (wI (wI h (60 + 8 * i + 1) s (x.1 149 (5 * i + s))) (60 + 8 * i + 3) s (-1)) (93 + s) 1 (zI i)).1 (93 + s) k = if k = 1 then zI i else h.1 (93 + s) k := fun k => by rw [wI_at, wI_ne (by omega), wI_ne (by omega)]
      have cz : (wI (wI (wI h (60 + 8 * i + 1) s (x.1 149 (5 * i + s))) (60 + 8 * i + 3) s (-1)) (93 + s) 1 (zI i)).2 = h.2 := rfl
      generalize wI (wI (wI h (60 + 8 * i + 1) s (x.1 149 (5 * i + s))) (60 + 8 * i + 3) s (-1)) (93 + s) 1 (zI i) = w at e2 far c1 c3 c9 cz
      obtain ⟨y, y1, ⟨d1, d2, d3, d4, d5, d6, d7⟩, y3⟩ := s68_55 hC hR hs5 i n w (by omega) (by omega) e2 (fun a h1 h2 => by rw [far a (by omega) (by omega) (by omega)]; exact hm a h1 h2) (fun t ht u hu => by
        rw [far (60 + 8 * t + 1) (by omega) (by omega) (by omega), far (60 + 8 * t + 2) (by omega) (by omega) (by omega), far (60 + 8 * t + 3) (by omega) (by omega) (by omega)]
        exact hv t (by omega) u hu) (by rw [c9, if_neg (by decide)]; exact h3)
      have bl := bck_le x S s i
      refine ⟨y, y1, ⟨fun t u ht => ?_, fun t u ht => ?_, fun a ha h9 => ?_, ?_, ?_, fun k h1 h2 => ?_, ?_⟩, y3⟩
      · rw [d1 t u ht]
        by_cases hti : t = i
        · subst hti
          rw [if_neg (by omega), c1]
          by_cases hus : u = s
          · rw [if_pos hus, if_pos ⟨hus, by omega, by omega⟩]
          · rw [if_neg hus, if_neg (fun w => hus w.1)]
        · rw [far (60 + 8 * t + 1) (by omega) (by omega) (by omega)]
          by_cases hus : u = s ∧ bck x S s i ≤ t ∧ t < i
          · rw [if_pos hus, if_pos ⟨hus.1, hus.2.1, by omega⟩]
          · rw [if_neg hus, if_neg (fun w => hus ⟨w.1, w.2.1, by omega⟩)]
      · rw [d2 t u ht]
        by_cases hti : t = i
        · subst hti
          rw [if_neg (by omega), c3]
          by_cases hus : u = s
          · rw [if_pos hus, if_pos ⟨hus, by omega, by omega⟩]
          · rw [if_neg hus, if_neg (fun w => hus w.1)]
        · rw [far (60 + 8 * t + 3) (by omega) (by omega) (by omega)]
          by_cases hus : u = s ∧ bck x S s i ≤ t ∧ t < i
          · rw [if_pos hus, if_pos ⟨hus.1, hus.2.1, by omega⟩]
          · rw [if_neg hus, if_neg (fun w => hus ⟨w.1, w.2.1, by omega⟩)]
      · rw [d3 a ha h9]
        exact far a (ha i (by omega)).1 (ha i (by omega)).2 h9
      · rw [d4, c9, if_pos (show 1 = 1 from rfl), if_pos (show bck x S s i < i + 1 by omega)]
        by_cases hL : bck x S s i < i
        · rw [if_pos hL]
        · rw [if_neg hL, show bck x S s i = i by omega]
      · rw [d5, c9, if_neg (show ¬ (3 = 1) by decide)]
      · rw [d6 k h1 h2, c9, if_neg h1]
      · rw [d7, cz]
def MB (x h y : Hs) (s L R : Nat) : Prop :=
  (∀ k, y.1 147 k = if k % 5 = s ∧ L ≤ k / 5 ∧ k / 5 < R then x.1 149 k else h.1 147 k) ∧
  (∀ k, y.1 149 k = if k % 5 = s ∧ L ≤ k / 5 ∧ k / 5 < R then -1 else h.1 149 k) ∧
  (∀ a, ¬ a = 147 → ¬ a = 149 → y.1 a = h.1 a) ∧ y.2 = h.2
theorem s141_108 (hC : ICat S B x) (hR : IRng c B (x.1 140) x) {s : Nat} (hs5 : s < 5) (b : Int32) : ∀ i n h, i ≤ 4 → i + 1 < n → MC S B h → (∀ a, 139 ≤ a → a ≤ 146 → h.1 a = x.1 a) → (∀ t, t < i → ∀ u, u < 5 → h.1 147 (5 * t + u) = x.1 147 (5 * t + u) ∧ h.1 148 (5 * t + u) = x.1 148 (5 * t + u) ∧ h.1 149 (5 * t + u) = x.1 149 (5 * t + u)) → ∃ y, gm141_108 n (zI s) b 1 (zI i) h = gm141_215 (zI s) b (zI (bck x S s i)) y ∧ MB x h y s (bck x S s i) i
  | _, 0, _, _, hn, _, _, _ => by omega
  | 0, n + 1, h, hi, hn, hM, hm, hv => by
    refine ⟨h, ?_, ⟨fun k => ?_, fun k => ?_, fun a _ _ => rfl, rfl⟩⟩
    · rw [gm141_108, if_pos (by decide)]
      rfl
    · rw [if_neg (by omega)]
    · rw [if_neg (by omega)]
  | i + 1, n + 1, h, hi, hn, hM, hm, hv => by
    have hk := hC.1
    have g : zI (i + 1) - 1 = zI i := zI_sub (a := i + 1) (b := 1) (by omega)
    have ng : ¬ zI (i + 1) ≤ 0 := by rw [show (0 : Int32) = zI 0 from rfl, zI_le (by omega) (by omega)]; omega
    have j20 : aIn (zI (5 * i + s)) 20 = true := aIn_t (by omega) (by omega)
    have xk : xi (zI (5 * i + s)) = 5 * i + s := xi_zI (by omega)
    have ix : 5 * zI i + zI s = zI (5 * i + s) := by rw [show (5 : Int32) = zI 5 from rfl, zI_mul, zI_add]
    obtain ⟨_, _, ⟨v1, v2, v3⟩, _⟩ := hR.1 i (by omega) s hs5
    have a1 := s133g hM (show i < 4 by omega) hs5 (run := fun u => x.1 147 (5 * i + u)) (can := fun u => x.1 148 (5 * i + u)) (fun u hu => ⟨(hv i (by omega) u hu).1, by rw [hm 140 (by decide) (by decide)]; exact (hR.1 i (by omega) u hu).2.2.1.1⟩) (fun u hu => ⟨(hv i (by omega) u hu).2.1, by rw [hm 140 (by decide) (by decide)]; exact (hR.1 i (by omega) u hu).2.2.1.2.1⟩) (w1 := x.1 149 (5 * i + s)) (w2 := x.1 148 (5 * i + s)) (by rw [hm 140 (by decide) (by decide)]; exact v3) (by rw [hm 140 (by decide) (by decide)]; exact v2)
    rw [soundM_cg (x := x) (fun a h1 h2 => hm a h1 (by omega))] at a1
    have a2 : gm133 (zI (5 * i + s)) (x.1 149 (5 * i + s)) (x.1 148 (5 * i + s)) h = some (b2i (sndR x S i s (x.1 149 (5 * i + s)) (x.1 148 (5 * i + s))), h) := a1
    have f148 := (hv i (by omega) s hs5).2.1
    have f149 := (hv i (by omega) s hs5).2.2
    -- one ring: it comes back, or the loop stops behind one more look
    have stp : gm141_108 (n + 1) (zI s) b 1 (zI (i + 1)) h = if okB x S s i = true then gm141_108 n (zI s) b 1 (zI i) (wI (wI h 147 (5 * i + s) (x.1 149 (5 * i + s))) 149 (5 * i + s) (-1)) else gm141_108 n (zI s) b 0 (zI (i + 1)) h := by
      rw [gm141_108, if_neg ng, if_neg (by decide)]
      unfold gm141_162 gm141_184 gm141_185 gm141_212 okB
      simp only [g, ix, j20, cond_true, xk, f149, f148, a2, Option.bind_some, m1_add, g, i10, ↓reduceIte]
      by_cases hf : x.1 149 (5 * i + s) = -1
      · rw [if_pos hf, decide_eq_true hf]
        cases sndR x S i s (x.1 149 (5 * i + s)) (x.1 148 (5 * i + s)) <;> rfl
      · have hB := (v3.resolve_left hf).1
        have a4 : gm130 (x.1 149 (5 * i + s)) h = some (b2i (rdyM x (x.1 149 (5 * i + s)))) := by
          rw [s130 (aIn_up hB hk.2)]
          unfold rdyM
          rw [hm 144 (by decide) (by decide), hm 146 (by decide) (by decide)]
        rw [if_neg hf, decide_eq_false hf, aIn_up hB hk.2, cond_true, hm 145 (by decide) (by decide), a4, Option.bind_some]
        by_cases hb : x.1 145 (xi (x.1 149 (5 * i + s))) = 0
        · rw [if_pos hb, decide_eq_true hb]
          cases rdyM x (x.1 149 (5 * i + s)) <;> cases sndR x S i s (x.1 149 (5 * i + s)) (x.1 148 (5 * i + s)) <;> rfl
        · rw [if_neg hb, decide_eq_false hb, Bool.and_false, Bool.false_or, Bool.false_and]
          rfl
    rw [stp, bck]
    cases hq : okB x S s i with
    | false =>
      rw [if_neg (by decide), if_neg (by decide)]
      refine ⟨h, ?_, ⟨fun k => ?_, fun k => ?_, fun a _ _ => rfl, rfl⟩⟩
      · cases n with
        | zero => omega
        | succ n => rw [gm141_108, if_neg ng, if_pos rfl]
      · rw [if_neg (by omega)]
      · rw [if_neg (by omega)]
    | true =>
      rw [if_pos rfl, if_pos rfl]
      have e147 : ∀ k, (wI (wI h 147 (5 * i + s) (x.1 149 (5 * i + s))) 149 (5 * i + s) (-1)).1 147 k = if k = 5 * i + s then x.1 149 (5 * i + s) else h.1 147 k := fun k => by rw [wI_ne (by decide), wI_at]
      have e149 : ∀ k, (wI (wI h 147 (5 * i + s) (x.1 149 (5 * i + s))) 149 (5 * i + s) (-1)).1 149 k = if k = 5 * i + s then -1 else h.1 149 k := fun k => by rw [wI_at, wI_ne (by decide)]
      have far : ∀ a, ¬ a = 147 → ¬ a = 149 → (wI (wI h 147 (5 * i + s) (x.1 149 (5 * i + s))) 149 (5 * i + s) (-1)).1 a = h.1 a := fun a m1 m2 => by rw [wI_ne m2, wI_ne m1]
      have cz : (wI (wI h 147 (5 * i + s) (x.1 149 (5 * i + s))) 149 (5 * i + s) (-1)).2 = h.2 := rfl
      have hM2 : MC S B (wI (wI h 147 (5 * i + s) (x.1 149 (5 * i + s))) 149 (5 * i + s) (-1)) := hM.of rfl rfl rfl rfl
      generalize wI (wI h 147 (5 * i + s) (x.1 149 (5 * i + s))) 149 (5 * i + s) (-1) = w at e147 e149 far cz hM2
      obtain ⟨y, y1, d1, d2, d3, d4⟩ := s141_108 hC hR hs5 b i n w (by omega) (by omega) hM2 (fun a h1 h2 => by rw [far a (by omega) (by omega)]; exact hm a h1 h2) (fun t ht u hu => by
        rw [e147, e149, far 148 (by decide) (by decide), if_neg (by omega), if_neg (by omega)]
        exact hv t (by omega) u hu)
      have bl := bck_le x S s i
      refine ⟨y, y1, fun k => ?_, fun k => ?_, fun a h1 h2 => ?_, ?_⟩
      · rw [d1, e147]
        by_cases hki : k = 5 * i + s
        · rw [if_neg (by omega), if_pos hki, if_pos (by omega), hki]
        · rw [if_neg hki]
          by_cases hus : k % 5 = s ∧ bck x S s i ≤ k / 5 ∧ k / 5 < i
          · rw [if_pos hus, if_pos ⟨hus.1, hus.2.1, by omega⟩]
          · rw [if_neg hus, if_neg (fun w => hus ⟨w.1, w.2.1, by omega⟩)]
      · rw [d2, e149]
        by_cases hki : k = 5 * i + s
        · rw [if_neg (by omega), if_pos hki, if_pos (by omega)]
        · rw [if_neg hki]
          by_cases hus : k % 5 = s ∧ bck x S s i ≤ k / 5 ∧ k / 5 < i
          · rw [if_pos hus, if_pos ⟨hus.1, hus.2.1, by omega⟩]
          · rw [if_neg hus, if_neg (fun w => hus ⟨w.1, w.2.1, by omega⟩)]
      · rw [d3 a h1 h2]
        exact far a h1 h2
      · rw [d4, cz]
end BACK
