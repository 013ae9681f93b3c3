/-! The class's search: how it begins and ends -/
section BEG
variable {S B : Nat} {its : Nat → Int32}
def plOk (its : Nat → Int32) (B s i : Nat) (y : Hs) : Prop := ∀ b, b < B → (∃ t, its b = zI t ∧ (t < s ∨ (t = s ∧ b < i))) → y.1 131 b = zI (plA its b * wtB its B (xi (its b)))
theorem s41_14 (hB : B ≤ 24) (hi5 : ∀ b, b < B → aIn (its b) 5 = true) (k4 : Int32 → Int32 → Hs → Option Hs) {s : Nat} (hs : s < 5) :
    ∀ d i n y, i + d = B → d < n → (y.1 2 1 = zI B ∧ y.1 4 = its) → plOk its B s i y → ∃ z, gm41_14 k4 n (zI (wtB its B s)) (zI s) (zI (cnA its s i)) (zI i) y = k4 (zI (wtB its B (s + 1))) (zI (s + 1)) z ∧ plOk its B (s + 1) 0 z ∧ (∀ a, ¬ a = 131 → z.1 a = y.1 a) ∧ z.2 = y.2 := by
  intro d
  induction d with
  | zero =>
    intro i n y hi hn hc hy
    obtain ⟨n, rfl⟩ : ∃ m, n = m + 1 := ⟨n - 1, by omega⟩
    have hi : i = B := by omega
    subst hi
    refine ⟨y, ?_, fun b hb ⟨t, e, w⟩ => hy b hb ⟨t, e, by omega⟩, fun _ _ => rfl, rfl⟩
    rw [gm41_14.eq_2, hc.1, if_pos (by rw [zI_ge (by omega) (by omega)]; omega)]
    unfold gm41_59
    rw [zI_succ, zI_mul, zI_succ]
    rfl
  | succ d ih =>
    intro i n y hi hn hc hy
    obtain ⟨n, rfl⟩ : ∃ m, n = m + 1 := ⟨n - 1, by omega⟩
    have n1 : ¬ zI i ≥ zI B := by rw [zI_ge (by omega) (by omega)]; omega
    have i24 : aIn (zI i) 24 = true := aIn_t (by omega) (by omega)
    have xi' : xi (zI i) = i := xi_zI (by omega)
    have e0 : cnA its s (i + 1) = cnA its s i + if its i = zI s then 1 else 0 := rfl
    by_cases w : its i = zI s
    · rw [if_pos w] at e0
      have pe : plA its i = cnA its s i + 1 := by unfold plA; rw [w, xi_zI (by omega)]
      obtain ⟨z, z1, z2, z3, z4⟩ := ih (i + 1) n (wI y 131 i (zI ((cnA its s i + 1) * wtB its B s))) (by omega) (by omega) ⟨by rw [wI_ne (by decide)]; exact hc.1, by rw [wI_ne (by decide)]; exact hc.2⟩ (fun b hb ⟨t, et, ht⟩ => by
        rw [wI_at]
        by_cases q : b = i
        · rw [if_pos q, q, pe, w, xi_zI (by omega)]
        · rw [if_neg q]
          exact hy b hb ⟨t, et, by omega⟩)
      refine ⟨z, ?_, z2, fun a ha => by rw [z3 a ha, wI_ne ha], z4⟩
      rw [← z1, e0, gm41_14.eq_2, hc.1, if_neg n1, i24, cond_true, xi', hc.2, if_pos w, cond_true, zI_succ, zI_mul]
      unfold gm41_53
      rw [zI_succ]
    · rw [if_neg w] at e0
      obtain ⟨z, z1, z2, z3, z4⟩ := ih (i + 1) n y (by omega) (by omega) hc (fun b hb ⟨t, et, ht⟩ => by
        by_cases q : b = i
        · subst q
          obtain ⟨t', ht', et'⟩ := aIn_ex (hi5 b hb)
          by_cases r : t = s
          · rw [r] at et
            exact absurd et w
          · exact hy b hb ⟨t, et, by omega⟩
        · exact hy b hb ⟨t, et, by omega⟩)
      refine ⟨z, ?_, z2, z3, z4⟩
      rw [← z1, e0, gm41_14.eq_2, hc.1, if_neg n1, i24, cond_true, xi', hc.2, if_neg w, Nat.add_zero]
      unfold gm41_53
      rw [zI_succ]
theorem s41_4 (hB : B ≤ 24) (hi5 : ∀ b, b < B → aIn (its b) 5 = true) : ∀ d s n y, s + d = 5 → d < n → (y.1 2 1 = zI B ∧ y.1 4 = its) → plOk its B s 0 y → ∃ z, gm41_4 n (zI (wtB its B s)) (zI s) y = some z ∧ plOk its B 5 0 z ∧ (∀ a, ¬ a = 131 → z.1 a = y.1 a) ∧ z.2 = y.2 := by
  intro d
  induction d with
  | zero =>
    intro s n y hs hn hc hy
    obtain ⟨n, rfl⟩ : ∃ m, n = m + 1 := ⟨n - 1, by omega⟩
    have hs : s = 5 := by omega
    subst hs
    exact ⟨y, by rw [gm41_4.eq_2, if_pos (by decide)], hy, fun _ _ => rfl, rfl⟩
  | succ d ih =>
    intro s n y hs hn hc hy
    obtain ⟨n, rfl⟩ : ∃ m, n = m + 1 := ⟨n - 1, by omega⟩
    have n1 : ¬ zI s ≥ 5 := by rw [show (5 : Int32) = zI 5 from rfl, zI_ge (by omega) (by omega)]; omega
    obtain ⟨z, z1, z2, z3, z4⟩ := s41_14 hB hi5 (gm41_4 n) (s := s) (by omega) B 0 FU y (by omega) (by unfold FU; omega) hc hy
    obtain ⟨v, v1, v2, v3, v4⟩ := ih (s + 1) n z (by omega) (by omega) ⟨by rw [z3 2 (by decide)]; exact hc.1, by rw [z3 4 (by decide)]; exact hc.2⟩ z2
    refine ⟨v, ?_, v2, fun a ha => by rw [v3 a ha, z3 a ha], v4.trans z4⟩
    rw [← v1, ← z1, gm41_4.eq_2, if_neg n1]
    rfl
theorem s41 (hB : B ≤ 24) (hi5 : ∀ b, b < B → aIn (its b) 5 = true) {y : Hs} (hc : y.1 2 1 = zI B ∧ y.1 4 = its) : ∃ z, gm41 y = some z ∧ (∀ b, b < B → z.1 131 b = zI (plA its b * wtB its B (xi (its b)))) ∧ (∀ a, ¬ a = 131 → z.1 a = y.1 a) ∧ z.2 = y.2 := by
  obtain ⟨z, z1, z2, z3, z4⟩ := s41_4 hB hi5 5 0 FU y (by omega) (by unfold FU; omega) hc (fun b hb ⟨t, _, ht⟩ => by omega)
  refine ⟨z, z1, fun b hb => ?_, z3, z4⟩
  obtain ⟨t, ht, et⟩ := aIn_ex (hi5 b hb)
  exact z2 b hb ⟨t, et, Or.inl ht⟩
theorem rdy_sb {x y : Hs} (e : SB 8 x y) (a : Int32) : rdyM y a = rdyM x a := by
  unfold rdyM
  rw [e.c 144 (by decide) (by decide) (by decide), e.c 146 (by decide) (by decide) (by decide)]
theorem s42_7 {x : Hs} (hC : ICat S B x) : ∀ d i n y, i + d = B → d < n → SB 8 x y → (∀ k, k < 32 → bt (y.1 130 9) k = (decide (k < i) && rdB x k)) → ∃ z, gm42_7 n (zI i) y = some z ∧ (∀ k, k < 32 → bt (z.1 130 9) k = (decide (k < B) && rdB x k)) ∧ (∀ a, ¬ a = 130 → z.1 a = y.1 a) ∧ (∀ k, ¬ k = 9 → z.1 130 k = y.1 130 k) ∧ z.2 = y.2 := by
  have hk := hC.1
  intro d
  induction d with
  | zero =>
    intro i n y hi hn e hy
    obtain ⟨n, rfl⟩ : ∃ m, n = m + 1 := ⟨n - 1, by omega⟩
    have hi : i = B := by omega
    subst hi
    refine ⟨y, ?_, hy, fun _ _ => rfl, fun _ _ => rfl, rfl⟩
    rw [gm42_7.eq_2, (hC.fr e (by decide)).2.1.2.2.1, if_pos (by rw [zI_ge (by omega) (by omega)]; omega)]
  | succ d ih =>
    intro i n y hi hn e hy
    obtain ⟨n, rfl⟩ : ∃ m, n = m + 1 := ⟨n - 1, by omega⟩
    have n1 : ¬ zI i ≥ zI B := by rw [zI_ge (by omega) (by omega)]; omega
    have hCy := hC.fr e (by decide)
    have q12 := s12 hCy (a := zI i) (aIn_t (show i < B by omega) (by omega))
    have er : (rdyM y (zI i) && decide (y.1 145 (xi (zI i)) = 0)) = rdB x i := by
      unfold rdB
      rw [rdy_sb e, e.c 145 (by decide) (by decide) (by decide), xi_zI (by omega)]
    rw [er] at q12
    cases r : rdB x i with
    | false =>
      obtain ⟨z, z1, z2⟩ := ih (i + 1) n y (by omega) (by omega) e (fun k hk => by
        rw [hy k hk]
        by_cases w : k = i
        · rw [w, r, Bool.and_false, Bool.and_false]
        · congr 1
          rw [Bool.eq_iff_iff, decide_eq_true_eq, decide_eq_true_eq]
          omega)
      refine ⟨z, ?_, z2⟩
      rw [← z1, gm42_7.eq_2, hCy.2.1.2.2.1, if_neg n1, q12, r, Option.bind_some, if_pos ib_f, ← zI_succ]
      rfl
    | true =>
      obtain ⟨z, z1, z2, z3, z4, z5⟩ := ih (i + 1) n (wI y 130 9 (y.1 130 9 ||| (1 <<< (zI i &&& 31)))) (by omega) (by omega) (e.I (by decide) (Or.inl rfl)) (fun k hk => by
        rw [wI_j, bt_or, hy k hk, bt_one31 (by omega)]
        by_cases w : k = i
        · rw [w, r, decide_eq_true rfl, Bool.or_true, Bool.and_true, decide_eq_true (by omega)]
        · rw [decide_eq_false w, Bool.or_false]
          congr 1
          rw [Bool.eq_iff_iff, decide_eq_true_eq, decide_eq_true_eq]
          omega)
      refine ⟨z, ?_, z2, fun a ha => by rw [z3 a ha, wI_ne ha], fun k hk => by rw [z4 k hk, wI_nj hk], z5⟩
      rw [← z1, gm42_7.eq_2, hCy.2.1.2.2.1, if_neg n1, q12, r, Option.bind_some, if_neg ib_t, ← zI_succ]
      rfl
theorem s42 {x : Hs} (hC : ICat S B x) {y : Hs} (e : SB 8 x y) : ∃ z, gm42 y = some z ∧ (∀ k, k < 32 → bt (z.1 130 9) k = (decide (k < B) && rdB x k)) ∧ (∀ a, ¬ a = 130 → z.1 a = y.1 a) ∧ (∀ k, ¬ k = 9 → z.1 130 k = y.1 130 k) ∧ z.2 = y.2 := by
  obtain ⟨z, z1, z2, z3, z4, z5⟩ := s42_7 hC B 0 FU (wI y 130 9 0) (by omega) (by have := hC.1; unfold FU; omega) (e.I (by decide) (Or.inl rfl)) (fun k hk => by
    rw [wI_j, bt_0, decide_eq_false (Nat.not_lt_zero k), Bool.false_and])
  exact ⟨z, z1, z2, fun a ha => by rw [z3 a ha, wI_ne ha], fun k hk => by rw [z4 k hk, wI_nj hk], z5⟩
theorem s38_33 {σ : Nat → Int32} (hB : B ≤ 24) (hv : vSt B its σ) {q1 : Nat} (a2 : Int32) {y : Hs} (hq : ∀ s, s < 5 → y.1 q1 s = σ s) : ∀ d i n v, i + d = 5 → d < n → (∀ k, k < 32 → (bt v k = true ↔ ∃ s, s < i ∧ σ s = zI k)) → ∃ w, gm38_33 n q1 a2 v (zI i) y = gm38_66 a2 w y ∧ BitsOf B its w σ := by
  intro d
  induction d with
  | zero =>
    intro i n v hi hn h
    obtain ⟨n, rfl⟩ : ∃ m, n = m + 1 := ⟨n - 1, by omega⟩
    have hi : i = 5 := by omega
    subst hi
    refine ⟨v, by rw [gm38_33.eq_2, if_pos (by decide)], fun k hk => ?_⟩
    rw [h k hk]
    constructor
    · rintro ⟨s, hs, e⟩
      rcases hv.1 s hs with w | ⟨w1, w2⟩
      · rw [w] at e
        exact absurd e.symm (zI_ne_m1 (by omega))
      · rw [e, aIn_zI (by omega)] at w1
        rw [e, xi_zI (by omega)] at w2
        refine ⟨of_decide_eq_true w1, ?_⟩
        rw [w2, xi_zI (by omega)]
        exact e
    · rintro ⟨hk1, e⟩
      refine ⟨xi (its k), ?_, e⟩
      by_cases w : xi (its k) < 5
      · exact w
      · rw [hv.2 _ (by omega)] at e
        exact absurd e.symm (zI_ne_m1 (by omega))
  | succ d ih =>
    intro i n v hi hn h
    obtain ⟨n, rfl⟩ : ∃ m, n = m + 1 := ⟨n - 1, by omega⟩
    have n1 : ¬ zI i ≥ 5 := by rw [show (5 : Int32) = zI 5 from rfl, zI_ge (by omega) (by omega)]; omega
    have i5 : aIn (zI i) 5 = true := aIn_t (by omega) (by omega)
    have xi' : xi (zI i) = i := xi_zI (by omega)
    by_cases w : σ i = -1
    · obtain ⟨u, u1, u2⟩ := ih (i + 1) n v (by omega) (by omega) (fun k hk => by
        rw [h k hk]
        constructor
        · rintro ⟨s, hs, e⟩; exact ⟨s, by omega, e⟩
        · rintro ⟨s, hs, e⟩
          by_cases q : s = i
          · rw [q, w] at e
            exact absurd e.symm (zI_ne_m1 (by omega))
          · exact ⟨s, by omega, e⟩)
      refine ⟨u, ?_, u2⟩
      rw [← u1, gm38_33.eq_2, if_neg n1, i5, cond_true, xi', hq i (by omega), if_pos w]
      unfold gm38_58
      rw [zI_succ, Int32.or_zero]
    · obtain ⟨a1, a2'⟩ := (hv.1 i (by omega)).resolve_left w
      obtain ⟨o, ho, eo⟩ := aIn_ex a1
      obtain ⟨u, u1, u2⟩ := ih (i + 1) n (v ||| (1 <<< (σ i &&& 31))) (by omega) (by omega) (fun k hk => by
        rw [bt_or, eo, bt_one31 (by omega), Bool.or_eq_true, h k hk, decide_eq_true_eq]
        constructor
        · rintro (⟨s, hs, e⟩ | e)
          · exact ⟨s, by omega, e⟩
          · exact ⟨i, by omega, by rw [eo, e]⟩
        · rintro ⟨s, hs, e⟩
          by_cases q : s = i
          · rw [q, eo, zI_inj (by omega) (by omega)] at e
            exact Or.inr e.symm
          · exact Or.inl ⟨s, by omega, e⟩)
      refine ⟨u, ?_, u2⟩
      rw [← u1, gm38_33.eq_2, if_neg n1, i5, cond_true, cond_true, xi', hq i (by omega), if_neg w]
      unfold gm38_58
      rw [zI_succ]
/-- the way back from a state to the first one -/
def Chain (Q : Qu) (k C : Nat) (g : Nat → Nat) : Prop := C ≤ k ∧ g 0 = k ∧ g C = 0 ∧ ∀ j, j < C → 0 < g j ∧ g j < Q.n ∧ Q.fr (g j) = g (j + 1)
theorem chain_ex {σ0 : Nat → Int32} {Q : Qu} (hI : QI its B σ0 Q) : ∀ m k, k < m → k < Q.n → ∃ C g, Chain Q k C g
  | 0, _, h, _ => absurd h (Nat.not_lt_zero _)
  | m + 1, k, hm, hk => by
    rcases Nat.eq_zero_or_pos k with w | w
    · exact ⟨0, fun _ => 0, Nat.zero_le _, w.symm, rfl, fun j hj => absurd hj (Nat.not_lt_zero j)⟩
    · have hf := (hI.2.2.2 k w hk).1
      obtain ⟨C, g, c1, c2, c3, c4⟩ := chain_ex hI m (Q.fr k) (by omega) (by omega)
      refine ⟨C + 1, fun j => if j = 0 then k else g (j - 1), by omega, if_pos rfl, ?_, fun j hj => ?_⟩
      · simp only [Nat.add_sub_cancel, if_neg (Nat.succ_ne_zero C)]
        exact c3
      · by_cases q : j = 0
        · subst q
          simp only [if_pos, if_neg (Nat.succ_ne_zero 0), Nat.add_sub_cancel]
          exact ⟨w, hk, c2.symm⟩
        · simp only [if_neg q, if_neg (Nat.succ_ne_zero j), Nat.add_sub_cancel]
          have := c4 (j - 1) (by omega)
          rw [show j - 1 + 1 = j by omega] at this
          exact this
theorem s40_7 {Q : Qu} {k C : Nat} {g : Nat → Nat} (hc : Chain Q k C g) (hn : Q.n ≤ 6480) (hk : k < Q.n) {y : Hs} (hy : ∀ i, 0 < i → i < Q.n → y.1 134 i = zI (Q.fr i)) : ∀ d j n, j + d = C → d < n → gm40_7 n (zI j) (zI (g j)) y = some (zI C) := by
  obtain ⟨c1, c2, c3, c4⟩ := hc
  intro d
  induction d with
  | zero =>
    intro j n hj hn
    obtain ⟨n, rfl⟩ : ∃ m, n = m + 1 := ⟨n - 1, by omega⟩
    have hj : j = C := by omega
    subst hj
    rw [gm40_7.eq_2, c3, if_pos (by decide)]
  | succ d ih =>
    intro j n hj hn
    obtain ⟨n, rfl⟩ : ∃ m, n = m + 1 := ⟨n - 1, by omega⟩
    obtain ⟨d1, d2, d3⟩ := c4 j (by omega)
    have n1 : ¬ zI (g j) ≤ 0 := by rw [show (0 : Int32) = zI 0 from rfl, zI_le (by omega) (by omega)]; omega
    have n2 : ¬ zI j ≥ 6480 := by rw [show (6480 : Int32) = zI 6480 from rfl, zI_ge (by omega) (by omega)]; omega
    rw [gm40_7.eq_2, if_neg n1, if_neg n2, aIn_t (show g j < 6480 by omega) (by omega), cond_true, xi_zI (by omega), hy _ d1 d2, d3, zI_succ]
    exact ih (j + 1) n (by omega) (by omega)
end BEG
