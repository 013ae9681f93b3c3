/-! The reference's search: numbers of states -/
def RF (x y : Hs) : Prop := (∀ a, 139 ≤ a → a ≤ 181 → y.1 a = x.1 a) ∧ y.1 138 1 = x.1 138 1 ∧ y.1 138 3 = x.1 138 3
theorem RF.to {x y z : Hs} (h : RF x y) (h1 : ∀ a, a < 183 → z.1 a = y.1 a) : RF x z := ⟨fun a a1 a2 => by rw [h1 a (by omega)]; exact h.1 a a1 a2, by rw [h1 138 (by decide)]; exact h.2.1, by rw [h1 138 (by decide)]; exact h.2.2⟩
section REF
variable {S B : Nat} {x y : Hs} {σ : Nat → Int32}
theorem s172_4 (hM : MC S B x) (h : RF x y) {s : Nat} (hs : s < 5) : ∀ d i n, i + d = B → d < n → gm172_4 n (zI s) (zI (cnA (x.1 140) s i)) (zI i) y = some (zI (cnA (x.1 140) s B)) := by
  obtain ⟨⟨k1, k2⟩, m1, m3, hit, hbd⟩ := hM
  intro d
  induction d with
  | zero =>
    intro i n hi hn
    obtain ⟨n, rfl⟩ : ∃ m, n = m + 1 := ⟨n - 1, by omega⟩
    have hi : i = B := by omega
    subst hi
    rw [gm172_4.eq_2, h.2.2, m3, if_pos (by rw [zI_ge (by omega) (by omega)]; omega)]
  | succ d ih =>
    intro i n hi hn
    obtain ⟨n, rfl⟩ : ∃ m, n = m + 1 := ⟨n - 1, by omega⟩
    have n1 : ¬ zI i ≥ zI B := by rw [zI_ge (by omega) (by omega)]; omega
    have e0 : cnA (x.1 140) s (i + 1) = cnA (x.1 140) s i + if x.1 140 i = zI s then 1 else 0 := rfl
    have ih := ih (i + 1) n (by omega) (by omega)
    rw [gm172_4.eq_2, h.2.2, m3, if_neg n1, aIn_t (show i < 24 by omega) (by omega), cond_true, xi_zI (by omega), h.1 140 (by decide) (by decide)]
    unfold gm172_28
    rw [zI_succ]
    by_cases w : x.1 140 i = zI s
    · rw [if_pos w] at e0
      rw [e0] at ih
      rw [if_pos w, zI_succ]
      exact ih
    · rw [if_neg w] at e0
      rw [e0, Nat.add_zero] at ih
      rw [if_neg w, Int32.add_zero, zI_succ]
      exact ih
theorem s172 (hM : MC S B x) (h : RF x y) {s : Nat} (hs : s < 5) : gm172 (zI s) y = some (zI (cnA (x.1 140) s B)) := s172_4 hM h hs B 0 FU (by omega) (by have := hM.1; unfold FU; omega)
theorem s171_4 (hM : MC S B x) (h : RF x y) {b t : Nat} (hb : b < B) (ht : t < 5) (et : x.1 140 b = zI t) : ∀ d i n, i + d = b → d < n → gm171_4 n (zI b) (zI (cnA (x.1 140) t i + 1)) (zI i) y = some (zI (plA (x.1 140) b)) := by
  obtain ⟨⟨k1, k2⟩, m1, m3, hit, hbd⟩ := hM
  intro d
  induction d with
  | zero =>
    intro i n hi hn
    obtain ⟨n, rfl⟩ : ∃ m, n = m + 1 := ⟨n - 1, by omega⟩
    have hi : i = b := by omega
    subst hi
    unfold plA
    rw [et, xi_zI (show t < 2147483648 by omega), gm171_4.eq_2, if_pos (by rw [zI_ge (by omega) (by omega)]; omega)]
  | succ d ih =>
    intro i n hi hn
    obtain ⟨n, rfl⟩ : ∃ m, n = m + 1 := ⟨n - 1, by omega⟩
    have n1 : ¬ zI i ≥ zI b := by rw [zI_ge (by omega) (by omega)]; omega
    have e0 : cnA (x.1 140) t (i + 1) = cnA (x.1 140) t i + if x.1 140 i = zI t then 1 else 0 := rfl
    have ih := ih (i + 1) n (by omega) (by omega)
    rw [gm171_4.eq_2, if_neg n1, aIn_t (show i < 24 by omega) (by omega), cond_true, aIn_t (show b < 24 by omega) (by omega), cond_true, xi_zI (show i < 2147483648 by omega), xi_zI (show b < 2147483648 by omega), h.1 140 (by decide) (by decide), et]
    unfold gm171_30
    rw [zI_succ]
    by_cases w : x.1 140 i = zI t
    · rw [if_pos w] at e0
      rw [e0] at ih
      rw [if_pos w, zI_succ]
      exact ih
    · rw [if_neg w] at e0
      rw [e0, Nat.add_zero] at ih
      rw [if_neg w, Int32.add_zero, zI_succ]
      exact ih
theorem s171 (hM : MC S B x) (h : RF x y) {b : Nat} (hb : b < B) : gm171 (zI b) y = some (zI (plA (x.1 140) b)) := by
  obtain ⟨t, ht, et⟩ := aIn_ex (aIn_up (hM.2.2.2.1 b hb) hM.1.1)
  exact s171_4 hM h hb ht et b 0 FU (by omega) (by have := hM.1; unfold FU; omega)
theorem s173_4 (hM : MC S B x) (h : RF x y) (hv : vSt B (x.1 140) σ) (hσ : ∀ s, s < S → y.1 186 s = σ s) : ∀ d i n, i + d = S → d < n → gm173_4 n (zI (cdL (dgA (x.1 140) σ) (fun s => cnA (x.1 140) s B) i)) (zI i) y = some (zI (codS S B (x.1 140) σ)) := by
  have hM0 := hM
  obtain ⟨⟨k1, k2⟩, m1, m3, hit, hbd⟩ := hM
  intro d
  induction d with
  | zero =>
    intro i n hi hn
    obtain ⟨n, rfl⟩ : ∃ m, n = m + 1 := ⟨n - 1, by omega⟩
    have hi : i = S := by omega
    subst hi
    rw [gm173_4.eq_2, h.2.1, m1, if_pos (by rw [zI_ge (by omega) (by omega)]; omega)]
    rfl
  | succ d ih =>
    intro i n hi hn
    obtain ⟨n, rfl⟩ : ∃ m, n = m + 1 := ⟨n - 1, by omega⟩
    have n1 : ¬ zI i ≥ zI S := by rw [zI_ge (by omega) (by omega)]; omega
    have ih := ih (i + 1) n (by omega) (by omega)
    have e0 : cdL (dgA (x.1 140) σ) (fun s => cnA (x.1 140) s B) (i + 1) = cdL (dgA (x.1 140) σ) (fun s => cnA (x.1 140) s B) i * (cnA (x.1 140) i B + 1) + dgA (x.1 140) σ i := rfl
    rw [e0, ← zI_add, ← zI_mul] at ih
    rw [gm173_4.eq_2, h.2.1, m1, if_neg n1, s172 hM0 h (by omega), Option.bind_some, aIn_t (show i < 5 by omega) (by omega), cond_true, cond_true, xi_zI (by omega), hσ i (by omega), zI_succ]
    unfold gm173_45
    rw [zI_succ]
    by_cases w : σ i = -1
    · have d0 : dgA (x.1 140) σ i = 0 := by unfold dgA; rw [if_pos w]
      rw [d0] at ih
      rw [if_pos w]
      exact ih
    · obtain ⟨o, ho, eo⟩ := aIn_ex ((hv.1 i (by omega)).resolve_left w).1
      have d0 : dgA (x.1 140) σ i = plA (x.1 140) o := by unfold dgA; rw [if_neg w, eo, xi_zI (by omega)]
      rw [d0] at ih
      rw [if_neg w, eo, s171 hM0 h ho, Option.bind_some]
      exact ih
theorem s173 (hM : MC S B x) (h : RF x y) (hv : vSt B (x.1 140) σ) (hσ : ∀ s, s < S → y.1 186 s = σ s) : gm173 y = some (zI (codS S B (x.1 140) σ)) := s173_4 hM h hv hσ S 0 FU (by omega) (by have := hM.1; unfold FU; omega)
theorem s174_44 (hM : MC S B x) (hv : vSt B (x.1 140) σ) (k9 : Int32 → Int32 → Hs → Option Hs) (a2 : Int32) {s : Nat} (hs : s < S) : ∀ d i n y, i + d = B → d < n → RF x y → y.1 186 s = ptA σ i s → ∃ z, gm174_44 k9 n a2 (zI s) (zI (dgA (x.1 140) σ s)) (zI i) y = k9 a2 (zI s + (-1)) z ∧ z.1 186 s = σ s ∧ (∀ k, ¬ k = s → z.1 186 k = y.1 186 k) ∧ (∀ a, ¬ a = 186 → z.1 a = y.1 a) ∧ z.2 = y.2 := by
  have hM0 := hM
  obtain ⟨⟨k1, k2⟩, m1, m3, hit, hbd⟩ := hM
  intro d
  induction d with
  | zero =>
    intro i n y hi hn h hy
    obtain ⟨n, rfl⟩ : ∃ m, n = m + 1 := ⟨n - 1, by omega⟩
    have hi : i = B := by omega
    subst hi
    refine ⟨y, ?_, by rw [hy, pt_B hv], fun _ _ => rfl, fun _ _ => rfl, rfl⟩
    rw [gm174_44.eq_2, h.2.2, m3, if_pos (by rw [zI_ge (by omega) (by omega)]; omega)]
    rfl
  | succ d ih =>
    intro i n y hi hn h hy
    obtain ⟨n, rfl⟩ : ∃ m, n = m + 1 := ⟨n - 1, by omega⟩
    have n1 : ¬ zI i ≥ zI B := by rw [zI_ge (by omega) (by omega)]; omega
    have s5 : aIn (zI s) 5 = true := aIn_t (by omega) (by omega)
    have xs : xi (zI s) = s := xi_zI (by omega)
    have dl : dgA (x.1 140) σ s < 2147483648 := by
      have a1 := dgA_le hv s
      have a2 := cnA_le (x.1 140) s B
      omega
    have pl : plA (x.1 140) i < 2147483648 := by
      have a2 := cnA_le (x.1 140) (xi (x.1 140 i)) i
      unfold plA
      omega
    have go : ∀ v, v = ptA σ (i + 1) s → ∃ z, gm174_44 k9 n a2 (zI s) (zI (dgA (x.1 140) σ s)) (zI (i + 1)) (wI y 186 s v) = k9 a2 (zI s + (-1)) z ∧ z.1 186 s = σ s ∧ (∀ k, ¬ k = s → z.1 186 k = y.1 186 k) ∧ (∀ a, ¬ a = 186 → z.1 a = y.1 a) ∧ z.2 = y.2 := by
      intro v hv2
      obtain ⟨z, z1, z2, z3, z4, z5⟩ := ih (i + 1) n (wI y 186 s v) (by omega) (by omega) (h.to (fun a ha => wI_ne (by omega))) (by rw [wI_j]; exact hv2)
      exact ⟨z, z1, z2, fun k hk => by rw [z3 k hk, wI_nj hk], fun a ha => by rw [z4 a ha, wI_ne ha], z5⟩
    have st : gm174_44 k9 (n + 1) a2 (zI s) (zI (dgA (x.1 140) σ s)) (zI i) y = gm174_44 k9 n a2 (zI s) (zI (dgA (x.1 140) σ s)) (zI (i + 1)) (wI y 186 s (if x.1 140 i = zI s ∧ plA (x.1 140) i = dgA (x.1 140) σ s then zI i else y.1 186 s)) := by
      rw [gm174_44.eq_2, h.2.2, m3, if_neg n1, aIn_t (show i < 24 by omega) (by omega), cond_true, xi_zI (show i < 2147483648 by omega), h.1 140 (by decide) (by decide)]
      unfold gm174_85 gm174_91
      rw [s5, cond_true, cond_true, cond_true, xs, zI_succ]
      by_cases w : x.1 140 i = zI s
      · rw [if_pos w, s171 hM0 h (by omega), Option.bind_some]
        by_cases w2 : plA (x.1 140) i = dgA (x.1 140) σ s
        · rw [if_pos (by rw [w2]), if_pos ⟨w, w2⟩]
        · rw [if_neg (by rw [zI_inj pl dl]; exact w2), if_neg (fun q => w2 q.2)]
      · rw [if_neg w, if_neg (fun q => w q.1)]
    rw [st]
    refine go _ ?_
    by_cases c : x.1 140 i = zI s ∧ plA (x.1 140) i = dgA (x.1 140) σ s
    · rw [if_pos c]
      have ne : ¬ σ s = -1 := by
        intro q
        have := c.2
        unfold dgA at this
        rw [if_pos q] at this
        unfold plA at this
        omega
      obtain ⟨a1, a2'⟩ := (hv.1 s (by omega)).resolve_left ne
      obtain ⟨o, ho, eo⟩ := aIn_ex a1
      have c2 := c.2
      unfold dgA at c2
      rw [if_neg ne, eo, xi_zI (by omega)] at c2
      rw [eo, xi_zI (by omega)] at a2'
      have : i = o := plA_inj c.1 a2' (by omega) c2
      unfold ptA
      rw [eo, ← this, zI_int (by omega), if_pos (by omega)]
    · rw [if_neg c, hy]
      have ne : ¬ (σ s).toInt = i := by
        intro q
        have q : σ s = zI i := by rw [i_eq, zI_int (by omega)]; exact q
        have ne : ¬ σ s = -1 := by rw [q]; exact zI_ne_m1 (by omega)
        obtain ⟨a1, a2'⟩ := (hv.1 s (by omega)).resolve_left ne
        rw [q, xi_zI (by omega)] at a2'
        refine c ⟨a2', ?_⟩
        unfold dgA
        rw [if_neg ne, q, xi_zI (by omega)]
      unfold ptA
      by_cases q : (σ s).toInt < (i : Nat)
      · rw [if_pos q, if_pos (by omega)]
      · rw [if_neg q, if_neg (by omega)]
theorem s174_9 (hM : MC S B x) (hv : vSt B (x.1 140) σ) : ∀ s n y, s ≤ S → s < n → RF x y → ∃ z, gm174_9 n (zI (cdL (dgA (x.1 140) σ) (fun s => cnA (x.1 140) s B) s)) (zI s - 1) y = some z ∧ (∀ k, k < s → z.1 186 k = σ k) ∧ (∀ k, s ≤ k → z.1 186 k = y.1 186 k) ∧ (∀ a, ¬ a = 186 → z.1 a = y.1 a) ∧ z.2 = y.2
  | 0, n, y, _, hn, _ => by
    obtain ⟨n, rfl⟩ : ∃ m, n = m + 1 := ⟨n - 1, by omega⟩
    exact ⟨y, by rw [gm174_9.eq_2, if_pos (by decide)], fun k hk => absurd hk (Nat.not_lt_zero k), fun _ _ => rfl, fun _ _ => rfl, rfl⟩
  | s + 1, n, y, hs, hn, h => by
    obtain ⟨n, rfl⟩ : ∃ m, n = m + 1 := ⟨n - 1, by omega⟩
    have hk := hM.1
    have cl := cnA_le (x.1 140) s B
    have e1 : zI (s + 1) - 1 = zI s := zI_sub (a := s + 1) (b := 1) (by omega)
    have n1 : ¬ zI s < 0 := by rw [show (0 : Int32) = zI 0 from rfl, zI_lt (by omega) (by omega)]; omega
    have n2 : ¬ zI (cnA (x.1 140) s B + 1) = 0 := by rw [show (0 : Int32) = zI 0 from rfl, zI_inj (by omega) (by omega)]; omega
    have big : cdL (dgA (x.1 140) σ) (fun s => cnA (x.1 140) s B) (s + 1) < 2147483648 := by
      have a1 := cdL_lt (cn := fun s => cnA (x.1 140) s B) (dgA_le hv) (s + 1)
      have a2 := wt_up (fun s => cnA (x.1 140) s B) (show s + 1 ≤ 5 by omega)
      have a3 := wt_its (its := x.1 140) hk.2 (fun b hb => aIn_up (hM.2.2.2.1 b hb) hk.1)
      omega
    have dv : zI (cdL (dgA (x.1 140) σ) (fun s => cnA (x.1 140) s B) (s + 1)) / zI (cnA (x.1 140) s B + 1) = zI (cdL (dgA (x.1 140) σ) (fun s => cnA (x.1 140) s B) s) := by
      rw [zI_div big (by omega) (by omega)]
      exact congrArg zI (cdL_div (cn := fun s => cnA (x.1 140) s B) (dgA_le hv) s)
    have md : zI (cdL (dgA (x.1 140) σ) (fun s => cnA (x.1 140) s B) (s + 1)) - zI (cdL (dgA (x.1 140) σ) (fun s => cnA (x.1 140) s B) (s + 1)) / zI (cnA (x.1 140) s B + 1) * zI (cnA (x.1 140) s B + 1) = zI (dgA (x.1 140) σ s) := by
      rw [zI_rem big (by omega) (by omega)]
      exact congrArg zI (cdL_mod (cn := fun s => cnA (x.1 140) s B) (dgA_le hv) s)
    obtain ⟨v, v1, v2, v3, v4, v5⟩ := s174_44 hM hv (gm174_9 n) (zI (cdL (dgA (x.1 140) σ) (fun s => cnA (x.1 140) s B) s)) (s := s) (by omega) B 0 FU (wI y 186 s (-1)) (by omega) (by unfold FU; omega) (h.to (fun a ha => wI_ne (by omega))) (by rw [wI_j, pt_0 σ s hv])
    obtain ⟨z, z1, z2, z3, z4, z5⟩ := s174_9 hM hv s n v (by omega) (by omega) (h.to (fun a ha => by rw [v4 a (by omega), wI_ne (by omega)]))
    rw [← zI_0] at v1
    refine ⟨z, ?_, fun k hk2 => ?_, fun k hk2 => ?_, fun a ha => by rw [z4 a ha, v4 a ha, wI_ne ha], z5.trans v5⟩
    · rw [gm174_9.eq_2, e1, if_neg n1, s172 hM h (by omega), Option.bind_some, zI_succ, if_neg n2, Option.bind_some, zI_succ, if_neg n2, md, dv, aIn_t (show s < 5 by omega) (by omega), cond_true, xi_zI (by omega), v1, ← Int32.sub_eq_add_neg]
      exact z1
    · by_cases w : k = s
      · rw [w, z3 s (Nat.le_refl _), v2]
      · exact z2 k (by omega)
    · rw [z3 k (by omega), v3 k (by omega), wI_nj (by omega)]
theorem s174 (hM : MC S B x) (hv : vSt B (x.1 140) σ) (h : RF x y) : ∃ z, gm174 (zI (codS S B (x.1 140) σ)) y = some z ∧ (∀ k, k < S → z.1 186 k = σ k) ∧ (∀ a, ¬ a = 186 → z.1 a = y.1 a) ∧ z.2 = y.2 := by
  obtain ⟨z, z1, z2, _, z4, z5⟩ := s174_9 hM hv S FU y (Nat.le_refl _) (by have := hM.1; unfold FU; omega) h
  refine ⟨z, ?_, z2, z4, z5⟩
  unfold gm174
  rw [h.2.1, hM.2.1]
  exact z1
end REF
