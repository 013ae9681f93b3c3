/-! The reference's search: its outer loop, its beginning, and the changes -/
section RSP
variable {S B : Nat} {x : Hs} {σ0 : Nat → Int32}
theorem s176_82 (hM : MC S B x) (h0 : 0 < B) (hσ0 : vSt B (x.1 140) σ0) {g : Nat} (hg : g < B) {j : Nat} (hj : j < (Qat (x.1 140) (rdB x) (sdB x S) B σ0 (j * B)).n) {y : Hs} (hy : RQ S B x (Qat (x.1 140) (rdB x) (sdB x S) B σ0 (j * B)) y) (n : Nat) :
    (hasG (x.1 140) g ((Qat (x.1 140) (rdB x) (sdB x S) B σ0 (j * B)).st j) → ∃ z, gm176_82 (n + 1) (zI g) (zI j) (zI (Qat (x.1 140) (rdB x) (sdB x S) B σ0 (j * B)).n) y = some (zI (codS S B (x.1 140) ((Qat (x.1 140) (rdB x) (sdB x S) B σ0 (j * B)).st j)), z) ∧ RQ S B x (Qat (x.1 140) (rdB x) (sdB x S) B σ0 (j * B)) z) ∧
    (¬ hasG (x.1 140) g ((Qat (x.1 140) (rdB x) (sdB x S) B σ0 (j * B)).st j) → ∃ z, gm176_82 (n + 1) (zI g) (zI j) (zI (Qat (x.1 140) (rdB x) (sdB x S) B σ0 (j * B)).n) y = gm176_82 n (zI g) (zI (j + 1)) (zI (Qat (x.1 140) (rdB x) (sdB x S) B σ0 ((j + 1) * B)).n) z ∧ RQ S B x (Qat (x.1 140) (rdB x) (sdB x S) B σ0 ((j + 1) * B)) z) := by
  have hM0 := hM
  obtain ⟨⟨k1, k2⟩, m1, m3, hit, hbd⟩ := hM
  have hi5 : ∀ b, b < B → aIn (x.1 140 b) 5 = true := fun b hb => aIn_up (hit b hb) k1
  have hI := Qat_QI (rd := rdB x) (sd := sdB x S) k2 h0 hi5 hσ0 (j * B)
  have hn6 := QI_n k2 hi5 hI
  have n1 : ¬ zI j ≥ zI (Qat (x.1 140) (rdB x) (sdB x S) B σ0 (j * B)).n := by rw [zI_ge (by omega) (by omega)]; omega
  obtain ⟨v, v1, v2, v3, v4⟩ := s174 hM0 (hI.2.1 j hj) hy.rf
  obtain ⟨t, ht, et⟩ := aIn_ex (hit g hg)
  have g24 : aIn (zI g) 24 = true := aIn_t (by omega) (by omega)
  have t5 : aIn (zI t) 5 = true := aIn_t (by omega) (by omega)
  have xt : xi (zI t) = t := xi_zI (by omega)
  have xg : xi (zI g) = g := xi_zI (by omega)
  have vq := hy.of v3 v4
  have hh : hasG (x.1 140) g ((Qat (x.1 140) (rdB x) (sdB x S) B σ0 (j * B)).st j) ↔ v.1 186 t = zI g := by
    unfold hasG
    rw [et, xt, v2 t ht]
  have st : gm176_82 (n + 1) (zI g) (zI j) (zI (Qat (x.1 140) (rdB x) (sdB x S) B σ0 (j * B)).n) y = if v.1 186 t = zI g then some (zI (codS S B (x.1 140) ((Qat (x.1 140) (rdB x) (sdB x S) B σ0 (j * B)).st j)), v) else gm176_126 (gm176_82 n) FU (zI g) (zI (j + 1)) (zI (Qat (x.1 140) (rdB x) (sdB x S) B σ0 (j * B)).n) (zI (codS S B (x.1 140) ((Qat (x.1 140) (rdB x) (sdB x S) B σ0 (j * B)).st j))) 0 v := by
    rw [gm176_82.eq_2, if_neg n1, aIn_t (show j < 8192 by omega) (by omega), cond_true, xi_zI (show j < 2147483648 by omega), hy.2.2.1 j hj, v1, Option.bind_some, g24, cond_true, xg, v3 140 (by decide), hy.rf.1 140 (by decide) (by decide), et, t5, cond_true, xt, zI_succ]
  rw [st]
  refine ⟨fun w => ⟨v, by rw [if_pos (hh.mp w)], vq⟩, fun w => ?_⟩
  rw [if_neg (fun q => w (hh.mpr q))]
  obtain ⟨z, z1, z2⟩ := s176_126 hM0 h0 hσ0 (gm176_82 n) (zI g) (zI (j + 1)) hj B 0 FU v (by omega) (by unfold FU; omega) vq v2
  rw [← zI_0] at z1
  exact ⟨z, z1, z2⟩
theorem s176_N (hM : MC S B x) (h0 : 0 < B) (hσ0 : vSt B (x.1 140) σ0) {g : Nat} (hg : g < B) (hno : ∀ u, noG (x.1 140) g (Qat (x.1 140) (rdB x) (sdB x S) B σ0 u)) :
    ∀ d j n y, j + d = 6480 → d < n → RQ S B x (Qat (x.1 140) (rdB x) (sdB x S) B σ0 (j * B)) y → ∃ z Q, gm176_82 n (zI g) (zI j) (zI (Qat (x.1 140) (rdB x) (sdB x S) B σ0 (j * B)).n) y = some (-1, z) ∧ RQ S B x Q z := by
  have hi5 : ∀ b, b < B → aIn (x.1 140 b) 5 = true := fun b hb => aIn_up (hM.2.2.2.1 b hb) hM.1.1
  intro d
  induction d with
  | zero =>
    intro j n y hj hn hy
    obtain ⟨n, rfl⟩ : ∃ m, n = m + 1 := ⟨n - 1, by omega⟩
    have hn6 := QI_n hM.1.2 hi5 (Qat_QI (rd := rdB x) (sd := sdB x S) hM.1.2 h0 hi5 hσ0 (j * B))
    refine ⟨y, _, ?_, hy⟩
    rw [gm176_82.eq_2, if_pos (by rw [zI_ge (by omega) (by omega)]; omega)]
  | succ d ih =>
    intro j n y hj hn hy
    obtain ⟨n, rfl⟩ : ∃ m, n = m + 1 := ⟨n - 1, by omega⟩
    have hn6 := QI_n hM.1.2 hi5 (Qat_QI (rd := rdB x) (sd := sdB x S) hM.1.2 h0 hi5 hσ0 (j * B))
    by_cases w : j < (Qat (x.1 140) (rdB x) (sdB x S) B σ0 (j * B)).n
    · obtain ⟨z, z1, z2⟩ := (s176_82 hM h0 hσ0 hg w hy n).2 (hno _ j w)
      rw [z1]
      exact ih (j + 1) n z (by omega) (by omega) z2
    · refine ⟨y, _, ?_, hy⟩
      rw [gm176_82.eq_2, if_pos (by rw [zI_ge (by omega) (by omega)]; omega)]
/-- two queues agree up to a state -/
def Qag (G : Nat) (P Q : Qu) : Prop := ∀ k, k ≤ G → (k < P.n ∧ k < Q.n) ∧ Q.st k = P.st k ∧ Q.fr k = P.fr k ∧ Q.by_ k = P.by_ k
theorem Qat_ag {its : Nat → Int32} {rd : Nat → Bool} {sd : (Nat → Int32) → Bool} {t u G : Nat} (h1 : G < (Qat its rd sd B σ0 t).n) (h2 : G < (Qat its rd sd B σ0 u).n) : Qag G (Qat its rd sd B σ0 t) (Qat its rd sd B σ0 u) := by
  intro k hk
  rcases Nat.le_total t u with w | w
  · have le := Qat_le (its := its) (rd := rd) (sd := sd) (B := B) (σ := σ0) w
    exact ⟨⟨by omega, by omega⟩, le.2 k (by omega)⟩
  · have le := (Qat_le (its := its) (rd := rd) (sd := sd) (B := B) (σ := σ0) w).2 k (by omega)
    exact ⟨⟨by omega, by omega⟩, le.1.symm, le.2.1.symm, le.2.2.symm⟩
theorem s176_F (hM : MC S B x) (h0 : 0 < B) (hσ0 : vSt B (x.1 140) σ0) {g : Nat} (hg : g < B) {t : Nat} (hF : Fnd (x.1 140) g (Qat (x.1 140) (rdB x) (sdB x S) B σ0 t)) :
    ∀ d j n y, j + d = (Qat (x.1 140) (rdB x) (sdB x S) B σ0 t).n - 1 → d < n → RQ S B x (Qat (x.1 140) (rdB x) (sdB x S) B σ0 (j * B)) y → ∃ z u, gm176_82 n (zI g) (zI j) (zI (Qat (x.1 140) (rdB x) (sdB x S) B σ0 (j * B)).n) y = some (zI (codS S B (x.1 140) ((Qat (x.1 140) (rdB x) (sdB x S) B σ0 t).st ((Qat (x.1 140) (rdB x) (sdB x S) B σ0 t).n - 1))), z) ∧ RQ S B x (Qat (x.1 140) (rdB x) (sdB x S) B σ0 u) z ∧ Qag ((Qat (x.1 140) (rdB x) (sdB x S) B σ0 t).n - 1) (Qat (x.1 140) (rdB x) (sdB x S) B σ0 t) (Qat (x.1 140) (rdB x) (sdB x S) B σ0 u) := by
  have hi5 : ∀ b, b < B → aIn (x.1 140 b) 5 = true := fun b hb => aIn_up (hM.2.2.2.1 b hb) hM.1.1
  have hn1 : 1 ≤ (Qat (x.1 140) (rdB x) (sdB x S) B σ0 t).n := (Qat_QI (rd := rdB x) (sd := sdB x S) hM.1.2 h0 hi5 hσ0 t).1.1
  have more : ∀ j, j ≤ (Qat (x.1 140) (rdB x) (sdB x S) B σ0 t).n - 1 → j < (Qat (x.1 140) (rdB x) (sdB x S) B σ0 (j * B)).n := by
    intro j hj
    rcases Nat.lt_or_ge j (Qat (x.1 140) (rdB x) (sdB x S) B σ0 (j * B)).n with w | w
    · exact w
    · exfalso
      rcases Nat.le_total (j * B) t with q | q
      · rw [Qat_stop h0 w q] at hj hn1
        omega
      · have := (Qat_le (its := x.1 140) (rd := rdB x) (sd := sdB x S) (B := B) (σ := σ0) q).1
        omega
  intro d
  induction d with
  | zero =>
    intro j n y hj hn hy
    obtain ⟨n, rfl⟩ : ∃ m, n = m + 1 := ⟨n - 1, by omega⟩
    have hj : j = (Qat (x.1 140) (rdB x) (sdB x S) B σ0 t).n - 1 := by omega
    have hm := more j (by omega)
    have ag := Qat_ag (its := x.1 140) (rd := rdB x) (sd := sdB x S) (B := B) (σ0 := σ0) (t := t) (u := j * B) (G := j) (by omega) hm
    have e := (ag j (Nat.le_refl _)).2.1
    obtain ⟨z, z1, z2⟩ := (s176_82 hM h0 hσ0 hg hm hy n).1 (by rw [e, hj]; exact hF.1)
    refine ⟨z, j * B, ?_, z2, by rw [← hj]; exact ag⟩
    rw [z1, e, ← hj]
  | succ d ih =>
    intro j n y hj hn hy
    obtain ⟨n, rfl⟩ : ∃ m, n = m + 1 := ⟨n - 1, by omega⟩
    have hm := more j (by omega)
    have ag := Qat_ag (its := x.1 140) (rd := rdB x) (sd := sdB x S) (B := B) (σ0 := σ0) (t := t) (u := j * B) (G := j) (by omega) hm
    have e := (ag j (Nat.le_refl _)).2.1
    obtain ⟨z, z1, z2⟩ := (s176_82 hM h0 hσ0 hg hm hy n).2 (by rw [e]; exact hF.2 j (by omega))
    rw [z1]
    exact ih (j + 1) n z (by omega) (by omega) z2
theorem s176_2 (a1 a2 : Int32) : ∀ d i n y, i + d = 8192 → d < n → (∀ k, k < i → y.1 183 k = -2) → ∃ z, gm176_2 n a1 a2 (zI i) y = gm176_23 a1 a2 z ∧ (∀ k, k < 8192 → z.1 183 k = -2) ∧ (∀ a, ¬ a = 183 → z.1 a = y.1 a) ∧ z.2 = y.2 := by
  intro d
  induction d with
  | zero =>
    intro i n y hi hn hy
    obtain ⟨n, rfl⟩ : ∃ m, n = m + 1 := ⟨n - 1, by omega⟩
    refine ⟨y, ?_, fun k hk => hy k (by omega), fun _ _ => rfl, rfl⟩
    rw [gm176_2.eq_2, if_pos (by rw [show (8192 : Int32) = zI 8192 from rfl, zI_ge (by omega) (by omega)]; omega)]
  | succ d ih =>
    intro i n y hi hn hy
    obtain ⟨n, rfl⟩ : ∃ m, n = m + 1 := ⟨n - 1, by omega⟩
    obtain ⟨z, z1, z2, z3, z4⟩ := ih (i + 1) n (wI y 183 i (-2)) (by omega) (by omega) (fun k hk => by
      rw [wI_at]
      by_cases q : k = i
      · rw [if_pos q]
      · rw [if_neg q]; exact hy k (by omega))
    refine ⟨z, ?_, z2, fun a ha => by rw [z3 a ha, wI_ne ha], z4⟩
    rw [← z1, gm176_2.eq_2, if_neg (by rw [show (8192 : Int32) = zI 8192 from rfl, zI_ge (by omega) (by omega)]; omega), aIn_t (show i < 8192 by omega) (by omega), cond_true, xi_zI (by omega), zI_succ]
theorem s176_25 (hS : S ≤ 5) {r : Nat} (hr : r < 4) (a2 : Int32) : ∀ d i n y, i + d = S → d < n → y.1 138 1 = zI S → y.1 147 = x.1 147 → (∀ s, s < i → y.1 186 s = x.1 147 (5 * r + s)) → ∃ z, gm176_25 n (zI r) a2 (zI i) y = gm176_55 a2 z ∧ (∀ s, s < S → z.1 186 s = x.1 147 (5 * r + s)) ∧ (∀ a, ¬ a = 186 → z.1 a = y.1 a) ∧ z.2 = y.2 := by
  intro d
  induction d with
  | zero =>
    intro i n y hi hn h1 h147 hy
    obtain ⟨n, rfl⟩ : ∃ m, n = m + 1 := ⟨n - 1, by omega⟩
    refine ⟨y, ?_, fun k hk => hy k (by omega), fun _ _ => rfl, rfl⟩
    rw [gm176_25.eq_2, h1, if_pos (by rw [zI_ge (by omega) (by omega)]; omega)]
  | succ d ih =>
    intro i n y hi hn h1 h147 hy
    obtain ⟨n, rfl⟩ : ∃ m, n = m + 1 := ⟨n - 1, by omega⟩
    have ix : 5 * zI r + zI i = zI (5 * r + i) := by rw [show (5 : Int32) = zI 5 from rfl, zI_mul, zI_add]
    obtain ⟨z, z1, z2, z3, z4⟩ := ih (i + 1) n (wI y 186 i (x.1 147 (5 * r + i))) (by omega) (by omega) (by rw [wI_ne (by decide)]; exact h1) (by rw [wI_ne (by decide)]; exact h147) (fun k hk => by
      rw [wI_at]
      by_cases q : k = i
      · rw [if_pos q, q]
      · rw [if_neg q]; exact hy k (by omega))
    refine ⟨z, ?_, z2, fun a ha => by rw [z3 a ha, wI_ne ha], z4⟩
    rw [← z1, gm176_25.eq_2, h1, if_neg (by rw [zI_ge (by omega) (by omega)]; omega), ix, aIn_t (show 5 * r + i < 20 by omega) (by omega), cond_true, aIn_t (show i < 5 by omega) (by omega), cond_true, xi_zI (by omega), xi_zI (by omega), h147, zI_succ]
theorem s176 (hM : MC S B x) (hσ0 : vSt B (x.1 140) σ0) {r : Nat} (hr : r < 4) (hr0 : ∀ s, s < S → x.1 147 (5 * r + s) = σ0 s) (a2 : Int32) : ∃ z, gm176 (zI r) a2 x = gm176_82 FU a2 (zI 0) (zI (Qat (x.1 140) (rdB x) (sdB x S) B σ0 0).n) z ∧ RQ S B x (Qat (x.1 140) (rdB x) (sdB x S) B σ0 0) z := by
  have hM0 := hM
  obtain ⟨⟨k1, k2⟩, m1, m3, hit, hbd⟩ := hM
  have hi5 : ∀ b, b < B → aIn (x.1 140 b) 5 = true := fun b hb => aIn_up (hit b hb) k1
  obtain ⟨u, u1, u2, u3, u4⟩ := s176_2 (zI r) a2 8192 0 FU x (by omega) (by unfold FU; omega) (fun k hk => absurd hk (Nat.not_lt_zero k))
  obtain ⟨v, v1, v2, v3, v4⟩ := s176_25 (x := x) k1 hr a2 S 0 FU u (by omega) (by unfold FU; omega) (by rw [u3 138 (by decide)]; exact m1) (u3 147 (by decide)) (fun k hk => absurd hk (Nat.not_lt_zero k))
  rw [← zI_0] at u1 v1
  have vo : ∀ a, ¬ a = 183 → ¬ a = 186 → v.1 a = x.1 a := fun a h1 h2 => by rw [v3 a h2, u3 a h1]
  have rf : RF x v := ⟨fun a h1 h2 => vo a (by omega) (by omega), by rw [vo 138 (by decide) (by decide)], by rw [vo 138 (by decide) (by decide)]⟩
  have c := s173 hM0 rf hσ0 (fun s hs => by rw [v2 s hs]; exact hr0 s hs)
  have cl := cod_lt k1 k2 hi5 hσ0
  have st : gm176 (zI r) a2 x = gm176_82 FU a2 (zI 0) (zI 1) (wI (wI v 185 0 (zI (codS S B (x.1 140) σ0))) 183 (codS S B (x.1 140) σ0) (-1)) := by
    unfold gm176
    rw [u1]
    unfold gm176_23
    rw [v1]
    unfold gm176_55
    rw [c, Option.bind_some, xi0, wI_j, aIn_t (show codS S B (x.1 140) σ0 < 8192 by omega) (by omega), cond_true, xi_zI (by omega)]
    rfl
  refine ⟨_, st, fun a ha => ?_, ?_, fun k hk => ?_, ?_, fun k h0 hk => ?_, fun m hm => ?_⟩
  · rw [wI_ne (by omega), wI_ne (by omega), vo a (by omega) (by omega)]
  · show v.2 = x.2
    rw [v4, u4]
  · have hk : k < 1 := hk
    rw [wI_ne (by decide), show k = 0 by omega, wI_j]
    rfl
  · exact wI_j ..
  · have hk : k < 1 := hk
    omega
  · rw [wI_at]
    by_cases q : m = codS S B (x.1 140) σ0
    · exact Or.inr ⟨0, Nat.one_pos, q.symm⟩
    · rw [if_neg q, wI_ne (by decide), v3 183 (by decide)]
      exact Or.inl (u2 m hm)
theorem s177_54 {Q : Qu} (hM : MC S B x) (hv : ∀ k, k < Q.n → vSt B (x.1 140) (Q.st k)) {C : Nat} {ch : Nat → Nat} (hn : 0 < Q.n) (hC : C < 8192) (c3 : ch C = 0) (c4 : ∀ j, j < C → 0 < ch j ∧ ch j < Q.n ∧ Q.fr (ch j) = ch (j + 1)) {y : Hs} (hy : RQ S B x Q y) (a4 : Int32) : ∀ d j n, j + d = C → d < n → gm177_54 n a4 (zI j) (zI (codS S B (x.1 140) (Q.st (ch j)))) y = gm177_86 a4 (zI C) y := by
  have hi5 : ∀ b, b < B → aIn (x.1 140 b) 5 = true := fun b hb => aIn_up (hM.2.2.2.1 b hb) hM.1.1
  intro d
  induction d with
  | zero =>
    intro j n hj hn2
    obtain ⟨n, rfl⟩ : ∃ m, n = m + 1 := ⟨n - 1, by omega⟩
    have hj : j = C := by omega
    subst hj
    have cl := cod_lt hM.1.1 hM.1.2 hi5 (hv 0 hn)
    rw [gm177_54.eq_2, c3, if_neg (zI_ne_m1 (by omega)), aIn_t (show codS S B (x.1 140) (Q.st 0) < 8192 by omega) (by omega), cond_true, xi_zI (by omega), hy.2.2.2.1, if_pos rfl]
  | succ d ih =>
    intro j n hj hn2
    obtain ⟨n, rfl⟩ : ∃ m, n = m + 1 := ⟨n - 1, by omega⟩
    obtain ⟨d1, d2, d3⟩ := c4 j (by omega)
    have cl := cod_lt hM.1.1 hM.1.2 hi5 (hv _ d2)
    have fn : ch (j + 1) < Q.n := by
      by_cases q : j + 1 = C
      · rw [q, c3]; exact hn
      · exact (c4 (j + 1) (by omega)).2.1
    have cl2 := cod_lt hM.1.1 hM.1.2 hi5 (hv _ fn)
    have p := (hy.2.2.2.2.1 (ch j) d1 d2).1
    rw [d3] at p
    rw [gm177_54.eq_2, if_neg (zI_ne_m1 (by omega)), aIn_t (show codS S B (x.1 140) (Q.st (ch j)) < 8192 by omega) (by omega), cond_true, xi_zI (by omega), p, if_neg (zI_ne_m1 (by omega)), cond_true, zI_succ]
    exact ih (j + 1) n (by omega) (by omega)
theorem s177_106 {Q : Qu} (hM : MC S B x) (hv : ∀ k, k < Q.n → vSt B (x.1 140) (Q.st k)) {C : Nat} {ch : Nat → Nat} (hC : C < 8192) (hn : 0 < Q.n) (c3 : ch C = 0) (c4 : ∀ j, j < C → 0 < ch j ∧ ch j < Q.n ∧ Q.fr (ch j) = ch (j + 1)) {w : Hs} (hw : RQ S B x Q w) : ∀ d j n y, j + d = C → d < n → (y.1 183 = w.1 183 ∧ y.1 184 = w.1 184) →
    ∃ z, gm177_106 n (zI (C - j)) (zI (codS S B (x.1 140) (Q.st (ch j)))) y = some (z.1 138 51, z) ∧ (∀ i, j ≤ i → i < C → z.1 182 (C - 1 - i) = zI (Q.by_ (ch i))) ∧ (∀ m, C - j ≤ m → z.1 182 m = y.1 182 m) ∧ (∀ a, ¬ a = 182 → z.1 a = y.1 a) ∧ z.2 = y.2 := by
  have hi5 : ∀ b, b < B → aIn (x.1 140 b) 5 = true := fun b hb => aIn_up (hM.2.2.2.1 b hb) hM.1.1
  intro d
  induction d with
  | zero =>
    intro j n y hj hn2 hy
    obtain ⟨n, rfl⟩ : ∃ m, n = m + 1 := ⟨n - 1, by omega⟩
    refine ⟨y, ?_, fun i h1 h2 => by omega, fun _ _ => rfl, fun _ _ => rfl, rfl⟩
    rw [gm177_106.eq_2, if_pos (by rw [show (0 : Int32) = zI 0 from rfl, zI_le (by omega) (by omega)]; omega)]
    rfl
  | succ d ih =>
    intro j n y hj hn2 hy
    obtain ⟨n, rfl⟩ : ∃ m, n = m + 1 := ⟨n - 1, by omega⟩
    obtain ⟨d1, d2, d3⟩ := c4 j (by omega)
    have cl := cod_lt hM.1.1 hM.1.2 hi5 (hv _ d2)
    obtain ⟨p1, p2⟩ := hw.2.2.2.2.1 (ch j) d1 d2
    rw [d3] at p1
    have n1 : ¬ zI (C - j) ≤ 0 := by rw [show (0 : Int32) = zI 0 from rfl, zI_le (by omega) (by omega)]; omega
    have e1 : zI (C - j) + (-1) = zI (C - 1 - j) := by
      rw [← Int32.sub_eq_add_neg, show (1 : Int32) = zI 1 from rfl, zI_sub (by omega), show C - j - 1 = C - 1 - j by omega]
    obtain ⟨z, z1, z2, z3, z4, z5⟩ := ih (j + 1) n (wI y 182 (C - 1 - j) (zI (Q.by_ (ch j)))) (by omega) (by omega) ⟨by rw [wI_ne (by decide)]; exact hy.1, by rw [wI_ne (by decide)]; exact hy.2⟩
    rw [show C - (j + 1) = C - 1 - j by omega] at z1 z3
    refine ⟨z, ?_, fun i h1 h2 => ?_, fun m hm => ?_, fun a ha => by rw [z4 a ha, wI_ne ha], z5⟩
    · rw [← z1, gm177_106.eq_2, if_neg n1, e1, aIn_t (show codS S B (x.1 140) (Q.st (ch j)) < 8192 by omega) (by omega), cond_true, aIn_t (show C - 1 - j < 8192 by omega) (by omega), cond_true, cond_true, xi_zI (show C - 1 - j < 2147483648 by omega), xi_zI (show codS S B (x.1 140) (Q.st (ch j)) < 2147483648 by omega), hy.2, p2, wI_ne (by decide), hy.1, p1]
    · by_cases q : i = j
      · rw [q, z3 _ (Nat.le_refl _), wI_j]
      · exact z2 i (by omega) h2
    · rw [z3 m (by omega), wI_nj (by omega)]
end RSP
