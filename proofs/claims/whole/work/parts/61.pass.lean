/-! Passing time: paging again and again -/
def nx (P : Nat) (p : Int32) : Int32 := if p + 1 ≥ zI P then 0 else p + 1
def pg (P : Nat) : Nat → Int32 × Int32 → Int32 × Int32
  | 0, s => s
  | m + 1, s => (nx P (pg P m s).1, (pg P m s).2 ||| (1 <<< (nx P (pg P m s).1 &&& 31)))
theorem nx_in {P : Nat} {p : Int32} (h : aIn p P = true) (hP : P ≤ 5) : aIn (nx P p) P = true := by
  obtain ⟨k, hk, rfl⟩ := aIn_ex h
  unfold nx
  rw [zI_succ]
  by_cases w : zI (k + 1) ≥ zI P
  · rw [if_pos w]
    exact aIn_t (k := 0) (by omega) (by omega)
  · rw [if_neg w]
    rw [zI_ge (by omega) (by omega)] at w
    exact aIn_t (by omega) (by omega)
theorem nx_rem {P : Nat} {p : Int32} (h : aIn p P = true) (hP : P ≤ 5) : (p + 1) - (p + 1) / zI P * zI P = nx P p := by
  obtain ⟨k, hk, rfl⟩ := aIn_ex h
  unfold nx
  rw [zI_succ, zI_rem (by omega) (by omega) (by omega)]
  by_cases w : zI (k + 1) ≥ zI P
  · rw [if_pos w]
    rw [zI_ge (by omega) (by omega)] at w
    rw [show k + 1 = P by omega, Nat.mod_self]
    rfl
  · rw [if_neg w]
    rw [zI_ge (by omega) (by omega)] at w
    rw [Nat.mod_eq_of_lt (by omega)]
theorem pg_in {P : Nat} (hP : P ≤ 5) {s : Int32 × Int32} (h : aIn s.1 P = true) : ∀ m, aIn (pg P m s).1 P = true
  | 0 => h
  | m + 1 => nx_in (pg_in hP h m) hP
theorem pg_bt {P : Nat} (hP : P ≤ 5) {s : Int32 × Int32} (h : aIn s.1 P = true) (hb : ∀ k, 5 ≤ k → bt s.2 k = false) : ∀ m, ∀ k, 5 ≤ k → bt (pg P m s).2 k = false
  | 0 => hb
  | m + 1 => bt_set (pg_bt hP h hb m) (aIn_up (nx_in (pg_in hP h m) hP) hP) (by decide)
def PC (P a : Nat) (x : Hs) (j v : Nat) (y : Hs) : Prop :=
  (y.1 a 3 = (pg P j (x.1 a 3, x.1 a 4)).1 ∧ y.1 a 4 = (pg P j (x.1 a 3, x.1 a 4)).2 ∧ y.1 a 7 = zI (v + 10 * j)) ∧
  (∀ k, ¬ k = 3 → ¬ k = 4 → ¬ k = 7 → y.1 a k = x.1 a k) ∧ (∀ q, ¬ q = a → y.1 q = x.1 q) ∧ y.2 = x.2
theorem s35_2 {P : Nat} (hP : P ≤ 5) (a : Nat) (x : Hs) {v N : Nat} (h5 : x.1 a 5 = -1) (hp : aIn (x.1 a 3) P = true) (hv : v ≤ 20000) (hN : N ≤ 9999) :
    ∀ d j n y, PC P a x j v y → N < v + 10 * (j + d) → (∀ i, i < j + d → v + 10 * i ≤ N) → j + d ≤ 600 → d < n → ∃ z, gm35_2 n a (zI N) (zI P) (zI j) y = some z ∧ PC P a x (j + d) v z := by
  intro d
  induction d with
  | zero =>
    intro j n y hy h1 h2 h3 hn
    obtain ⟨n, rfl⟩ : ∃ m, n = m + 1 := ⟨n - 1, by omega⟩
    refine ⟨y, ?_, hy⟩
    obtain ⟨⟨y3, y4, y7⟩, yk, _, _⟩ := hy
    unfold gm35_2
    have q7 : zI (v + 10 * j) > zI N := by rw [i_gt, zI_int (by omega), zI_int (by omega)]; omega
    rw [yk 5 (by decide) (by decide) (by decide), h5, y7]
    simp only [if_pos q7, ↓reduceIte, ite_self]
  | succ d ih =>
    intro j n y hy h1 h2 h3 hn
    obtain ⟨n, rfl⟩ : ∃ m, n = m + 1 := ⟨n - 1, by omega⟩
    have hy' := hy
    obtain ⟨⟨y3, y4, y7⟩, yk, yq, y2⟩ := hy
    have hlt := h2 j (by omega)
    have q6 : ¬ zI j ≥ 600 := by rw [show (600 : Int32) = zI 600 from rfl, zI_ge (by omega) (by omega)]; omega
    have q7 : ¬ zI (v + 10 * j) > zI N := by rw [i_gt, zI_int (by omega), zI_int (by omega)]; omega
    have e5 : y.1 a 5 = -1 := by rw [yk 5 (by decide) (by decide) (by decide), h5]
    have st : gm35_2 (n + 1) a (zI N) (zI P) (zI j) y = (gm36 a (nx P (y.1 a 3)) y).bind fun w => gm35_2 n a (zI N) (zI P) (zI j + 1) w := by
      have e0 : gm35_2 (n + 1) a (zI N) (zI P) (zI j) y = if zI j ≥ 600 then some y else (if y.1 a 5 = (-1) then (if y.1 a 7 > zI N then (some y) else (if (y.1 a 3 + 1) ≥ zI P then (gm35_46 (gm35_2 n) a (zI N) (zI P) (zI j) a 0 y) else (gm35_46 (gm35_2 n) a (zI N) (zI P) (zI j) a (y.1 a 3 + 1) y))) else (some y)) := rfl
      rw [e0, if_neg q6, if_pos e5, y7, if_neg q7]
      unfold nx gm35_46
      by_cases w : y.1 a 3 + 1 ≥ zI P
      · rw [if_pos w, if_pos w]
      · rw [if_neg w, if_neg w]
    rw [st]
    unfold gm36
    rw [Option.bind_some, zI_succ, wI_nj (show ¬ (4 : Nat) = 3 by decide), wI_nj (show ¬ (7 : Nat) = 4 by decide), wI_nj (show ¬ (7 : Nat) = 3 by decide), y7, show zI (v + 10 * j) + 10 = zI (v + 10 * (j + 1)) from by rw [show (10 : Int32) = zI 10 from rfl, zI_add, show v + 10 * j + 10 = v + 10 * (j + 1) by omega]]
    obtain ⟨z, hz1, hz2⟩ := ih (j + 1) n (wI (wI (wI y a 3 (nx P (y.1 a 3))) a 4 (y.1 a 4 ||| 1 <<< (nx P (y.1 a 3) &&& 31))) a 7 (zI (v + 10 * (j + 1)))) ⟨⟨by
        rw [wI_nj (by decide), wI_nj (by decide), wI_j, y3]; rfl, by
        rw [wI_nj (by decide), wI_j, y4, y3]; rfl, wI_j ..⟩, fun k m3 m4 m7 => by rw [wI_nj m7, wI_nj m4, wI_nj m3]; exact yk k m3 m4 m7, fun q hq => by rw [wI_ne hq, wI_ne hq, wI_ne hq]; exact yq q hq, y2⟩ (by omega) (fun i hi => h2 i (by omega)) (by omega) (by omega)
    exact ⟨z, hz1, by rw [show j + (d + 1) = j + 1 + d by omega]; exact hz2⟩
def Cn (x : Hs) (now N k : Nat) : Nat := if x.1 180 k = -1 then (N - xi (x.1 177 k)) / 10 - (now - xi (x.1 177 k)) / 10 else 0
def FQ (P : Nat) (x : Hs) (now N k : Nat) (y : Hs) : Prop :=
  (y.1 (118 + k) 3 = (pg P (Cn x now N k) (x.1 (118 + k) 3, x.1 (118 + k) 4)).1 ∧ y.1 (118 + k) 4 = (pg P (Cn x now N k) (x.1 (118 + k) 3, x.1 (118 + k) 4)).2 ∧
    (x.1 180 k = -1 → y.1 (118 + k) 7 = zI (xi (x.1 177 k) + 10 * ((N - xi (x.1 177 k)) / 10 + 1)))) ∧
  ∀ f, ¬ f = 3 → ¬ f = 4 → ¬ f = 7 → y.1 (118 + k) f = x.1 (118 + k) f
def CR (P : Nat) (x : Hs) (now N i : Nat) (y : Hs) : Prop :=
  (∀ k, k < i → FQ P x now N k y) ∧ (∀ k, i ≤ k → k < 12 → y.1 (118 + k) = x.1 (118 + k)) ∧ (∀ a, a < 118 ∨ 130 ≤ a → y.1 a = x.1 a) ∧ y.2 = x.2
theorem s21_2 {P I now N : Nat} {x : Hs} (hD : IDut P I now x) (h1 : now ≤ N) (h2 : N ≤ now + 600) (hN : N ≤ 9999) :
    ∀ d i n y, i + d = I → d < n → CR P x now N i y → ∃ z, gm21_2 n (zI N) (zI i) y = some z ∧ CR P x now N I z := by
  obtain ⟨⟨p1, p2, p3⟩, ⟨e1, e2, e3, e4⟩, w116, hst, hf, -⟩ := hD
  intro d
  induction d with
  | zero =>
    intro i n y hi hn hy
    obtain ⟨n, rfl⟩ : ∃ m, n = m + 1 := ⟨n - 1, by omega⟩
    have hi : i = I := by omega
    subst hi
    refine ⟨y, ?_, hy⟩
    unfold gm21_2
    rw [hy.2.2.1 115 (by omega), e3, if_pos (by rw [zI_ge (by omega) (by omega)]; omega)]
  | succ d ih =>
    intro i n y hi hn hy
    obtain ⟨n, rfl⟩ : ∃ m, n = m + 1 := ⟨n - 1, by omega⟩
    have hy' := hy
    obtain ⟨yd, yk, yq, y2⟩ := hy
    obtain ⟨⟨f0, f1, f2, f3, f4, f5, f6⟩, hp, hb, _, o, ho1, ho2, ho3⟩ := hf i (by omega)
    have ei := yk i (Nat.le_refl _) (by omega)
    have xo : xi (x.1 177 i) = o := by rw [ho2, xi_zI (by omega)]
    have st : ∃ z, gm35 (118 + i) (zI N) (zI P) y = some z ∧ FQ P x now N i z ∧ (∀ q, ¬ q = 118 + i → z.1 q = y.1 q) ∧ z.2 = y.2 := by
      by_cases g : x.1 180 i = -1
      · have h7 := ho3 g
        have hc : Cn x now N i = (N - o) / 10 - (now - o) / 10 := by unfold Cn; rw [if_pos g, xo]
        obtain ⟨z, hz1, ⟨z3, z4, z7⟩, zk, zq, z2⟩ := s35_2 p2 (118 + i) y (v := o + 10 * ((now - o) / 10 + 1)) (N := N) (by rw [ei, f5]; exact g) (by rw [ei, f3]; exact hp) (by omega) hN (Cn x now N i) 0 FU y ⟨⟨rfl, rfl, by rw [ei]; exact h7⟩, fun _ _ _ _ => rfl, fun _ _ => rfl, rfl⟩ (by rw [hc]; omega) (by intro k hk; rw [hc] at hk; omega) (by rw [hc]; omega) (by rw [hc]; unfold FU; omega)
        refine ⟨z, hz1, ⟨⟨?_, ?_, fun _ => ?_⟩, fun f m3 m4 m7 => ?_⟩, zq, z2⟩
        · rw [z3, ei, Nat.zero_add]
        · rw [z4, ei, Nat.zero_add]
        · rw [z7, xo, Nat.zero_add, hc]
          congr 1
          omega
        · rw [zk f m3 m4 m7, ei]
      · have hc : Cn x now N i = 0 := by unfold Cn; rw [if_neg g]
        refine ⟨y, ?_, ⟨⟨by rw [ei, hc]; rfl, by rw [ei, hc]; rfl, fun w => absurd w g⟩, fun f _ _ _ => by rw [ei]⟩, fun _ _ => rfl, rfl⟩
        have e0 : gm35 (118 + i) (zI N) (zI P) y = if (0 : Int32) ≥ 600 then some y else (if y.1 (118 + i) 5 = (-1) then (if y.1 (118 + i) 7 > zI N then (some y) else (if (y.1 (118 + i) 3 + 1) ≥ zI P then (gm35_46 (gm35_2 19999) (118 + i) (zI N) (zI P) 0 (118 + i) 0 y) else (gm35_46 (gm35_2 19999) (118 + i) (zI N) (zI P) 0 (118 + i) (y.1 (118 + i) 3 + 1) y))) else (some y)) := rfl
        rw [e0, if_neg (by decide), ei, f5, if_neg g]
    obtain ⟨z, hz1, hz2, hz3, hz4⟩ := st
    have n1 : ¬ zI i ≥ zI I := by rw [zI_ge (by omega) (by omega)]; omega
    have i12 : aIn (zI i) 12 = true := aIn_t (by omega) (by omega)
    have e0 : gm21_2 (n + 1) (zI N) (zI i) y = gm21_2 n (zI N) (zI (i + 1)) z := by
      unfold gm21_2
      rw [yq 115 (by omega), e3, if_neg n1, i12, cond_true, xi_zI (by omega), e1, hz1, Option.bind_some, zI_succ]
      cases n <;> rfl
    rw [e0]
    refine ih (i + 1) n z (by omega) (by omega) ⟨fun k hk => ?_, fun k h1 h2 => ?_, fun a ha => ?_, hz4.trans y2⟩
    · by_cases hki : k = i
      · rw [hki]; exact hz2
      · have := yd k (by omega)
        unfold FQ at this ⊢
        rw [hz3 (118 + k) (by omega)]
        exact this
    · rw [hz3 (118 + k) (by omega)]
      exact yk k (by omega) h2
    · rw [hz3 a (by omega)]
      exact yq a ha
/-- the reference's cells, minute by minute -/
def MR (P : Nat) (x : Hs) (n : Nat) (cnt : Nat → Nat) (y : Hs) : Prop :=
  y.1 138 0 = zI n ∧ (∀ j, ¬ j = 0 → y.1 138 j = x.1 138 j) ∧ (∀ a, ¬ a = 138 → ¬ a = 178 → ¬ a = 179 → y.1 a = x.1 a) ∧ y.2 = x.2 ∧
  ∀ k, y.1 179 k = (pg P (cnt k) (x.1 179 k, x.1 178 k)).1 ∧ y.1 178 k = (pg P (cnt k) (x.1 179 k, x.1 178 k)).2
def Ck (I : Nat) (x : Hs) (now N k : Nat) : Nat := if k < I then Cn x now N k else 0
theorem s167_63 {P I now N : Nat} {x : Hs} (p : (1 ≤ P ∧ P ≤ 5 ∧ I ≤ 12) ∧ x.1 138 40 = zI P ∧ x.1 138 42 = zI I) (hin : ∀ i, i < I → aIn (x.1 179 i) P = true ∧ ∃ o, o ≤ now ∧ x.1 177 i = zI o) (h1 : now ≤ N) (hN : N < 9999) (k45 : Int32 → Int32 → Hs → Option (Int32 × Hs)) (a1 a3 : Int32) :
    ∀ d i n y, i + d = I → d < n → MR P x (N + 1) (fun k => if k < i then Ck I x now (N + 1) k else Ck I x now N k) y → ∃ z, gm167_63 k45 n a1 a3 (zI i) y = k45 a1 (a3 + 1) z ∧ MR P x (N + 1) (Ck I x now (N + 1)) z := by
  obtain ⟨⟨p1, p2, p3⟩, e2, e4⟩ := p
  intro d
  induction d with
  | zero =>
    intro i n y hi hn hy
    obtain ⟨n, rfl⟩ : ∃ m, n = m + 1 := ⟨n - 1, by omega⟩
    have hi : i = I := by omega
    subst hi
    refine ⟨y, ?_, hy.1, hy.2.1, hy.2.2.1, hy.2.2.2.1, fun k => ?_⟩
    · unfold gm167_63
      rw [hy.2.1 42 (by decide), e4, if_pos (by rw [zI_ge (by omega) (by omega)]; omega)]
      rfl
    · have := hy.2.2.2.2 k
      by_cases w : k < i
      · simp only [if_pos w] at this
        exact this
      · simp only [if_neg w] at this
        have e1 : ∀ m, Ck i x now m k = 0 := fun m => by unfold Ck; rw [if_neg w]
        rw [e1] at this ⊢
        exact this
  | succ d ih =>
    intro i n y hi hn hy
    obtain ⟨n, rfl⟩ : ∃ m, n = m + 1 := ⟨n - 1, by omega⟩
    obtain ⟨y0, yj, ya, y2, yk⟩ := hy
    obtain ⟨hp, o, ho1, ho2⟩ := hin i (by omega)
    have xo : xi (x.1 177 i) = o := by rw [ho2, xi_zI (by omega)]
    have n1 : ¬ zI i ≥ zI I := by rw [zI_ge (by omega) (by omega)]; omega
    have i12 : aIn (zI i) 12 = true := aIn_t (by omega) (by omega)
    have x12 : xi (zI i) = i := xi_zI (by omega)
    have pne : ¬ zI P = 0 := by rw [show (0 : Int32) = zI 0 from rfl, zI_inj (by omega) (by omega)]; omega
    have hki := yk i
    simp only [if_neg (Nat.lt_irrefl i)] at hki
    have hcN : ∀ m, Ck I x now m i = if x.1 180 i = -1 then (m - o) / 10 - (now - o) / 10 else 0 := fun m => by unfold Ck Cn; rw [if_pos (by omega), xo]
    have keep : Ck I x now (N + 1) i = Ck I x now N i → gm167_63 k45 (n + 1) a1 a3 (zI i) y = gm167_63 k45 n a1 a3 (zI i + 1) y → ∃ z, gm167_63 k45 (n + 1) a1 a3 (zI i) y = k45 a1 (a3 + 1) z ∧ MR P x (N + 1) (Ck I x now (N + 1)) z := by
      intro w1 w2
      rw [w2, zI_succ]
      refine ih (i + 1) n y (by omega) (by omega) ⟨y0, yj, ya, y2, fun k => ?_⟩
      by_cases hk : k = i
      · rw [hk]
        simp only [if_pos (Nat.lt_succ_self i)]
        rw [w1]
        exact hki
      · have := yk k
        by_cases w : k < i
        · simp only [if_pos w] at this
          simp only [if_pos (show k < i + 1 by omega)]
          exact this
        · simp only [if_neg w] at this
          simp only [if_neg (show ¬ k < i + 1 by omega)]
          exact this
    by_cases g : x.1 180 i = -1
    case neg =>
      refine keep (by rw [hcN, hcN, if_neg g, if_neg g]) ?_
      have e0 := gm167_63.eq_2 k45 a1 a3 (zI i) y n
      rw [e0, yj 42 (by decide), e4, if_neg n1, i12, cond_true, ya 180 (by decide) (by decide) (by decide), x12, if_neg g]
      rfl
    case pos =>
    have em : zI (N + 1) - zI o = zI (N + 1 - o) := zI_sub (by omega)
    have er : zI (N + 1 - o) - zI (N + 1 - o) / 10 * 10 = zI ((N + 1 - o) % 10) := zI_rem (b := 10) (by omega) (by omega) (by omega)
    by_cases g2 : (N + 1 - o) % 10 = 0
    case neg =>
      refine keep (by rw [hcN, hcN, if_pos g, if_pos g]; omega) ?_
      have ne : ¬ zI ((N + 1 - o) % 10) = 0 := by rw [show (0 : Int32) = zI 0 from rfl, zI_inj (by omega) (by omega)]; exact g2
      have e0 := gm167_63.eq_2 k45 a1 a3 (zI i) y n
      rw [e0, yj 42 (by decide), e4, if_neg n1, i12, cond_true, ya 180 (by decide) (by decide) (by decide), x12, if_pos g, cond_true, y0, ya 177 (by decide) (by decide) (by decide), ho2, em, er, if_neg ne]
      rfl
    case pos =>
    have ne : zI ((N + 1 - o) % 10) = 0 := by rw [g2]; rfl
    have hc : Ck I x now (N + 1) i = Ck I x now N i + 1 := by rw [hcN, hcN, if_pos g, if_pos g]; omega
    have hpi := pg_in (s := (x.1 179 i, x.1 178 i)) p2 hp (Ck I x now N i)
    have rm : (y.1 179 i + 1) - (y.1 179 i + 1) / zI P * zI P = nx P (y.1 179 i) := nx_rem (by rw [hki.1]; exact hpi) p2
    have st : gm167_63 k45 (n + 1) a1 a3 (zI i) y = gm167_63 k45 n a1 a3 (zI i + 1) (wI (wI y 179 i (nx P (y.1 179 i))) 178 i (y.1 178 i ||| (1 <<< (nx P (y.1 179 i) &&& 31)))) := by
      have e0 := gm167_63.eq_2 k45 a1 a3 (zI i) y n
      rw [e0, yj 42 (by decide), e4, if_neg n1, i12, cond_true, ya 180 (by decide) (by decide) (by decide), x12, if_pos g, cond_true, y0, ya 177 (by decide) (by decide) (by decide), ho2, em, er, if_pos ne, yj 40 (by decide), e2, if_neg pne, rm]
      simp only [cond_true, wI_ne (show ¬ (178 : Nat) = 179 by decide), wI_j]
      rfl
    rw [st, zI_succ]
    generalize hz : wI (wI y 179 i (nx P (y.1 179 i))) 178 i (y.1 178 i ||| (1 <<< (nx P (y.1 179 i) &&& 31))) = z
    have z179 : ∀ k, z.1 179 k = if k = i then nx P (y.1 179 i) else y.1 179 k := fun k => by rw [← hz, wI_ne (by decide), wI_at]
    have z178 : ∀ k, z.1 178 k = if k = i then y.1 178 i ||| (1 <<< (nx P (y.1 179 i) &&& 31)) else y.1 178 k := fun k => by rw [← hz, wI_at, wI_ne (by decide)]
    have zo : ∀ a, ¬ a = 178 → ¬ a = 179 → z.1 a = y.1 a := fun a h1 h2 => by rw [← hz, wI_ne h1, wI_ne h2]
    refine ih (i + 1) n z (by omega) (by omega) ⟨by rw [zo 138 (by decide) (by decide)]; exact y0, fun j hj => by rw [zo 138 (by decide) (by decide)]; exact yj j hj, fun a h1 h2 h3 => by rw [zo a h2 h3]; exact ya a h1 h2 h3, by rw [← hz]; exact y2, fun k => ?_⟩
    rw [z179, z178]
    by_cases hk : k = i
    · rw [hk]
      simp only [if_pos (Nat.lt_succ_self i), ↓reduceIte]
      rw [hc, hki.1, hki.2]
      exact ⟨rfl, rfl⟩
    · have := yk k
      rw [if_neg hk, if_neg hk]
      by_cases w : k < i
      · simp only [if_pos w] at this
        simp only [if_pos (show k < i + 1 by omega)]
        exact this
      · simp only [if_neg w] at this
        simp only [if_neg (show ¬ k < i + 1 by omega)]
        exact this
theorem s167_45 {P I now A : Nat} {x : Hs} (p : (1 ≤ P ∧ P ≤ 5 ∧ I ≤ 12) ∧ x.1 138 40 = zI P ∧ x.1 138 42 = zI I) (hin : ∀ i, i < I → aIn (x.1 179 i) P = true ∧ ∃ o, o ≤ now ∧ x.1 177 i = zI o) (hA : now + A ≤ 9999) :
    ∀ d t n y, t + d = A → d < n → MR P x (now + t) (Ck I x now (now + t)) y → ∃ z, gm167_45 n (zI A) (zI t) y = some (zI (now + A), z) ∧ MR P x (now + A) (Ck I x now (now + A)) z := by
  intro d
  induction d with
  | zero =>
    intro t n y ht hn hy
    obtain ⟨n, rfl⟩ : ∃ m, n = m + 1 := ⟨n - 1, by omega⟩
    have ht : t = A := by omega
    subst ht
    refine ⟨y, ?_, hy⟩
    unfold gm167_45 gm167_153
    rw [if_pos (by rw [zI_ge (by omega) (by omega)]; omega), hy.1]
  | succ d ih =>
    intro t n y ht hn hy
    obtain ⟨n, rfl⟩ : ∃ m, n = m + 1 := ⟨n - 1, by omega⟩
    have n1 : ¬ zI t ≥ zI A := by rw [zI_ge (by omega) (by omega)]; omega
    obtain ⟨y0, yj, ya, y2, yk⟩ := hy
    obtain ⟨z, hz1, hz2⟩ := s167_63 (N := now + t) p hin (by omega) (by omega) (gm167_45 n) (zI A) (zI t) I 0 FU (wI y 138 0 (zI (now + t + 1))) (by omega) (by have := p.1.2.2; unfold FU; omega) ⟨wI_j .., fun j hj => by rw [wI_nj hj]; exact yj j hj, fun a h1 h2 h3 => by rw [wI_ne h1]; exact ya a h1 h2 h3, y2, fun k => by simp only [if_neg (Nat.not_lt_zero k)]; exact yk k⟩
    have st : gm167_45 (n + 1) (zI A) (zI t) y = gm167_63 (gm167_45 n) FU (zI A) (zI t) 0 (wI y 138 0 (zI (now + t + 1))) := by
      rw [gm167_45.eq_2, if_neg n1, y0, zI_succ]
    rw [st]
    rw [← zI_0, zI_succ] at hz1
    rw [hz1]
    exact ih (t + 1) n z (by omega) (by omega) hz2
theorem s180 (a : Nat) (v : Int64) (x : Hs) : gm180 a v x = some (wJ (wJ (wJ (wJ (wJ x a 0 v) a 1 v) a 2 v) a 3 v) a 4 v) := rfl
