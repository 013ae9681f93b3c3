/-! The class's search as a whole -/
/-- what a search leaves behind, in the class's cells -/
def PlR (B : Nat) (its : Nat → Int32) (rd : Nat → Bool) (sd : (Nat → Int32) → Bool) (σ0 : Nat → Int32) (g : Nat) (r : Int32) (z : Hs) : Prop :=
  (∃ j, noG its g (Qat its rd sd B σ0 (j * B)) ∧ (Qat its rd sd B σ0 (j * B)).n ≤ j ∧ r = -1 ∧ z.1 130 12 = 0) ∨
  (∃ t C ch, Fnd its g (Qat its rd sd B σ0 t) ∧ Chain (Qat its rd sd B σ0 t) ((Qat its rd sd B σ0 t).n - 1) C ch ∧ r = zI C ∧ z.1 130 12 = zI C ∧ z.1 130 11 = zI (ch 0) ∧ ∀ j, j < C → z.1 134 (ch j) = zI (ch (j + 1)) ∧ z.1 135 (ch j) = zI ((Qat its rd sd B σ0 t).by_ (ch j)))
section ALL
variable {S B q : Nat} {x : Hs} {σ0 : Nat → Int32}
theorem s38_158 (hC : ICat S B x) (h0 : 0 < B) (hσ : vSt B (x.1 140) σ0) {g : Nat} {y : Hs} (hy : CE S B x q σ0 g y ∨ CF S B x q σ0 g y) : ∃ r z, gm38_158 y = some (r, z) ∧ (∃ Q, CQ S B x q Q z) ∧ PlR B (x.1 140) (rdB x) (sdB x S) σ0 g r z := by
  obtain ⟨⟨k1, k2⟩, _, ⟨w3, w4, w5, w56, w57⟩, hLH, hbt, hit, hcd, hcl⟩ := id hC
  have hi5 : ∀ b, b < B → aIn (x.1 140 b) 5 = true := fun b hb => aIn_up (hit b hb) k1
  have hw : ∀ v, ∀ a, ¬ a = 130 → (wI y 130 12 v).1 a = y.1 a := fun v a ha => wI_ne ha
  rcases hy with ⟨j, ⟨y1, y2, y3⟩, y4⟩ | ⟨t, y1, y2, y3⟩
  · have e40 : gm40 y = some 0 := by
      unfold gm40
      rw [y2]
      rfl
    refine ⟨-1, wI y 130 12 0, ?_, ⟨_, y1.of (fun a m1 m2 => wI_ne m1) (fun k m1 m2 => wI_nj m2) rfl⟩, Or.inl ⟨j, y3, y4, rfl, wI_j ..⟩⟩
    unfold gm38_158
    rw [e40, Option.bind_some, wI_nj (by decide), y2, if_pos rfl]
  · have hI := Qat_QI (rd := rdB x) (sd := sdB x S) k2 h0 hi5 hσ t
    have hn6 := QI_n k2 hi5 hI
    have hn1 : 1 ≤ (Qat (x.1 140) (rdB x) (sdB x S) B σ0 t).n := hI.1.1
    obtain ⟨C, ch, hc⟩ := chain_ex hI ((Qat (x.1 140) (rdB x) (sdB x S) B σ0 t).n) ((Qat (x.1 140) (rdB x) (sdB x S) B σ0 t).n - 1) (by omega) (by omega)
    have hc' := hc
    obtain ⟨c1, c2, c3, c4⟩ := hc
    have fb := y1.2.2.2.2.2.1.2
    have e40 : gm40 y = some (zI C) := by
      unfold gm40
      rw [y2, ← c2]
      exact s40_7 hc' hn6 (by omega) (fun i h0 hi => (fb i h0 hi).1) C 0 FU (by omega) (by unfold FU; omega)
    refine ⟨zI C, wI y 130 12 (zI C), ?_, ⟨_, y1.of (fun a m1 m2 => wI_ne m1) (fun k m1 m2 => wI_nj m2) rfl⟩, Or.inr ⟨t, C, ch, y3, hc', rfl, wI_j .., ?_, fun j hj => ?_⟩⟩
    · unfold gm38_158
      rw [e40, Option.bind_some, wI_nj (by decide), y2, if_neg (zI_ne_m1 (by omega)), wI_j]
    · rw [wI_nj (by decide), y2, c2]
    · obtain ⟨d1, d2, d3⟩ := c4 j hj
      obtain ⟨e1, e2⟩ := fb (ch j) d1 d2
      rw [hw _ 134 (by decide), hw _ 135 (by decide), e1, e2, d3]
      exact ⟨rfl, rfl⟩
theorem s38 (hC : ICat S B x) (h0 : 0 < B) (hσ : vSt B (x.1 140) σ0) (hq : q + 1 < 2147483648) (hs : x.1 130 8 = zI q) (hm : ∀ j, j < 6480 → (x.1 132 j).toInt ≤ q) (h137 : ∀ j, j < 5 → x.1 137 j = -1) {g : Nat} (hg : g < B) {q1 : Nat} (o1 : ¬ q1 = 138) (o2 : own q1 = 2) (hr : ∀ s, s < 5 → x.1 q1 s = σ0 s) :
    ∃ r z, gm38 q1 (zI g) x = some (r, z) ∧ (∃ Q, CQ S B x (q + 1) Q z) ∧ PlR B (x.1 140) (rdB x) (sdB x S) σ0 g r z := by
  obtain ⟨⟨k1, k2⟩, ⟨c1, c2, c3, c4⟩, ⟨w3, w4, w5, w56, w57⟩, hLH, hbt, hit, hcd, hcl⟩ := id hC
  have hi5 : ∀ b, b < B → aIn (x.1 140 b) 5 = true := fun b hb => aIn_up (hit b hb) k1
  generalize hya : wI (wI (wI x 130 8 (zI (q + 1))) 130 10 0) 130 11 (-1) = ya
  have a1 : ∀ a, ¬ a = 130 → ya.1 a = x.1 a := fun a ha => by rw [← hya, wI_ne ha, wI_ne ha, wI_ne ha]
  have a8 : ya.1 130 8 = zI (q + 1) := by rw [← hya, wI_nj (by decide), wI_nj (by decide), wI_j]
  have a10 : ya.1 130 10 = zI 0 := by rw [← hya, wI_nj (by decide), wI_j]; rfl
  have a11 : ya.1 130 11 = -1 := by rw [← hya, wI_j]
  have ea : SB 8 x ya := by
    rw [← hya]
    refine SB.I ?_ (by decide) (Or.inl rfl)
    refine SB.I ?_ (by decide) (Or.inl rfl)
    refine SB.I ?_ (by decide) (Or.inl rfl)
    exact SB.rf _ _
  obtain ⟨yb, b1, b2, b3, b4⟩ := s41 (its := x.1 140) k2 hi5 (y := ya) ⟨by rw [a1 2 (by decide)]; exact c3, by rw [a1 4 (by decide)]; exact w4⟩
  have eb : SB 8 x yb := ea.to ⟨fun a m1 m2 m3 => ⟨b3 a (fun w => m2 (by rw [w]; rfl)), by rw [b4]⟩, fun j _ _ => by rw [b3 138 (by decide)]⟩
  obtain ⟨yc, d1, d2, d3, d4, d5⟩ := s42 hC eb
  have ec : SB 8 x yc := eb.to ⟨fun a m1 m2 m3 => ⟨d3 a (fun w => m2 (by rw [w]; rfl)), by rw [d5]⟩, fun j _ _ => by rw [d3 138 (by decide)]⟩
  have q8 : own q1 = 2 → ¬ own q1 = 8 := fun w => by omega
  obtain ⟨v, v1, v2⟩ := s38_33 (its := x.1 140) k2 hσ (zI g) (y := yc) (q1 := q1) (fun s hs => by rw [ec.c q1 o1 (by omega) (by omega)]; exact hr s hs) 5 0 FU 0 (by omega) (by unfold FU; omega) (fun k hk => by
    rw [bt_0]
    exact ⟨fun w => absurd w (by decide), fun ⟨s, hs, _⟩ => absurd hs (Nat.not_lt_zero s)⟩)
  rw [← zI_0] at v1
  have c10 : yc.1 130 10 = zI 0 := by rw [d4 10 (by decide), b3 130 (by decide)]; exact a10
  obtain ⟨yd, f1, f2, f3, f4, f5, f6, f7⟩ := s43 c10 (by decide) v (-1) (-1)
  have ed : SB 8 x yd := ec.to ⟨fun a m1 m2 m3 => ⟨f6 a (fun w => m2 (by rw [w]; rfl)) (fun w => m2 (by rw [w]; rfl)) (fun w => m2 (by rw [w]; rfl)) (fun w => m2 (by rw [w]; rfl)), by rw [f7]⟩, fun j _ _ => by rw [f6 138 (by decide) (by decide) (by decide) (by decide)]⟩
  have d131 : ∀ b, b < B → yd.1 131 b = zI (plA (x.1 140) b * wtB (x.1 140) B (xi (x.1 140 b))) := fun b hb => by rw [f6 131 (by decide) (by decide) (by decide) (by decide), d3 131 (by decide)]; exact b2 b hb
  have cd : CatC B (x.1 140) yd := ⟨by rw [ed.c 2 (by decide) (by decide) (by decide)]; exact c3, by rw [ed.c 4 (by decide) (by decide) (by decide)]; exact w4, d131⟩
  obtain ⟨ye, g1, g2, g3, g4⟩ := s45 k2 hi5 hσ v2 cd
  have hN := num_lt k2 hi5 hσ
  have ee : SB 8 x ye := ed.to ⟨fun a m1 m2 m3 => ⟨g2 a (fun w => m2 (by rw [w]; rfl)), by rw [g3]⟩, fun j _ _ => by rw [g2 138 (by decide)]⟩
  have e130 : ∀ k, ¬ k = 10 → ¬ k = 9 → ye.1 130 k = ya.1 130 k := fun k m1 m2 => by rw [g2 130 (by decide), f5, if_neg m1, d4 k m2, b3 130 (by decide)]
  have e8 : ye.1 130 8 = zI (q + 1) := by rw [e130 8 (by decide) (by decide)]; exact a8
  have e10 : ye.1 130 10 = zI 1 := by rw [g2 130 (by decide), f5, if_pos rfl]
  have e11 : ye.1 130 11 = -1 := by rw [e130 11 (by decide) (by decide)]; exact a11
  have e132 : ye.1 132 = x.1 132 := by rw [g2 132 (by decide), f6 132 (by decide) (by decide) (by decide) (by decide), d3 132 (by decide), b3 132 (by decide), a1 132 (by decide)]
  have e137 : ye.1 137 = x.1 137 := by rw [g2 137 (by decide), f6 137 (by decide) (by decide) (by decide) (by decide), d3 137 (by decide), b3 137 (by decide), a1 137 (by decide)]
  generalize hyf : wI ye 132 (numS B (x.1 140) σ0) (zI (q + 1)) = yf
  have h1 : ∀ a, ¬ a = 132 → yf.1 a = ye.1 a := fun a ha => by rw [← hyf, wI_ne ha]
  have h132 : ∀ k, yf.1 132 k = if k = numS B (x.1 140) σ0 then zI (q + 1) else x.1 132 k := fun k => by rw [← hyf, wI_at, e132]
  have ef : SB 8 x yf := by rw [← hyf]; exact ee.I (by decide) (Or.inl rfl)
  have small : ∀ k, k < 6480 → ¬ x.1 132 k = zI (q + 1) := fun k hk w => by
    have := hm k hk
    rw [w, zI_int hq] at this
    omega
  have cq : CQ S B x (q + 1) (Qat (x.1 140) (rdB x) (sdB x S) B σ0 0) yf := by
    unfold CQ
    rw [h1 130 (by decide), h1 131 (by decide), h1 133 (by decide), h1 134 (by decide), h1 135 (by decide), h1 137 (by decide), e137, g2 131 (by decide), g2 133 (by decide), g2 134 (by decide), g2 135 (by decide)]
    refine ⟨ef, ⟨e8, e10, h137⟩, d131, fun k hk => ?_, fun k hk => ?_, ⟨?_, fun k h0 hk => ?_⟩, fun k hk => ?_, fun τ hτ w => ?_, fun m hm2 => ?_⟩
    · rw [g2 130 (by decide), f5, if_neg (by decide)]
      exact d2 k hk
    · have hk : k < 1 := hk
      rw [f2, if_pos (by omega)]
      exact v2
    · rw [f3, if_pos rfl]
    · have hk : k < 1 := hk
      omega
    · rw [h132]
      exact if_pos rfl
    · rw [h132] at w
      by_cases e : numS B (x.1 140) τ = numS B (x.1 140) σ0
      · exact Or.inl ⟨0, Nat.one_pos, (num_inj hτ hσ e).symm⟩
      · rw [if_neg e] at w
        exact absurd w (small _ (num_lt k2 hi5 hτ))
    · rw [h132]
      by_cases e : m = numS B (x.1 140) σ0
      · rw [if_pos e, zI_int hq]
        exact Int.le_refl _
      · rw [if_neg e]
        have := hm m hm2
        omega
  have i6 : aIn (zI (numS B (x.1 140) σ0)) 6480 = true := aIn_t hN (by omega)
  have n1 : ¬ zI (numS B (x.1 140) σ0) < 0 := by rw [show (0 : Int32) = zI 0 from rfl, zI_lt (by omega) (by omega)]; omega
  have n2 : ¬ zI (numS B (x.1 140) σ0) ≥ 6480 := by rw [show (6480 : Int32) = zI 6480 from rfl, zI_ge (by omega) (by omega)]; omega
  have st : gm38 q1 (zI g) x = gm38_104 (zI g) v yf := by
    have s0 : x.1 130 8 + 1 = zI (q + 1) := by rw [hs, zI_succ]
    unfold gm38
    rw [s0, hya, b1, Option.bind_some, d1, Option.bind_some, v1]
    unfold gm38_66
    rw [f1, Option.bind_some, g1, Option.bind_some, if_neg n1, if_neg n2, i6, cond_true, xi_zI (by omega), e8, hyf]
  have has0 : bt v g = true ↔ hasG (x.1 140) g σ0 := by
    rw [v2 g (by omega)]
    exact ⟨fun w => w.2, fun w => ⟨hg, w⟩⟩
  rw [st]
  unfold gm38_104
  rw [s101, Option.bind_some, hs_bt _ (by omega)]
  cases hb : bt v g with
  | false =>
    rw [if_pos ib_f]
    have ng : noG (x.1 140) g (Qat (x.1 140) (rdB x) (sdB x S) B σ0 (0 * B)) := by
      rw [Nat.zero_mul]
      intro k hk w
      rw [has0.mpr w] at hb
      exact absurd hb (by decide)
    obtain ⟨z, z1, z2⟩ := s38_120 hC h0 hσ hq hg 6480 0 FU yf (by omega) (by unfold FU; omega) ⟨by rw [Nat.zero_mul]; exact cq, by rw [h1 130 (by decide)]; exact e11, ng⟩
    rw [← zI_0] at z1
    unfold gm38_117
    rw [z1]
    exact s38_158 hC h0 hσ z2
  | true =>
    rw [if_neg ib_t]
    have cf : CF S B x (q + 1) σ0 g (wI yf 130 11 0) := by
      refine ⟨0, cq.of (fun a m1 m2 => wI_ne m1) (fun k m1 m2 => wI_nj m1) rfl, wI_j .., has0.mp hb, fun k hk => absurd hk (Nat.not_lt_zero k)⟩
    unfold gm38_117
    rw [show FU = 19999 + 1 from rfl, s38_F hC h0 hσ cf 19999]
    exact s38_158 hC h0 hσ (Or.inr cf)
end ALL
