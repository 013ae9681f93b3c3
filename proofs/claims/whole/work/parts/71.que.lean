/-! States and their queue -/
def vSt (B : Nat) (its : Nat → Int32) (σ : Nat → Int32) : Prop := (∀ s, s < 5 → vB B its s (σ s)) ∧ ∀ s, 5 ≤ s → σ s = -1
def dgA (its : Nat → Int32) (σ : Nat → Int32) (s : Nat) : Nat := if σ s = -1 then 0 else plA its (xi (σ s))
def numS (B : Nat) (its : Nat → Int32) (σ : Nat → Int32) : Nat := numL (dgA its σ) (fun s => cnA its s B) 5
def codS (S B : Nat) (its : Nat → Int32) (σ : Nat → Int32) : Nat := cdL (dgA its σ) (fun s => cnA its s B) S
theorem dgA_le {B : Nat} {its σ : Nat → Int32} (h : vSt B its σ) (s : Nat) : dgA its σ s ≤ cnA its s B := by
  unfold dgA
  by_cases w : σ s = -1
  · rw [if_pos w]; exact Nat.zero_le _
  · rw [if_neg w]
    by_cases hs : s < 5
    · obtain ⟨h1, h2⟩ := (h.1 s hs).resolve_left w
      exact plA_le h2 hs (aIn_lt h1)
    · exact absurd (h.2 s (by omega)) w
theorem dgA_eq {B : Nat} {its σ τ : Nat → Int32} (h1 : vSt B its σ) (h2 : vSt B its τ) {s : Nat} (hs : s < 5) (e : dgA its σ s = dgA its τ s) : σ s = τ s := by
  unfold dgA at e
  by_cases w1 : σ s = -1
  · by_cases w2 : τ s = -1
    · rw [w1, w2]
    · rw [if_pos w1, if_neg w2] at e
      unfold plA at e
      omega
  · by_cases w2 : τ s = -1
    · rw [if_neg w1, if_pos w2] at e
      unfold plA at e
      omega
    · rw [if_neg w1, if_neg w2] at e
      obtain ⟨a1, a2⟩ := (h1.1 s hs).resolve_left w1
      obtain ⟨b1, b2⟩ := (h2.1 s hs).resolve_left w2
      rw [aIn_nat a1, aIn_nat b1, plA_inj a2 b2 hs e]
theorem num_inj {B : Nat} {its σ τ : Nat → Int32} (h1 : vSt B its σ) (h2 : vSt B its τ) (e : numS B its σ = numS B its τ) : σ = τ := by
  funext s
  by_cases hs : s < 5
  · exact dgA_eq h1 h2 hs (numL_inj (dgA_le h1) (dgA_le h2) 5 e s hs)
  · rw [h1.2 s (by omega), h2.2 s (by omega)]
theorem vSt_S {S B : Nat} {its σ : Nat → Int32} (hi : ∀ b, b < B → aIn (its b) S = true) (h : vSt B its σ) {s : Nat} (hs : S ≤ s) (h5 : S ≤ 5) : σ s = -1 := by
  by_cases w : s < 5
  · rcases h.1 s w with q | ⟨q1, q2⟩
    · exact q
    · have := hi _ (aIn_lt q1)
      rw [q2, aIn_zI (by omega)] at this
      exact absurd (of_decide_eq_true this) (by omega)
  · exact h.2 s (by omega)
theorem cod_inj {S B : Nat} {its σ τ : Nat → Int32} (h5 : S ≤ 5) (hi : ∀ b, b < B → aIn (its b) S = true) (h1 : vSt B its σ) (h2 : vSt B its τ) (e : codS S B its σ = codS S B its τ) : σ = τ := by
  funext s
  by_cases hs : s < S
  · exact dgA_eq h1 h2 (by omega) (cdL_inj (dgA_le h1) (dgA_le h2) S e s hs)
  · rw [vSt_S hi h1 (by omega) h5, vSt_S hi h2 (by omega) h5]
theorem wt_its {B : Nat} {its : Nat → Int32} (hB : B ≤ 24) (hi : ∀ b, b < B → aIn (its b) 5 = true) : wt (fun s => cnA its s B) 5 ≤ 6480 := wt5 _ (by rw [cnA_sum hi]; exact hB)
theorem num_lt {B : Nat} {its σ : Nat → Int32} (hB : B ≤ 24) (hi : ∀ b, b < B → aIn (its b) 5 = true) (h : vSt B its σ) : numS B its σ < 6480 := Nat.lt_of_lt_of_le (numL_lt (dgA_le h) 5) (wt_its hB hi)
theorem cod_lt {S B : Nat} {its σ : Nat → Int32} (hS : S ≤ 5) (hB : B ≤ 24) (hi : ∀ b, b < B → aIn (its b) 5 = true) (h : vSt B its σ) : codS S B its σ < 6480 := Nat.lt_of_lt_of_le (Nat.lt_of_lt_of_le (cdL_lt (dgA_le h) S) (wt_up _ hS)) (wt_its hB hi)
def upA (its σ : Nat → Int32) (b : Nat) : Nat → Int32 := fun s => if s = xi (its b) then zI b else σ s
theorem vSt_up {B : Nat} {its σ : Nat → Int32} (hB : B ≤ 24) (h : vSt B its σ) {b : Nat} (hb : b < B) (hi : aIn (its b) 5 = true) : vSt B its (upA its σ b) := by
  have hl := aIn_lt hi
  refine ⟨fun s hs => ?_, fun s hs => ?_⟩
  · unfold upA
    by_cases w : s = xi (its b)
    · rw [if_pos w]
      refine Or.inr ⟨aIn_t hb (by omega), ?_⟩
      rw [xi_zI (by omega), w]
      exact aIn_nat hi
    · rw [if_neg w]; exact h.1 s hs
  · unfold upA
    rw [if_neg (by omega)]
    exact h.2 s hs
theorem num_up {B : Nat} {its σ : Nat → Int32} (hB : B ≤ 24) {b t : Nat} (hb : b < B) (ht : t < 5) (et : its b = zI t) : numS B its (upA its σ b) + dgA its σ t * wt (fun s => cnA its s B) t = numS B its σ + plA its b * wt (fun s => cnA its s B) t := by
  have xt : xi (its b) = t := by rw [et, xi_zI (by omega)]
  have e : dgA its (upA its σ b) t = plA its b := by
    unfold dgA upA
    rw [if_pos xt.symm, if_neg (zI_ne_m1 (by omega)), xi_zI (by omega)]
  have := numL_set (cn := fun s => cnA its s B) (dg := dgA its (upA its σ b)) (dh := dgA its σ) (a := t) (fun s hs => by
    have e1 : upA its σ b s = σ s := if_neg (by rw [xt]; exact hs)
    unfold dgA
    rw [e1]) 5 ht
  rw [e] at this
  exact this
abbrev Qu : Type := Nat × (Nat → Nat → Int32) × (Nat → Nat) × (Nat → Nat)
def Qu.n (Q : Qu) : Nat := Q.1
def Qu.st (Q : Qu) : Nat → Nat → Int32 := Q.2.1
def Qu.fr (Q : Qu) : Nat → Nat := Q.2.2.1
def Qu.by_ (Q : Qu) : Nat → Nat := Q.2.2.2
def Qu.add (Q : Qu) (σ : Nat → Int32) (f b : Nat) : Qu := ⟨Q.n + 1, fun k => if k = Q.n then σ else Q.st k, fun k => if k = Q.n then f else Q.fr k, fun k => if k = Q.n then b else Q.by_ k⟩
def okA (its : Nat → Int32) (rd : Nat → Bool) (sd : (Nat → Int32) → Bool) (Q : Qu) (j b : Nat) : Prop :=
  j < Q.n ∧ rd b = true ∧ ¬ Q.st j (xi (its b)) = zI b ∧ sd (upA its (Q.st j) b) = true ∧ ∀ k, k < Q.n → ¬ Q.st k = upA its (Q.st j) b
noncomputable def stp (its : Nat → Int32) (rd : Nat → Bool) (sd : (Nat → Int32) → Bool) (Q : Qu) (j b : Nat) : Qu := @ite Qu (okA its rd sd Q j b) (Classical.propDecidable _) (Q.add (upA its (Q.st j) b) j b) Q
noncomputable def Qat (its : Nat → Int32) (rd : Nat → Bool) (sd : (Nat → Int32) → Bool) (B : Nat) (σ : Nat → Int32) : Nat → Qu
  | 0 => ⟨1, fun _ => σ, fun _ => 0, fun _ => 0⟩
  | t + 1 => stp its rd sd (Qat its rd sd B σ t) (t / B) (t % B)
/-- what holds of every queue -/
def QI (its : Nat → Int32) (B : Nat) (σ : Nat → Int32) (Q : Qu) : Prop :=
  (1 ≤ Q.n ∧ Q.st 0 = σ) ∧ (∀ k, k < Q.n → vSt B its (Q.st k)) ∧ (∀ j k, j < Q.n → k < Q.n → Q.st j = Q.st k → j = k) ∧
  ∀ k, 0 < k → k < Q.n → Q.fr k < k ∧ Q.by_ k < B ∧ Q.st k = upA its (Q.st (Q.fr k)) (Q.by_ k)
theorem QI_stp {its : Nat → Int32} {rd : Nat → Bool} {sd : (Nat → Int32) → Bool} {B : Nat} {σ : Nat → Int32} {Q : Qu} (hB : B ≤ 24) (hi : ∀ b, b < B → aIn (its b) 5 = true) (h : QI its B σ Q) {j b : Nat} (hb : b < B) : QI its B σ (stp its rd sd Q j b) := by
  unfold stp
  by_cases w : okA its rd sd Q j b
  case neg => rw [if_neg w]; exact h
  rw [if_pos w]
  obtain ⟨⟨h1, h2⟩, h3, h4, h5⟩ := h
  obtain ⟨w1, w2, w3, w4, w5⟩ := w
  refine ⟨⟨Nat.le_add_left _ _, ?_⟩, fun k hk => ?_, fun a k ha hk e => ?_, fun k h0 hk => ?_⟩
  · show (if 0 = Q.n then _ else Q.st 0) = σ
    rw [if_neg (by omega), h2]
  · show vSt B its (if k = Q.n then _ else Q.st k)
    by_cases q : k = Q.n
    · rw [if_pos q]
      exact vSt_up hB (h3 j w1) hb (hi b hb)
    · rw [if_neg q]
      have hk : k < Q.n + 1 := hk
      exact h3 k (by omega)
  · have ha : a < Q.n + 1 := ha
    have hk : k < Q.n + 1 := hk
    have e : (if a = Q.n then upA its (Q.st j) b else Q.st a) = (if k = Q.n then upA its (Q.st j) b else Q.st k) := e
    by_cases q1 : a = Q.n
    · by_cases q2 : k = Q.n
      · omega
      · rw [if_pos q1, if_neg q2] at e
        exact absurd e.symm (w5 k (by omega))
    · by_cases q2 : k = Q.n
      · rw [if_neg q1, if_pos q2] at e
        exact absurd e (w5 a (by omega))
      · rw [if_neg q1, if_neg q2] at e
        exact h4 a k (by omega) (by omega) e
  · have hk : k < Q.n + 1 := hk
    show (if k = Q.n then j else Q.fr k) < k ∧ (if k = Q.n then b else Q.by_ k) < B ∧ (if k = Q.n then upA its (Q.st j) b else Q.st k) = upA its (if (if k = Q.n then j else Q.fr k) = Q.n then upA its (Q.st j) b else Q.st (if k = Q.n then j else Q.fr k)) (if k = Q.n then b else Q.by_ k)
    by_cases q : k = Q.n
    · rw [if_pos q, if_pos q, if_pos q, if_neg (by omega)]
      exact ⟨by omega, hb, rfl⟩
    · have := h5 k h0 (by omega)
      rw [if_neg q, if_neg q, if_neg q, if_neg (by omega)]
      exact this
section QAT
variable {its : Nat → Int32} {rd : Nat → Bool} {sd : (Nat → Int32) → Bool} {B : Nat} {σ : Nat → Int32}
theorem Qat_QI (hB : B ≤ 24) (h0 : 0 < B) (hi : ∀ b, b < B → aIn (its b) 5 = true) (hσ : vSt B its σ) : ∀ t, QI its B σ (Qat its rd sd B σ t)
  | 0 => ⟨⟨Nat.le_refl _, rfl⟩, fun _ _ => hσ, fun j k hj hk _ => by
      have hj : j < 1 := hj
      have hk : k < 1 := hk
      omega, fun k h1 h2 => by
      have h2 : k < 1 := h2
      omega⟩
  | t + 1 => QI_stp hB hi (Qat_QI hB h0 hi hσ t) (Nat.mod_lt _ h0)
theorem QI_n {Q : Qu} (hB : B ≤ 24) (hi : ∀ b, b < B → aIn (its b) 5 = true) (h : QI its B σ Q) : Q.n ≤ 6480 :=
  pigeon 6480 Q.n (fun k => numS B its (Q.st k)) (fun k hk => num_lt hB hi (h.2.1 k hk)) (fun j k hj hk e => h.2.2.1 j k hj hk (num_inj (h.2.1 j hj) (h.2.1 k hk) e))
/-- a queue only grows, at its end -/
def Qle (P Q : Qu) : Prop := P.n ≤ Q.n ∧ ∀ k, k < P.n → Q.st k = P.st k ∧ Q.fr k = P.fr k ∧ Q.by_ k = P.by_ k
theorem Qle_rf (Q : Qu) : Qle Q Q := ⟨Nat.le_refl _, fun _ _ => ⟨rfl, rfl, rfl⟩⟩
theorem Qle_to {P Q R : Qu} (h : Qle P Q) (k : Qle Q R) : Qle P R := ⟨Nat.le_trans h.1 k.1, fun i hi => by
  obtain ⟨a1, a2, a3⟩ := h.2 i hi
  obtain ⟨b1, b2, b3⟩ := k.2 i (Nat.lt_of_lt_of_le hi h.1)
  exact ⟨b1.trans a1, b2.trans a2, b3.trans a3⟩⟩
theorem Qle_stp (Q : Qu) (j b : Nat) : Qle Q (stp its rd sd Q j b) := by
  unfold stp
  by_cases w : okA its rd sd Q j b
  case neg => rw [if_neg w]; exact Qle_rf Q
  rw [if_pos w]
  refine ⟨Nat.le_add_right _ _, fun k hk => ⟨if_neg (by omega), if_neg (by omega), if_neg (by omega)⟩⟩
theorem Qat_le {t u : Nat} (h : t ≤ u) : Qle (Qat its rd sd B σ t) (Qat its rd sd B σ u) := by
  induction u with
  | zero => rw [Nat.le_zero.mp h]; exact Qle_rf _
  | succ u ih =>
    by_cases w : t = u + 1
    · rw [w]; exact Qle_rf _
    · exact Qle_to (ih (by omega)) (Qle_stp _ _ _)
theorem Qat_stop (h0 : 0 < B) {j u : Nat} (h : (Qat its rd sd B σ (j * B)).n ≤ j) (hu : j * B ≤ u) : Qat its rd sd B σ u = Qat its rd sd B σ (j * B) := by
  induction u with
  | zero => rw [Nat.le_zero.mp hu]
  | succ u ih =>
    by_cases w : j * B = u + 1
    · rw [w]
    · have ih := ih (by omega)
      show stp its rd sd (Qat its rd sd B σ u) (u / B) (u % B) = _
      rw [ih]
      unfold stp
      rw [if_neg]
      intro q
      have : j ≤ u / B := (Nat.le_div_iff_mul_le h0).mpr (by omega)
      have := q.1
      omega
theorem Qat_at (j b : Nat) (hb : b < B) : Qat its rd sd B σ (j * B + b + 1) = stp its rd sd (Qat its rd sd B σ (j * B + b)) j b := by
  show stp its rd sd (Qat its rd sd B σ (j * B + b)) ((j * B + b) / B) ((j * B + b) % B) = _
  rw [Nat.mul_comm, Nat.mul_add_div (by omega), Nat.div_eq_of_lt hb, Nat.add_zero, Nat.mul_add_mod, Nat.mod_eq_of_lt hb]
/-- a state that runs g -/
def hasG (its : Nat → Int32) (g : Nat) (τ : Nat → Int32) : Prop := τ (xi (its g)) = zI g
theorem hasG_up {τ : Nat → Int32} {g b : Nat} (hg : g < 24) (hb : b < 24) (h : ¬ hasG its g τ) : hasG its g (upA its τ b) ↔ b = g := by
  unfold hasG upA at *
  by_cases w : b = g
  · subst w
    rw [if_pos rfl]
    exact ⟨fun _ => rfl, fun _ => rfl⟩
  · refine ⟨fun q => ?_, fun q => absurd q w⟩
    by_cases e : xi (its g) = xi (its b)
    · rw [if_pos e, zI_inj (by omega) (by omega)] at q
      exact q
    · rw [if_neg e] at q
      exact absurd q h
end QAT
