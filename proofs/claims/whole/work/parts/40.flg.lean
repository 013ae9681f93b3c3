/-! The flags' calls: loops -/
def ovl (a b f t : Int32) : Bool := !(decide (f ≥ b)) && (!(decide (a ≥ t)) && (!(decide (f ≥ t)) && !(decide (a ≥ b))))
theorem ovl_cls (a b f t : Int32) : ((if a < f then f else a) ≥ (if t < b then t else b)) ↔ ovl a b f t = false := by
  have h : ovl a b f t = true ↔ ¬ (f ≥ b) ∧ ¬ (a ≥ t) ∧ ¬ (f ≥ t) ∧ ¬ (a ≥ b) := by
    unfold ovl
    simp only [Bool.and_eq_true, Bool.not_eq_true', decide_eq_false_iff_not]
  rw [← Bool.not_eq_true, h]
  simp only [i_ge, i_lt]
  by_cases h1 : a.toInt < f.toInt
  · by_cases h2 : t.toInt < b.toInt
    · rw [if_pos h1, if_pos h2]; omega
    · rw [if_pos h1, if_neg h2]; omega
  · by_cases h2 : t.toInt < b.toInt
    · rw [if_neg h1, if_pos h2]; omega
    · rw [if_neg h1, if_neg h2]; omega
/-- the reference's own part -/
def MF (F U : Nat) (x : Hs) : Prop := (F ≤ 12 ∧ U ≤ 30) ∧ x.1 138 31 = zI F ∧ x.1 138 37 = zI U ∧ (∀ k, k < F → x.1 169 k = -1 ∨ aIn (x.1 169 k) k = true) ∧ (∀ i j, i < U → j < U → x.1 171 i = x.1 171 j → i = j)
theorem IFlg.mf {F U : Nat} {x : Hs} (h : IFlg F U x) : MF F U x := ⟨h.1, h.2.1.2.1, h.2.1.2.2.2, h.2.2.2.2.1, h.2.2.2.2.2.1⟩
theorem MF.of {F U : Nat} {x y : Hs} (h : MF F U x) (c1 : y.1 138 31 = x.1 138 31) (c2 : y.1 138 37 = x.1 138 37) (c3 : y.1 169 = x.1 169) (c4 : y.1 171 = x.1 171) : MF F U y := by
  unfold MF at h ⊢
  rw [c1, c2, c3, c4]
  exact h
section FLG
variable {F U : Nat} {x : Hs}
/-- a flag k of the layer, but one, has one of the buckets -/
def cfl (x : Hs) (l a b but : Int32) (k : Nat) : Bool := !(decide (zI k = but)) && (decide (x.1 166 k = l) && ovl a b (x.1 167 k) (x.1 168 k))
theorem s24_3 (hF : IFlg F U x) (l a b but : Int32) : ∀ d n i, i + d = F → d < n → gm24_3 n l a b but (zI i) x = some (b2i (!(anyF (cfl x l a b but) d i)))
  | _, 0, _, _, h => by omega
  | 0, n + 1, i, e, _ => by
    obtain ⟨⟨k1, k2⟩, ⟨e1, e2, e3, e4⟩, ⟨w108, w109, w110, w111, w112, w113, w114⟩, -⟩ := hF
    rw [gm24_3, if_pos ((ge_lit e1 (by omega) (by omega)).mpr (by omega))]
    rfl
  | d + 1, n + 1, i, e, h => by
    have ih := s24_3 hF l a b but d n (i + 1) (by omega) (by omega)
    obtain ⟨⟨k1, k2⟩, ⟨e1, e2, e3, e4⟩, ⟨w108, w109, w110, w111, w112, w113, w114⟩, -⟩ := hF
    rw [gm24_3, if_neg (fun w => by have := (ge_lit e1 (by omega) (by omega)).mp w; omega), aIn_t (by omega) (by omega), cond_true, cond_true, cond_true, xi_zI (by omega), w108, w109, w110, anyF]
    unfold gm24_57
    rw [zI_succ, ih]
    by_cases q1 : zI i = but
    · rw [if_pos q1]
      unfold cfl
      rw [decide_eq_true q1]
      rfl
    · rw [if_neg q1]
      by_cases q2 : x.1 166 i = l
      · rw [if_pos q2]
        cases q3 : ovl a b (x.1 167 i) (x.1 168 i) with
        | false =>
          rw [if_pos ((ovl_cls _ _ _ _).mpr q3)]
          unfold cfl
          rw [q3, Bool.and_false, Bool.and_false, Bool.false_or]
        | true =>
          rw [if_neg (fun w => by rw [(ovl_cls _ _ _ _).mp w] at q3; cases q3)]
          unfold cfl
          rw [q3, decide_eq_false q1, decide_eq_true q2]
          rfl
      · rw [if_neg q2]
        unfold cfl
        rw [decide_eq_false q2, Bool.false_and, Bool.and_false, Bool.false_or]
theorem s24 (hF : IFlg F U x) (l a b but : Int32) : gm24 l a b but x = some (b2i (!(anyF (cfl x l a b but) F 0))) :=
  s24_3 hF l a b but F FU 0 (by omega) (by have := hF.1; unfold FU; omega)
theorem s147_6 (hB : x.1 138 31 = zI F) (hb : F ≤ 12) (l a b but : Int32) : ∀ d n i e, i + d = F → d < n → gm147_6 n l a b but (b2i e) (zI i) x = some (b2i (e || anyF (cfl x l a b but) d i))
  | _, 0, _, _, _, h => by omega
  | 0, n + 1, i, e, h0, _ => by
    rw [gm147_6, if_pos ((ge_lit hB (by omega) (by omega)).mpr (by omega)), aBit_b, cond_true, anyF, Bool.or_false]
  | d + 1, n + 1, i, e, h0, h => by
    rw [gm147_6, if_neg (fun w => by have := (ge_lit hB (by omega) (by omega)).mp w; omega)]
    have ih := fun c => s147_6 hB hb l a b but d n (i + 1) c (by omega) (by omega)
    have iht : gm147_6 n l a b but 1 (zI (i + 1)) x = some (b2i true) := ih true
    have ihf : gm147_6 n l a b but 0 (zI (i + 1)) x = some (b2i (anyF (cfl x l a b but) d (i + 1))) := by have := ih false; rw [Bool.false_or] at this; exact this
    unfold gm147_86 gm147_82 gm147_87
    rw [zI_succ, anyF, iht, ihf]
    cases e with
    | true =>
      rw [if_neg ib_t]
      rfl
    | false =>
      rw [if_pos ib_f, aIn_t (by omega) (by omega), cond_true, cond_true, cond_true, cond_true, cond_true, xi_zI (by omega), Bool.false_or]
      unfold cfl
      by_cases q1 : zI i = but
      · rw [if_pos q1, decide_eq_true q1]; rfl
      · rw [if_neg q1, decide_eq_false q1]
        by_cases q2 : x.1 166 i = l
        · rw [if_pos q2, decide_eq_true q2]
          unfold ovl
          by_cases q3 : x.1 167 i ≥ b
          · rw [if_pos q3, decide_eq_true q3]; rfl
          · rw [if_neg q3, decide_eq_false q3]
            by_cases q4 : a ≥ x.1 168 i
            · rw [if_pos q4, decide_eq_true q4]; rfl
            · rw [if_neg q4, decide_eq_false q4]
              by_cases q5 : x.1 167 i ≥ x.1 168 i
              · rw [if_pos q5, decide_eq_true q5]; rfl
              · rw [if_neg q5, decide_eq_false q5]
                by_cases q6 : a ≥ b
                · rw [if_pos q6, decide_eq_true q6]; rfl
                · rw [if_neg q6, decide_eq_false q6]; rfl
        · rw [if_neg q2, decide_eq_false q2]; rfl
theorem s147 (hB : x.1 138 31 = zI F) (hb : F ≤ 12) (l a b but : Int32) : gm147 l a b but x = some (b2i (anyF (cfl x l a b but) F 0)) :=
  s147_6 hB hb l a b but F FU 0 false (by omega) (by unfold FU; omega)
/-- the first of a row, the last of a row, -1 if none -/
def fstI (p : Nat → Bool) : Nat → Nat → Int32
  | 0, _ => -1
  | d + 1, i => cond (p i) (zI i) (fstI p d (i + 1))
def lstI (p : Nat → Bool) : Nat → Nat → Int32 → Int32
  | 0, _, r => r
  | d + 1, i, r => lstI p d (i + 1) (cond (p i) (zI i) r)
theorem fstI_sp (p : Nat → Bool) : ∀ d i, (fstI p d i = -1 ∧ ∀ j, i ≤ j → j < i + d → p j = false) ∨ (∃ j, i ≤ j ∧ j < i + d ∧ p j = true ∧ fstI p d i = zI j)
  | 0, i => Or.inl ⟨rfl, fun j h1 h2 => by omega⟩
  | d + 1, i => by
    rw [fstI]
    cases q : p i with
    | true => exact Or.inr ⟨i, Nat.le_refl _, by omega, q, rfl⟩
    | false =>
      rcases fstI_sp p d (i + 1) with ⟨h1, h2⟩ | ⟨j, h1, h2, h3, h4⟩
      · refine Or.inl ⟨h1, fun j h3 h4 => ?_⟩
        by_cases e : j = i
        · rw [e]; exact q
        · exact h2 j (by omega) (by omega)
      · exact Or.inr ⟨j, by omega, by omega, h3, h4⟩
theorem lstI_sp (p : Nat → Bool) : ∀ d i r, (lstI p d i r = r ∧ ∀ j, i ≤ j → j < i + d → p j = false) ∨ (∃ j, i ≤ j ∧ j < i + d ∧ p j = true ∧ lstI p d i r = zI j)
  | 0, i, r => Or.inl ⟨rfl, fun j h1 h2 => by omega⟩
  | d + 1, i, r => by
    rw [lstI]
    cases q : p i with
    | true =>
      rcases lstI_sp p d (i + 1) (cond true (zI i) r) with ⟨h1, h2⟩ | ⟨j, h1, h2, h3, h4⟩
      · exact Or.inr ⟨i, Nat.le_refl _, by omega, q, h1⟩
      · exact Or.inr ⟨j, by omega, by omega, h3, h4⟩
    | false =>
      rcases lstI_sp p d (i + 1) (cond false (zI i) r) with ⟨h1, h2⟩ | ⟨j, h1, h2, h3, h4⟩
      · refine Or.inl ⟨h1, fun j h3 h4 => ?_⟩
        by_cases e : j = i
        · rw [e]; exact q
        · exact h2 j (by omega) (by omega)
      · exact Or.inr ⟨j, by omega, by omega, h3, h4⟩
theorem lst_fst {p : Nat → Bool} {n : Nat} (h : ∀ i j, i < n → j < n → p i = true → p j = true → i = j) : lstI p n 0 (-1) = fstI p n 0 := by
  rcases fstI_sp p n 0 with ⟨h1, h2⟩ | ⟨j, h1, h2, h3, h4⟩ <;> rcases lstI_sp p n 0 (-1) with ⟨g1, g2⟩ | ⟨i, g1, g2, g3, g4⟩
  · rw [h1, g1]
  · rw [h2 i g1 g2] at g3; cases g3
  · rw [g2 j h1 h2] at h3; cases h3
  · rw [h4, g4, h i j (by omega) (by omega) g3 h3]
theorem fstI_cg {p q : Nat → Bool} : ∀ d i, (∀ j, i ≤ j → j < i + d → p j = q j) → fstI p d i = fstI q d i
  | 0, _, _ => rfl
  | d + 1, i, h => by rw [fstI, fstI, h i (Nat.le_refl _) (by omega), fstI_cg d (i + 1) (fun j h1 h2 => h j (by omega) (by omega))]
/-- a user's row, -1 if none -/
def rowU (x : Hs) (U : Nat) (u : Int32) : Int32 := fstI (fun k => decide (x.1 171 k = u)) U 0
theorem rowU_in (x : Hs) {U : Nat} (hU : U ≤ 30) (u : Int32) : rowU x U u = -1 ∨ (aIn (rowU x U u) U = true) := by
  unfold rowU
  rcases fstI_sp (fun k => decide (x.1 171 k = u)) U 0 with ⟨h1, _⟩ | ⟨j, h1, h2, h3, h4⟩
  · exact Or.inl h1
  · rw [h4]; exact Or.inr (aIn_t (by omega) (by omega))
theorem s25_2 (hF : IFlg F U x) (u : Int32) : ∀ d n i, i + d = U → d < n → gm25_2 n u (zI i) x = some (fstI (fun k => decide (x.1 171 k = u)) d i)
  | _, 0, _, _, h => by omega
  | 0, n + 1, i, e, _ => by
    obtain ⟨⟨k1, k2⟩, ⟨e1, e2, e3, e4⟩, _⟩ := hF
    rw [gm25_2, if_pos ((ge_lit e3 (by omega) (by omega)).mpr (by omega))]
    rfl
  | d + 1, n + 1, i, e, h => by
    have ih := s25_2 hF u d n (i + 1) (by omega) (by omega)
    obtain ⟨⟨k1, k2⟩, ⟨e1, e2, e3, e4⟩, ⟨w108, w109, w110, w111, w112, w113, w114⟩, -⟩ := hF
    rw [gm25_2, if_neg (fun w => by have := (ge_lit e3 (by omega) (by omega)).mp w; omega), aIn_t (by omega) (by omega), cond_true, xi_zI (by omega), w113, zI_succ, ih, fstI]
    by_cases q : x.1 171 i = u
    · rw [if_pos q, decide_eq_true q]; rfl
    · rw [if_neg q, decide_eq_false q]; rfl
theorem s25 (hF : IFlg F U x) (u : Int32) : gm25 u x = some (rowU x U u) := s25_2 hF u U FU 0 (by omega) (by have := hF.1; unfold FU; omega)
theorem s153_4 (hB : x.1 138 37 = zI U) (hb : U ≤ 30) (u : Int32) : ∀ d n i r, i + d = U → d < n → gm153_4 n u r (zI i) x = some (lstI (fun k => decide (x.1 171 k = u)) d i r)
  | _, 0, _, _, _, h => by omega
  | 0, n + 1, i, r, h0, _ => by
    rw [gm153_4, if_pos ((ge_lit hB (by omega) (by omega)).mpr (by omega))]
    rfl
  | d + 1, n + 1, i, r, h0, h => by
    have ih := fun r => s153_4 hB hb u d n (i + 1) r (by omega) (by omega)
    rw [gm153_4, if_neg (fun w => by have := (ge_lit hB (by omega) (by omega)).mp w; omega), aIn_t (by omega) (by omega), cond_true, xi_zI (by omega), lstI]
    unfold gm153_27
    rw [zI_succ, ih, ih]
    by_cases q : x.1 171 i = u
    · rw [if_pos q, decide_eq_true q]; rfl
    · rw [if_neg q, decide_eq_false q]; rfl
theorem s153 (hB : x.1 138 37 = zI U) (hb : U ≤ 30) (hu : ∀ i j, i < U → j < U → x.1 171 i = x.1 171 j → i = j) (u : Int32) : gm153 u x = some (rowU x U u) := by
  have h := s153_4 hB hb u U FU 0 (-1) (by omega) (by unfold FU; omega)
  rw [lst_fst (fun i j hi hj pi pj => hu i j hi hj ((of_decide_eq_true pi).trans (of_decide_eq_true pj).symm))] at h
  exact h
/-- the bucket of a user in a layer -/
def bkt (a0 a1 : Int32) : Int32 := (Int64.toInt32 ((((Int32.toInt64 (((a0 * 73) + (a1 * 31)) + 7)) * (Int32.toInt64 (((a0 * 73) + (a1 * 31)) + 7))) - ((Int32.toInt64 (((a0 * 73) + (a1 * 31)) + 7)) * (Int32.toInt64 (((a0 * 73) + (a1 * 31)) + 7))) / 9973 * 9973) - (((Int32.toInt64 (((a0 * 73) + (a1 * 31)) + 7)) * (Int32.toInt64 (((a0 * 73) + (a1 * 31)) + 7))) - ((Int32.toInt64 (((a0 * 73) + (a1 * 31)) + 7)) * (Int32.toInt64 (((a0 * 73) + (a1 * 31)) + 7))) / 9973 * 9973) / 100 * 100))
theorem s152 (a0 a1 : Int32) (x : Hs) : gm152 a0 a1 x = some (bkt a0 a1) := rfl
def inR (b f t : Int32) : Bool := !(decide (b < f)) && decide (b < t)
theorem s28 (hF : IFlg F U x) {a1 : Int32} (u : Int32) (h : aIn a1 12 = true) : gm28 a1 u x = some (b2i (inR (bkt u (x.1 166 (xi a1))) (x.1 167 (xi a1)) (x.1 168 (xi a1)))) := by
  obtain ⟨_, _, ⟨w108, w109, w110, w111, w112, w113, w114⟩, -⟩ := hF
  have e : gm28 a1 u x = cond (aIn a1 12) (cond (aIn a1 12) (if bkt u (x.1 108 (xi a1)) < x.1 109 (xi a1) then some 0 else (cond (aIn a1 12) (if bkt u (x.1 108 (xi a1)) ≥ x.1 110 (xi a1) then some 0 else some 1) none)) none) none := rfl
  rw [e, h, cond_true, cond_true, cond_true, w108, w109, w110]
  unfold inR
  by_cases q1 : bkt u (x.1 166 (xi a1)) < x.1 167 (xi a1)
  · rw [if_pos q1, decide_eq_true q1]; rfl
  · rw [if_neg q1, decide_eq_false q1]
    by_cases q2 : bkt u (x.1 166 (xi a1)) < x.1 168 (xi a1)
    · rw [if_neg (by rw [i_ge]; rw [i_lt] at q2; omega), decide_eq_true q2]; rfl
    · rw [if_pos (by rw [i_ge]; rw [i_lt] at q2; omega), decide_eq_false q2]; rfl
/-- a flag by itself is on for a user whose kept set is kp -/
def own1 (x : Hs) (u kp : Int32) (k : Nat) : Bool := decide (x.1 170 k = 0) && (inR (bkt u (x.1 166 k)) (x.1 167 k) (x.1 168 k) || hs kp (zI k))
/-- with all that it needs, n steps deep -/
def onF (x : Hs) (u kp : Int32) : Nat → Nat → Bool
  | 0, _ => false
  | n + 1, k => own1 x u kp k && (decide (x.1 169 k = -1) || onF x u kp n (xi (x.1 169 k)))
theorem onF_eq (hF : MF F U x) (u kp : Int32) : ∀ n m k, k < n → k < m → k < F → onF x u kp n k = onF x u kp m k
  | 0, _, _, h, _, _ => by omega
  | _ + 1, 0, _, _, h, _ => by omega
  | n + 1, m + 1, k, h1, h2, h3 => by
    rw [onF, onF]
    by_cases q : x.1 169 k = -1
    · rw [decide_eq_true q]; rfl
    · rcases hF.2.2.2.1 k h3 with e | e
      · exact absurd e q
      · have := aIn_lt e
        rw [onF_eq hF u kp n m _ (by omega) (by omega) (by omega)]
theorem onF_step (hF : MF F U x) (u kp : Int32) {k : Nat} (h : k < F) : onF x u kp 13 k = (own1 x u kp k && (decide (x.1 169 k = -1) || onF x u kp 13 (xi (x.1 169 k)))) := by
  have hk := hF.1.1
  rw [onF]
  by_cases q : x.1 169 k = -1
  · rw [decide_eq_true q]; rfl
  · rcases hF.2.2.2.1 k h with e | e
    · exact absurd e q
    · have := aIn_lt e
      rw [onF_eq hF u kp 12 13 _ (by omega) (by omega) (by omega)]
/-- the mask of the flags below i that are on -/
def isMask (x : Hs) (u kp : Int32) (i : Nat) (m : Int32) : Prop := ∀ j, j < 32 → bt m j = (decide (j < i) && onF x u kp 13 j)
theorem s26_28 (hF : IFlg F U x) (u kp : Int32) : ∀ d n i m, i + d = F → d < n → isMask x u kp i m → ∃ m', gm26_28 n u kp m (zI i) x = some m' ∧ isMask x u kp F m'
  | _, 0, _, _, _, h, _ => by omega
  | 0, n + 1, i, m, e, _, hm => by
    refine ⟨m, ?_, ?_⟩
    · rw [gm26_28, if_pos ((ge_lit hF.2.1.1 (by have := hF.1; omega) (by have := hF.1; omega)).mpr (by omega))]
    · rw [show F = i by omega]; exact hm
  | d + 1, n + 1, i, m, e, h, hm => by
    have hk := hF.1
    have ih := fun m => s26_28 hF u kp d n (i + 1) m (by omega) (by omega)
    have i12 : aIn (zI i) 12 = true := aIn_t (by omega) (by omega)
    have xii : xi (zI i) = i := xi_zI (by omega)
    have st := onF_step hF.mf u kp (k := i) (by omega)
    have hmi : isMask x u kp (i + 1) (cond (onF x u kp 13 i) (m ||| (1 <<< (zI i &&& 31))) m) := by
      intro j hj
      cases q : onF x u kp 13 i with
      | true =>
        rw [cond_true, bt_or, hm j hj, bt_one31 (by omega)]
        by_cases hji : j = i
        · rw [hji, q, decide_eq_true rfl, Bool.or_true, decide_eq_true (by omega : i < i + 1)]; rfl
        · rw [decide_eq_false hji, Bool.or_false]
          by_cases h2 : j < i
          · rw [decide_eq_true h2, decide_eq_true (by omega : j < i + 1)]
          · rw [decide_eq_false h2, decide_eq_false (by omega : ¬ j < i + 1)]
      | false =>
        rw [cond_false, hm j hj]
        by_cases hji : j = i
        · rw [hji, q, Bool.and_false, Bool.and_false]
        · by_cases h2 : j < i
          · rw [decide_eq_true h2, decide_eq_true (by omega : j < i + 1)]
          · rw [decide_eq_false h2, decide_eq_false (by omega : ¬ j < i + 1)]
    obtain ⟨m', g1, g2⟩ := ih _ hmi
    refine ⟨m', ?_, g2⟩
    rw [← g1]
    obtain ⟨⟨k1, k2⟩, ⟨e1, e2, e3, e4⟩, ⟨w108, w109, w110, w111, w112, w113, w114⟩, hkl, hnd, -⟩ := id hF
    have t := s28 hF u i12
    rw [xii] at t
    rw [gm26_28, if_neg (fun w => by have := (ge_lit e1 (by omega) (by omega)).mp w; omega), s101, Option.bind_some, t, Option.bind_some]
    unfold gm26_56 gm26_61 gm26_89 gm26_94 gm26_125
    rw [xii, i12, cond_true, cond_true, cond_true, cond_true, zI_succ, w111, w112, s101, Option.bind_some]
    unfold own1 at st
    rw [st]
    have hneed : ∀ q : ¬ x.1 169 i = -1, hs m (x.1 169 i) = onF x u kp 13 (xi (x.1 169 i)) := by
      intro q
      rcases hnd i (by omega) with e | e
      · exact absurd e q
      · obtain ⟨j, hj, ej⟩ := aIn_ex e
        rw [ej, hs_bt m (by omega), hm j (by omega), xi_zI (by omega), decide_eq_true (by omega : j < i), Bool.true_and]
    by_cases q1 : x.1 170 i = 0
    · by_cases q2 : x.1 169 i = -1
      · simp only [if_pos q1, if_pos q2, decide_eq_true q1, decide_eq_true q2, cond_true]
        cases hs kp (zI i) <;> cases inR (bkt u (x.1 166 i)) (x.1 167 i) (x.1 168 i) <;> rfl
      · simp only [if_pos q1, if_neg q2, decide_eq_true q1, decide_eq_false q2, cond_true, hneed q2]
        cases hs kp (zI i) <;> cases inR (bkt u (x.1 166 i)) (x.1 167 i) (x.1 168 i) <;> cases onF x u kp 13 (xi (x.1 169 i)) <;> rfl
    · by_cases q2 : x.1 169 i = -1
      · simp only [if_neg q1, if_pos q2, decide_eq_false q1, decide_eq_true q2, cond_true]
        cases hs kp (zI i) <;> cases inR (bkt u (x.1 166 i)) (x.1 167 i) (x.1 168 i) <;> rfl
      · simp only [if_neg q1, if_neg q2, decide_eq_false q1, decide_eq_false q2, cond_true, hneed q2]
        cases hs kp (zI i) <;> cases inR (bkt u (x.1 166 i)) (x.1 167 i) (x.1 168 i) <;> cases onF x u kp 13 (xi (x.1 169 i)) <;> rfl
/-- what is kept for a row -/
def kpt (x : Hs) (r : Int32) : Int32 := if r = -1 then 0 else x.1 172 (xi r)
theorem s26 (hF : IFlg F U x) (u : Int32) : ∃ m, gm26 u x = some m ∧ isMask x u (kpt x (rowU x U u)) F m := by
  have hk := hF.1
  have h0 : ∀ kp, isMask x u kp 0 0 := fun kp j _ => by rw [bt_0, decide_eq_false (by omega), Bool.false_and]
  have w114 := hF.2.2.1.2.2.2.2.2.2
  rcases rowU_in x hk.2 u with hr | hr
  · obtain ⟨m, g1, g2⟩ := s26_28 hF u 0 F FU 0 0 (by omega) (by unfold FU; omega) (h0 0)
    refine ⟨m, ?_, ?_⟩
    · unfold gm26
      rw [s25 hF, Option.bind_some, if_pos hr]
      exact g1
    · unfold kpt
      rw [if_pos hr]
      exact g2
  · obtain ⟨m, g1, g2⟩ := s26_28 hF u (x.1 172 (xi (rowU x U u))) F FU 0 0 (by omega) (by unfold FU; omega) (h0 _)
    refine ⟨m, ?_, ?_⟩
    · unfold gm26
      rw [s25 hF, Option.bind_some, if_neg (aIn_ne hr), aIn_up hr hk.2, cond_true, w114]
      exact g1
    · unfold kpt
      rw [if_neg (aIn_ne hr)]
      exact g2
theorem s154_12 (hF : MF F U x) (u : Int32) {r : Int32} (hr : r = -1 ∨ aIn r 30 = true) : ∀ n k e, k < n → k < F → gm154_12 (n + 1) u r (b2i e) (zI k) x = some (b2i (e && onF x u (kpt x r) 13 k))
  | 0, _, _, h, _ => by omega
  | n + 1, k, e, h, hkF => by
    have hk := hF.1
    have i12 : aIn (zI k) 12 = true := aIn_t (by omega) (by omega)
    have xik : xi (zI k) = k := xi_zI (by omega)
    have st := onF_step hF u (kpt x r) hkF
    obtain ⟨⟨k1, k2⟩, e2, e4, hnd, hus⟩ := id hF
    have nx : ∀ e, gm154_12 (n + 1) u r (b2i e) (x.1 169 k) x = some (b2i (e && (decide (x.1 169 k = -1) || onF x u (kpt x r) 13 (xi (x.1 169 k))))) := by
      intro e
      by_cases q : x.1 169 k = -1
      · rw [gm154_12, if_pos q, aBit_b, cond_true, decide_eq_true q, Bool.true_or, Bool.and_true]
      · rcases hnd k hkF with e0 | e0
        · exact absurd e0 q
        · obtain ⟨j, hj, ej⟩ := aIn_ex e0
          rw [decide_eq_false q, Bool.false_or, ej, xi_zI (by omega)]
          exact s154_12 hF u hr n j e (by omega) (by omega)
    have nx1 := nx true
    have nx0 := nx false
    rw [Bool.true_and] at nx1
    rw [Bool.false_and] at nx0
    rw [b2i_t] at nx1
    rw [b2i_f] at nx0
    rw [gm154_12, if_neg (zI_ne_m1 (by omega))]
    simp only [i12, cond_true, s152, Option.bind_some, xik]
    unfold gm154_70 gm154_93 gm154_89 gm154_94
    simp only [i12, cond_true, xik, nx0, nx1, s115, Option.bind_some, st]
    cases e with
    | false => rw [if_pos ib_f]; rfl
    | true =>
      rw [if_neg ib_t, Bool.true_and]
      unfold own1 inR
      by_cases q1 : x.1 170 k = 0
      · rw [if_pos q1, decide_eq_true q1, Bool.true_and]
        have hx : (if r = -1 then some 0 else cond (aIn r 30) (if b2i (hs (x.1 172 (xi r)) (zI k)) = 0 then some 0 else some (b2i (decide (x.1 169 k = -1) || onF x u (kpt x r) 13 (xi (x.1 169 k))))) none) = some (b2i (hs (kpt x r) (zI k) && (decide (x.1 169 k = -1) || onF x u (kpt x r) 13 (xi (x.1 169 k))))) := by
          rcases hr with hr | hr
          · rw [if_pos hr]
            have : hs (kpt x r) (zI k) = false := by
              unfold kpt
              rw [if_pos hr, hs_bt 0 (by omega), bt_0]
            rw [this]
            rfl
          · rw [if_neg (aIn_ne hr), hr, cond_true]
            have : kpt x r = x.1 172 (xi r) := by unfold kpt; rw [if_neg (aIn_ne hr)]
            rw [this]
            cases hs (x.1 172 (xi r)) (zI k) <;> rfl
        rw [hx]
        by_cases q2 : bkt u (x.1 166 k) < x.1 167 k
        · rw [if_pos q2, decide_eq_true q2]; rfl
        · rw [if_neg q2, decide_eq_false q2]
          by_cases q3 : bkt u (x.1 166 k) < x.1 168 k
          · rw [if_pos q3, decide_eq_true q3]; rfl
          · rw [if_neg q3, decide_eq_false q3]; rfl
      · rw [if_neg q1, decide_eq_false q1]; rfl
theorem s154 (hF : MF F U x) (u : Int32) {k : Nat} (h : k < F) : gm154 (zI k) u x = some (b2i (onF x u (kpt x (rowU x U u)) 13 k)) := by
  have hk := hF.1
  unfold gm154
  rw [s153 hF.2.2.1 hk.2 hF.2.2.2.2, Option.bind_some]
  have hr : rowU x U u = -1 ∨ aIn (rowU x U u) 30 = true := by
    rcases rowU_in x hk.2 u with h | h
    · exact Or.inl h
    · exact Or.inr (aIn_up h hk.2)
  have := s154_12 hF u hr 19999 k true (by omega) h
  rw [Bool.true_and] at this
  exact this
end FLG
