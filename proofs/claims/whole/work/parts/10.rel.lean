/-! How an abstract heap, abstract locals and a method's surroundings stand for the machine's -/
def adr (B b0 : Nat) (a : Nat) : Nat := match a with
  | 0 => b0
  | k + 1 => B + k
def trV (B b0 : Nat) (v : Value) : Value := match v with
  | .ref a => .ref (adr B b0 a)
  | w => w
def aty (k : Nat) : FieldType := match k with
  | 0 => .int
  | 1 => .boolean
  | 2 => .long
  | 3 => .double
  | 4 => .array .int
  | 5 => .object RX7
  | 6 => .object RX8
  | _ => .object RX5
def rsl (k j : Nat) : Bool := cond (Nat.blt k 8) (Nat.ble 4 k) (cond (Nat.ble 100 k) (Nat.beq (fk (k - 100) j) 1) false)
/-- what a slot of an abstract cell holds -/
def svl (h : aHp) (a j : Nat) : Value := cond (rsl (h.2.1 a).1 j) (va_rf ((h.2.1 a).2.2 j)) (cond (Nat.beq (h.2.1 a).1 2) (.long (h.2.2.2.1 a j)) (cond (Nat.beq (h.2.1 a).1 3) (.double (h.2.2.2.2 a j)) (.int (h.2.2.1 a j))))
def cellR (D : va_G) (tc : Nat → ClassId) (B b0 : Nat) (scr : Cell) (h : aHp) (H : Heap) (a : Nat) : Prop :=
  ((h.2.1 a).1 < 8 → H[adr B b0 a]? = some (arrV (tc (h.2.1 a).1) (h.2.1 a).2.1 (fun j => trV B b0 (svl h a j)))) ∧
  ((h.2.1 a).1 = 8 → a = 0 ∧ H[adr B b0 a]? = some scr ∧ scr.slots.size = (h.2.1 a).2.1 ∧ ∀ j, j < (h.2.1 a).2.1 → scr.slots[j]? = some (.int (h.2.2.1 a j))) ∧
  (100 ≤ (h.2.1 a).1 → ∃ r : vw_C, vwCl[(h.2.1 a).1 - 100]? = some r ∧ t_OB (adr B b0 a) (D.1 ((h.2.1 a).1 - 100)) r.2.2 (D.2 ((h.2.1 a).1 - 100)) H (fun j => trV B b0 (svl h a j)))
def hRel (D : va_G) (tc : Nat → ClassId) (B b0 : Nat) (scr : Cell) (h : aHp) (H : Heap) : Prop :=
  b0 < B ∧ B + h.1.2 ≤ H.size + 1 ∧ (h.1.1 = 0 → H.size + 1 = B + h.1.2) ∧ 1 ≤ h.1.2 ∧ (h.2.1 0).1 = 8 ∧ ∀ a, a < h.1.2 → cellR D tc B b0 scr h H a
abbrev Aq (B : Nat) : Nat → Prop := fun q => B ≤ q
theorem adr_inj {B b0 a b : Nat} (h : b0 < B) (e : adr B b0 a = adr B b0 b) : a = b := by
  cases a <;> cases b <;> simp only [adr] at e <;> omega
theorem adr_lt {B b0 a n z : Nat} (h : b0 < B) (ha : a < n) (hz : B + n ≤ z + 1) : adr B b0 a < z := by
  cases a <;> simp only [adr] <;> omega
theorem adr_A {B b0 a : Nat} (ha : a ≠ 0) : Aq B (adr B b0 a) := by
  cases a with
  | zero => exact absurd rfl ha
  | succ k => exact Nat.le_add_right B k
/-- another cell: kept -/
theorem cellR.kept {D : va_G} {tc : Nat → ClassId} {B b0 : Nat} {scr : Cell} {h h' : aHp} {H H' : Heap} {a : Nat} (c : cellR D tc B b0 scr h H a) (hs : h'.2.1 a = h.2.1 a) (hI : h'.2.2.1 a = h.2.2.1 a) (hv : ∀ j, svl h' a j = svl h a j) (hq : H'[adr B b0 a]? = H[adr B b0 a]?) : cellR D tc B b0 scr h' H' a := by
  obtain ⟨c1, c2, c3⟩ := c
  refine ⟨fun k => ?_, fun k => ?_, fun k => ?_⟩
  · rw [hs] at k ⊢
    rw [hq, c1 k]
    congr 2
    funext j
    rw [hv]
  · rw [hs] at k ⊢
    obtain ⟨d1, d2, d3, d4⟩ := c2 k
    exact ⟨d1, hq.trans d2, d3, fun j hj => by rw [d4 j hj, hI]⟩
  · rw [hs] at k ⊢
    obtain ⟨r, d1, d2⟩ := c3 k
    refine ⟨r, d1, ?_⟩
    have e : (fun j => trV B b0 (svl h' a j)) = (fun j => trV B b0 (svl h a j)) := by
      funext j
      rw [hv]
    rw [e]
    exact d2.kept hq
/-- one cell is written -/
theorem hRel.put {D : va_G} {tc : Nat → ClassId} {B b0 : Nat} {scr : Cell} {h h' : aHp} {H H' : Heap} {a : Nat} (r : hRel D tc B b0 scr h H) (ha : a < h.1.2) (h0 : a ≠ 0) (h1 : h'.1 = h.1) (hz : H'.size = H.size) (hq : ∀ q, q ≠ adr B b0 a → H'[q]? = H[q]?) (hs : ∀ b, b ≠ a → h'.2.1 b = h.2.1 b ∧ h'.2.2.1 b = h.2.2.1 b ∧ h'.2.2.2.1 b = h.2.2.2.1 b ∧ h'.2.2.2.2 b = h.2.2.2.2 b) (c : cellR D tc B b0 scr h' H' a) : hRel D tc B b0 scr h' H' := by
  obtain ⟨r1, r2, r3, r4, r5, r6⟩ := r
  refine ⟨r1, by rw [h1, hz]; exact r2, by rw [h1, hz]; exact r3, by rw [h1]; exact r4, by rw [(hs 0 (fun e => h0 e.symm)).1]; exact r5, fun b hb => ?_⟩
  by_cases e : b = a
  · subst e
    exact c
  · obtain ⟨s1, s2, s3, s4⟩ := hs b e
    refine (r6 b (by rw [← h1]; exact hb)).kept s1 s2 (fun j => ?_) (hq _ (fun z => e (adr_inj r1 z)))
    unfold svl
    rw [s1, s2, s3, s4]
theorem hRel.grow {D : va_G} {tc : Nat → ClassId} {B b0 : Nat} {scr : Cell} {h : aHp} {H H' : Heap} (r : hRel D tc B b0 scr h H) (hm : h.1.1 = 1) (hz : H.size ≤ H'.size) (hq : ∀ q, q < H.size → H'[q]? = H[q]?) : hRel D tc B b0 scr h H' := by
  obtain ⟨r1, r2, r3, r4, r5, r6⟩ := r
  refine ⟨r1, Nat.le_trans r2 (Nat.succ_le_succ hz), fun e => by omega, r4, r5, fun b hb => ?_⟩
  exact (r6 b hb).kept rfl rfl (fun j => rfl) (hq _ (adr_lt r1 hb r2))
/-- locals -/
def lRel (B b0 : Nat) (ls : Array Slot) (nL : Nat) (L : List (Option Value)) : Prop := ls.size = nL ∧ lv_wf ls ∧ ∀ (i : Nat) (v : Value), L.getD i none = some v → ls[i]? = some (.val (trV B b0 v))
theorem trV_cat (B b0 : Nat) (v : Value) : (trV B b0 v).category = v.category := by cases v <;> rfl
theorem cat_is2 (v : Value) : v.category = 2 ↔ aIs2 (some v) = true := by cases v <;> simp [Value.category, aIs2]
theorem cat_is1 {v : Value} (h : aIs2 (some v) = false) : v.category = 1 := by cases v <;> simp [Value.category, aIs2] at h ⊢
/-- the known locals as the kit's list -/
def lLst (B b0 : Nat) (n : Nat) (L : List (Option Value)) : List (Nat × Value) := (List.range n).filterMap (fun i => (L.getD i none).map (fun v => (i, trV B b0 v)))
theorem lLst_mem {B b0 n i : Nat} {L : List (Option Value)} {v : Value} (hi : i < n) (h : L.getD i none = some v) : (i, trV B b0 v) ∈ lLst B b0 n L := by
  refine List.mem_filterMap.mpr ⟨i, List.mem_range.mpr hi, ?_⟩
  rw [h]
  rfl
theorem lRel.has {B b0 nL n : Nat} {ls : Array Slot} {L : List (Option Value)} (r : lRel B b0 ls nL L) : lv_has ls nL (lLst B b0 n L) := by
  refine ⟨r.1, r.2.1, fun q hq => ?_⟩
  obtain ⟨i, -, h⟩ := List.mem_filterMap.mp hq
  cases hv : L.getD i none with
  | none => rw [hv] at h; cases h
  | some v =>
    rw [hv] at h
    cases h
    exact r.2.2 i v hv
theorem getD_set {α : Type} (L : List (Option α)) (i j : Nat) (x : Option α) : (L.set i x).getD j none = if j = i then (if i < L.length then x else none) else L.getD j none := by
  simp only [List.getD_eq_getElem?_getD, List.getElem?_set]
  by_cases h : i = j
  · subst h
    by_cases h2 : i < L.length
    · simp [h2]
    · simp [h2]
  · simp [h, Ne.symm h]
theorem getD_len {α : Type} {L : List (Option α)} {i : Nat} {v : α} (h : L.getD i none = some v) : i < L.length := by
  rcases Nat.lt_or_ge i L.length with q | q
  · exact q
  · rw [List.getD_eq_getElem?_getD, List.getElem?_eq_none q] at h
    cases h
/-- fewer known locals -/
theorem lRel.less {B b0 nL : Nat} {ls : Array Slot} {L L' : List (Option Value)} (r : lRel B b0 ls nL L) (h : ∀ i v, L'.getD i none = some v → L.getD i none = some v) : lRel B b0 ls nL L' := ⟨r.1, r.2.1, fun i v q => r.2.2 i v (h i v q)⟩
theorem lRel.lt {B b0 nL i : Nat} {ls : Array Slot} {L : List (Option Value)} {v : Value} (r : lRel B b0 ls nL L) (h : L.getD i none = some v) : i < nL := by
  rw [← r.1]
  exact lv_lt (r.2.2 i v h)
theorem aClr_get {L : List (Option Value)} {i j : Nat} {v : Value} (h : (aClr L i).getD j none = some v) : L.getD j none = some v ∧ ¬ (j + 1 = i ∧ aIs2 (some v) = true) := by
  cases i with
  | zero => exact ⟨h, fun q => by omega⟩
  | succ k =>
    have h : (cond (aIs2 (L.getD k none)) (L.set k none) L).getD j none = some v := h
    cases hb : aIs2 (L.getD k none) with
    | false =>
      rw [hb] at h
      have h5 : L.getD j none = some v := h
      refine ⟨h5, fun q => ?_⟩
      obtain ⟨q1, q2⟩ := q
      have q3 : j = k := by omega
      rw [← q3, h5, q2] at hb
      cases hb
    | true =>
      rw [hb] at h
      have h : (L.set k none).getD j none = some v := h
      rw [getD_set] at h
      by_cases e : j = k
      · rw [if_pos e] at h
        split at h <;> cases h
      · rw [if_neg e] at h
        exact ⟨h, fun q => by omega⟩
theorem aMk_get : ∀ (m : Nat) (L : List (Option Value)) (i : Nat) (v : Value), (aMk m L).getD i none = some v → L.getD i none = some v
  | _, [], i, v, h => by simp [aMk] at h
  | m, x :: l, i, v, h => by
    unfold aMk at h
    cases i with
    | zero =>
      cases hb : Nat.beq (m % 2) 1 with
      | false => rw [hb] at h; exact h
      | true => rw [hb] at h; cases h
    | succ j =>
      simp only [List.getD_cons_succ] at h ⊢
      exact aMk_get (m / 2) l j v h
theorem aMb_get {m : Nat} {L : List (Option Value)} {i : Nat} {v : Value} (h : (aMb m L).getD i none = some v) : L.getD i none = some v := by
  unfold aMb at h
  cases hb : Nat.beq m 0 with
  | true => rw [hb] at h; exact h
  | false => rw [hb] at h; exact aMk_get m L i v h
theorem lRel.mb {B b0 nL m : Nat} {ls : Array Slot} {L : List (Option Value)} (r : lRel B b0 ls nL L) : lRel B b0 ls nL (aMb m L) := r.less (fun _ _ h => aMb_get h)
/-- a store of one word: what the kit says of the new locals -/
theorem lRel.set1 {B b0 nL i : Nat} {ls' : Array Slot} {L : List (Option Value)} {v : Value} (hc : v.category = 1) (h : lv_has ls' nL ((i, trV B b0 v) :: (lLst B b0 nL L).filter (fun q => !(q.1 == i) && !(q.1 + 1 == i && q.2.category == 2)))) (hb : ∀ j w, L.getD j none = some w → j < nL) : lRel B b0 ls' nL (aSet1 L i v) := by
  refine ⟨h.1, h.2.1, fun j w hj => ?_⟩
  obtain ⟨h1, h2⟩ := aClr_get hj
  rw [getD_set] at h1
  by_cases e : j = i
  · rw [if_pos e] at h1
    split at h1
    · cases h1
      subst e
      exact h.2.2 _ List.mem_cons_self
    · cases h1
  · rw [if_neg e] at h1
    refine h.2.2 (j, trV B b0 w) (List.mem_cons_of_mem _ (List.mem_filter.mpr ⟨lLst_mem (hb j w h1) h1, ?_⟩))
    have e1 : (j == i) = false := by simp [e]
    have e2 : (j + 1 == i && (trV B b0 w).category == 2) = false := by
      rw [trV_cat]
      cases h3 : (j + 1 == i && w.category == 2) with
      | false => rfl
      | true =>
        simp only [Bool.and_eq_true, beq_iff_eq] at h3
        exact absurd ⟨h3.1, (cat_is2 w).mp h3.2⟩ h2
    show (!(j == i) && !(j + 1 == i && (trV B b0 w).category == 2)) = true
    rw [e1, e2]
    rfl
theorem lRel.set2 {B b0 nL i : Nat} {ls' : Array Slot} {L : List (Option Value)} {v : Value} (hc : v.category = 2) (h : lv_has ls' nL ((i, trV B b0 v) :: (lLst B b0 nL L).filter (fun q => !(q.1 == i) && (!(q.1 == i + 1) && !(q.1 + 1 == i && q.2.category == 2))))) (hb : ∀ j w, L.getD j none = some w → j < nL) : lRel B b0 ls' nL (aSet2 L i v) := by
  refine ⟨h.1, h.2.1, fun j w hj => ?_⟩
  obtain ⟨h1, h2⟩ := aClr_get hj
  rw [getD_set] at h1
  by_cases e0 : j = i + 1
  · rw [if_pos e0] at h1
    split at h1 <;> cases h1
  rw [if_neg e0, getD_set] at h1
  by_cases e : j = i
  · rw [if_pos e] at h1
    split at h1
    · cases h1
      subst e
      exact h.2.2 _ List.mem_cons_self
    · cases h1
  · rw [if_neg e] at h1
    refine h.2.2 (j, trV B b0 w) (List.mem_cons_of_mem _ (List.mem_filter.mpr ⟨lLst_mem (hb j w h1) h1, ?_⟩))
    have e1 : (j == i) = false := by simp [e]
    have e3 : (j == i + 1) = false := by simp [e0]
    have e2 : (j + 1 == i && (trV B b0 w).category == 2) = false := by
      rw [trV_cat]
      cases h3 : (j + 1 == i && w.category == 2) with
      | false => rfl
      | true =>
        simp only [Bool.and_eq_true, beq_iff_eq] at h3
        exact absurd ⟨h3.1, (cat_is2 w).mp h3.2⟩ h2
    show (!(j == i) && (!(j == i + 1) && !(j + 1 == i && (trV B b0 w).category == 2))) = true
    rw [e1, e2, e3]
    rfl
theorem lRel.bound {B b0 nL : Nat} {ls : Array Slot} {L : List (Option Value)} (r : lRel B b0 ls nL L) : ∀ j w, L.getD j none = some w → j < nL := fun _ _ h => r.lt h
