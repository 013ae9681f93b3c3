/-! Fields, by the classes' tables -/
theorem cl_at : ∀ a, a < 11 → vwCl[a]? = some (cn a, fT a, nf a)
  | 0, _ => rfl
  | 1, _ => rfl
  | 2, _ => rfl
  | 3, _ => rfl
  | 4, _ => rfl
  | 5, _ => rfl
  | 6, _ => rfl
  | 7, _ => rfl
  | 8, _ => rfl
  | 9, _ => rfl
  | 10, _ => rfl
  | n + 11, h => by omega
def dTy (a j : Nat) : Option FieldType := parseFieldDescriptor (fT a j).2.2.1
theorem nm_at : ∀ a, a < 11 → ∀ x, x < nf a → ∀ z, z < nf a → x ≠ z → (fT a x).2.1 ≠ (fT a z).2.1 := by decide +kernel
theorem ow_at : ∀ a, a < 11 → ∀ x, x < nf a → (fT a x).1 = cn a := by decide +kernel
theorem dt_at : ∀ a, a < 11 → ∀ x, x < nf a → (dTy a x).isSome = true := by decide +kernel
theorem dk_at : ∀ a, a < 11 → ∀ x, x < nf a → (fk a x = 0 → dTy a x = some .int) ∧ (fk a x = 2 → dTy a x = some .boolean) := by decide +kernel
theorem fk3_at : ∀ a, a < 11 → ∀ x, x < nf a → fk a x = 0 ∨ fk a x = 1 ∨ fk a x = 2 := by decide +kernel
theorem dr_at : ∀ a, a < 11 → ∀ x, x < nf a → fk a x = 1 → (match dTy a x with | some (.object _) => true | some (.array _) => true | _ => false) = true := by decide +kernel
theorem zf_at : ∀ a, a < 11 → ∀ x, x < nf a → wOK (zf a x) (u_lay (cn a) (fT a) x) = true := by decide +kernel
theorem fw_in {a : Nat} (ha : a < 11) : ∀ w ∈ u_ws (cn a) (fT a) (nf a), w ∈ BIG := by
  intro w hw
  obtain ⟨x, hx, rfl⟩ := List.mem_map.mp hw
  exact wOK_spec (zf_at a ha x (List.mem_range.mp hx))
theorem fOKw_spec {y k a b c d : Nat} (h : fOKw y k a b c d = true) : a < 11 ∧ b < nf a ∧ Cond.fieldLink (cn (ow y)) k (cn a) (fT a b).2.1 (fT a b).2.2.1 ∈ BIG ∧ c = fk a b := by
  unfold fOKw at h
  simp only [Bool.and_eq_true] at h
  obtain ⟨h1, h2, h3, h4⟩ := h
  exact ⟨Nat.le_of_ble_eq_true h1, Nat.le_of_ble_eq_true h2, wOK_spec h3, Nat.eq_of_beq_eq_true h4⟩
theorem aK_spec {h : aHp} {q k : Nat} (e : aK h q k = true) : q < h.1.2 ∧ (h.2.1 q).1 = k := by
  unfold aK at e
  rw [Bool.and_eq_true] at e
  exact ⟨Nat.le_of_ble_eq_true e.1, Nat.eq_of_beq_eq_true e.2⟩
theorem aIn_spec {x : Int32} {n : Nat} (e : aIn x n = true) : ¬ (x < 0 ∨ n ≤ x.toNatClampNeg) ∧ x.toNatClampNeg < n := by
  unfold aIn at e
  simp only [Bool.and_eq_true, Bool.not_eq_true', decide_eq_false_iff_not] at e
  have h2 : x.toNatClampNeg < n := Nat.le_of_ble_eq_true e.2
  exact ⟨fun q => q.elim e.1 (fun z => absurd h2 (Nat.not_lt.mpr z)), h2⟩
theorem aBit_spec {x : Int32} (e : aBit x = true) : x = 0 ∨ x = 1 := by
  unfold aBit at e
  simpa using e
theorem aBit_nar {x : Int32} (e : aBit x = true) : narrow .boolean (.int x) = .int x := by
  rcases aBit_spec e with rfl | rfl <;> rfl
theorem aBit_fit {x : Int32} (e : aBit x = true) : fits .boolean (.int x) = true := by
  rcases aBit_spec e with rfl | rfl <;> decide +kernel
theorem kind_ne0 {D : va_G} {tc : Nat → ClassId} {B b0 : Nat} {scr : Cell} {h : aHp} {H : Heap} {q : Nat} (r : hRel D tc B b0 scr h H) (hk : (h.2.1 q).1 ≠ 8) : q ≠ 0 := by
  intro e
  subst e
  exact hk r.2.2.2.2.1
section OB
variable {D : va_G} {tc : Nat → ClassId} {B b0 : Nat} {scr : Cell} {h : aHp} {H : Heap}
def flst (B b0 : Nat) (h : aHp) (q N : Nat) : List Value := (List.range N).map (fun j => trV B b0 (svl h q j))
theorem flst_at {N j q : Nat} (hj : j < N) : (flst B b0 h q N)[j]? = some (trV B b0 (svl h q j)) := by
  unfold flst
  rw [List.getElem?_map, List.getElem?_range hj]
  rfl
theorem objP {a q : Nat} (r : hRel D tc B b0 scr h H) (ha : a < 11) (hq : q < h.1.2) (hk : (h.2.1 q).1 = 100 + a) : va_P D vwCl [(adr B b0 q, .inr (a, flst B b0 h q (nf a)))] H := by
  obtain ⟨-, -, -, -, -, r6⟩ := r
  obtain ⟨-, -, c3⟩ := r6 q hq
  rw [hk, show 100 + a - 100 = a by omega] at c3
  obtain ⟨rr, d1, d2⟩ := c3 (by omega)
  intro k z hz
  have hk0 : k = 0 := by
    rcases k with _ | k
    · rfl
    · simp at hz
  subst hk0
  cases hz
  refine ⟨rr, d1, ?_⟩
  have e : rr = (cn a, fT a, nf a) := Option.some.inj (d1.symm.trans (cl_at a ha))
  subst e
  refine d2.to (fun j hj => ?_)
  show trV B b0 (svl h q j) = (flst B b0 h q (nf a)).getD j .null
  rw [List.getD_eq_getElem?_getD, flst_at hj]
  rfl
end OB
section PUT
variable {D : va_G} {tc : Nat → ClassId} {B b0 : Nat} {scr : Cell} {sa : Nat → Nat} {p : Program} {l : Launch} {e : Env} {R : Room} {s : State} {m : MethodId} {args : Array Value} {below : List Frame} {meth : Method} {c : Code} {H : Heap} {locs : List Loc} {cells slots : Nat} {Q : State → Prop} {y pc : Nat} {ls : Array Slot} {rest : List Value} {h h' : aHp}
/-- a field is written: the object's cell, and no other, is new -/
theorem fput {k a b q : Nat} {v : Value} {ty : FieldType} (C0 : cxP D tc B scr sa p R s m args meth c y) (ha : a < 11) (hb : b < nf a) (hw : Cond.fieldLink (cn (ow y)) k (cn a) (fT a b).2.1 (fT a b).2.2.1 ∈ BIG) (hfo : fOK y a b = true) (r : hRel D tc B b0 scr h H) (hq : q < h.1.2) (hk : (h.2.1 q).1 = 100 + a) (hS : va_S (Aq B) s.heap H locs)
    (hd : dTy a b = some ty) (hn : narrow ty (trV B b0 v) = trV B b0 v) (hfit : fits ty (trV B b0 v) = true) (h1 : h'.1 = h.1) (hs : ∀ z, z ≠ q → h'.2.1 z = h.2.1 z ∧ h'.2.2.1 z = h.2.2.1 z ∧ h'.2.2.2.1 z = h.2.2.2.1 z ∧ h'.2.2.2.2 z = h.2.2.2.2 z) (hk2 : (h'.2.1 q).1 = 100 + a) (hv : ∀ j, svl h' q j = if j = b then v else svl h q j)
    (hdg : decode (bc y) pc = .ok (.putfield k, 3)) (kk : ∀ H1 locs1, hRel D tc B b0 scr h' H1 → va_S (Aq B) s.heap H1 locs1 → W p l e R s m args below meth c H1 locs1 cells slots Q (F0 m (pc + 3) ls rest)) :
    W p l e R s m args below meth c H locs cells slots Q (F0 m pc ls (trV B b0 v :: .ref (adr B b0 q) :: rest)) := by
  obtain ⟨hx, hbc, hml, hown, hts, hlk, hret, hini, -, -, hE, -⟩ := C0
  have hK := hE.1
  have hP := objP r ha hq hk
  have hc := cl_at a ha
  have hq0 : q ≠ 0 := kind_ne0 r (by rw [hk]; omega)
  have hap : ∀ x z, x < nf a → z < nf a → x ≠ z → (D.2 a) x ≠ (D.2 a) z := va_apart (own := cn (ow y)) hts (fw_in ha) (fun x => (dTy a x).getD .int) (fun x hx9 => by
    have h9 := dt_at a ha x hx9
    show dTy a x = _
    cases h8 : dTy a x with
    | none => rw [h8] at h9; cases h9
    | some t => rfl) (nm_at a ha) hK hc
  obtain ⟨r0, h10, cell, q1, q2, q3, q4⟩ := hP 0 _ rfl
  have hr : r0 = (cn a, fT a, nf a) := Option.some.inj (h10.symm.trans hc)
  subst hr
  obtain ⟨hSl, hfc, kC, hkC, hkind⟩ := hK.1 a _ hc
  obtain ⟨cf, kf, fi, f, hi, hsl⟩ := hSl b hb
  have hlay := hts _ (fw_in ha _ (u_in_lay hb))
  have hst := (u_facts hfc hkC (u_lays hts (fw_in ha) hb) hi).1
  have hi2 : s.fieldFound? (cn a) (fT a b).2.1 (fT a b).2.2.1 = some (cf, kf, fi, f) := by
    rw [← ow_at a ha b hb]
    exact hi
  have fin' : ∀ H' : Heap, H'[adr B b0 q]? = some (cell.setSlot f.slot (trV B b0 v)) → H'.size = H.size → (∀ z, z ≠ adr B b0 q → H'[z]? = H[z]?) → W p l e R s m args below meth c H' (locs ++ [⟨adr B b0 q, f.slot⟩]) cells slots Q (F0 m (pc + 3) ls rest) := by
    intro H' e1 e2 e3
    refine kk H' _ (r.put hq hq0 h1 e2 e3 hs ?_) (hS.put e2 e3 (adr_A hq0))
    refine ⟨fun k9 => ?_, fun k9 => ?_, fun k9 => ?_⟩
    · rw [hk2] at k9; omega
    · rw [hk2] at k9; omega
    · rw [hk2, show 100 + a - 100 = a by omega]
      refine ⟨_, hc, ?_⟩
      rw [hsl] at e1
      refine t_OB.to (V := updV (vp_V (flst B b0 h q (nf a))) b (trV B b0 v)) ⟨_, e1, q2, q3, t_set q4 hap hb (trV B b0 v)⟩ (fun j hj => ?_)
      rw [hv]
      unfold updV
      by_cases ej : j = b
      · rw [if_pos ej, if_pos ej]
      · rw [if_neg ej, if_neg ej]
        show (flst B b0 h q (nf a)).getD j .null = _
        rw [List.getD_eq_getElem?_getD, flst_at hj]
        rfl
  have hlt : f.slot < cell.slots.size := by rw [hsl]; exact k2_hasslot (q4 b hb)
  cases hfin : (fT a b).2.2.2 with
  | false =>
    unfold u_lay at hlay
    rw [if_neg (by rw [hfin]; decide)] at hlay
    have h6 := u_store hfc hkC hkind hlay hi hd hn hfit
    exact W.putK hx hbc (f := f) ⟨hown, hts _ hw, ⟨_, _, _, hi2⟩, hst⟩ (by rw [q2]; exact h6) q1 q3 hlt rfl rfl hdg fin'
  | true =>
    unfold u_lay at hlay
    rw [if_pos hfin] at hlay
    unfold fOK fin at hfo
    rw [hc] at hfo
    dsimp only at hfo
    rw [hfin] at hfo
    have hfo : (isI y && Nat.beq (ow y) a) = true := hfo
    rw [Bool.and_eq_true] at hfo
    have hoy : ow y = a := Nat.eq_of_beq_eq_true hfo.2
    have hcf : m.cls = cf := by
      obtain ⟨_, _, c', _, _, _, -, -, hf', -, -, -, hown2, -⟩ := Cond.laysFinal_spec hlay
      have e1 : c' = cf := by have := hi.symm.trans hf'; simp at this; exact this.1.symm
      rw [ow_at a ha b hb] at hown2
      rw [hoy] at hown
      rw [← e1]
      exact Option.some.inj (hown.symm.trans hown2)
    have h6 := u_fits hfc hkC hkind (Or.inr hlay) hi hd hn hfit
    exact W.putFinK hx hbc hown (hts _ hw) hi2 hst hcf (hini hfo.1) (by rw [q2]; exact h6) q1 q3 hlt rfl rfl hdg fin'
/-- an array's element is written -/
theorem aput {q k j : Nat} {w : Value} (r : hRel D tc B b0 scr h H) (hk : (h.2.1 q).1 = k) (hk8 : k < 8) (hq : q < h.1.2) {H' : Heap} (e1 : H'[adr B b0 q]? = some ((arrV (tc k) (h.2.1 q).2.1 (fun i => trV B b0 (svl h q i))).setSlot j (trV B b0 w))) (e2 : H'.size = H.size) (e3 : ∀ z, z ≠ adr B b0 q → H'[z]? = H[z]?)
    (h1 : h'.1 = h.1) (hs : ∀ z, z ≠ q → h'.2.1 z = h.2.1 z ∧ h'.2.2.1 z = h.2.2.1 z ∧ h'.2.2.2.1 z = h.2.2.2.1 z ∧ h'.2.2.2.2 z = h.2.2.2.2 z) (hk2 : (h'.2.1 q).1 = k) (hl2 : (h'.2.1 q).2.1 = (h.2.1 q).2.1) (hv : ∀ i, svl h' q i = if i = j then w else svl h q i) : hRel D tc B b0 scr h' H' := by
  have hq0 : q ≠ 0 := kind_ne0 r (by rw [hk]; omega)
  refine r.put hq hq0 h1 e2 e3 hs ⟨fun k9 => ?_, fun k9 => ?_, fun k9 => ?_⟩
  · rw [hk2, hl2, e1, arrV_store]
    congr 2
    funext i
    rw [hv]
    unfold updV
    by_cases ei : i = j
    · rw [if_pos ei, if_pos ei]
    · rw [if_neg ei, if_neg ei]
  · rw [hk2] at k9; omega
  · rw [hk2] at k9; omega
theorem acell {q k : Nat} (r : hRel D tc B b0 scr h H) (hk : (h.2.1 q).1 = k) (hk8 : k < 8) (hq : q < h.1.2) : H[adr B b0 q]? = some (arrV (tc k) (h.2.1 q).2.1 (fun i => trV B b0 (svl h q i))) := by
  have h9 := (r.2.2.2.2.2 q hq).1
  rw [hk] at h9
  exact h9 hk8
end PUT
