/-! The walk, by the fuel; a method's contract out of its run on the abstract machine -/
def qEnd (D : va_G) (tc : Nat → ClassId) (B b0 : Nat) (scr : Cell) (p : Program) (l : Launch) (e : Env) (R : Room) (s : State) (m : MethodId) (args : Array Value) (below : List Frame) (meth : Method) (c : Code) (Q : State → Prop) (y : Nat) (r : aOut) : Prop :=
  (∀ (H : Heap) (locs : List Loc) (ls : Array Slot) (u1 u2 pc : Nat) (L : List (Option Value)) (st : List Value) (h : aHp) (en : aEn), cd y pc = some en → aEnd y en (pc, L, st) h = some r → hRel D tc B b0 scr h H → va_S (Aq B) s.heap H locs → u1 ≤ mcT y → u2 ≤ msT y → W p l e R s m args below meth c H locs u1 u2 Q (F0 m pc ls (st.map (trV B b0)))) ∧
  (∀ (H : Heap) (locs : List Loc) (ls : Array Slot) (u1 u2 pc : Nat) (st : List Value) (h : aHp) (en : aEn), cd y pc = some en → aIsThrow en = true → h.1.1 = 1 → 6 ≤ fr y → (st.map fun v => v.category).sum + 82 ≤ lo y → u1 + 1 ≤ mcT y → u2 + 6 ≤ msT y → r = (.inr en.2.2.2.1, h) → hRel D tc B b0 scr h H → va_S (Aq B) s.heap H locs → ls.size = mL y → W p l e R s m args below meth c H locs u1 u2 Q (F0 m pc ls (st.map (trV B b0)))) ∧
  (∀ (H : Heap) (locs : List Loc) (ls : Array Slot) (u1 u2 pc : Nat) (rest : List Value) (q : Nat) (ce : Cell) (x : Nat), r.1 = .inr x → x < 3 → aHnd y pc x = none → hRel D tc B b0 scr r.2 H → va_S (Aq B) s.heap H locs → u1 ≤ mcT y → u2 ≤ msT y → H[q]? = some ce → ce.vm = .none → s.vm.findClass (xn x) = some ce.cls → vx_W p l e R s m args below meth c H locs u1 u2 Q (F0 m pc ls rest) q)
def walkP (l : Launch) (D : va_G) (tc : Nat → ClassId) (B b0 : Nat) (scr : Cell) (sa : Nat → Nat) (k : Nat) : Prop := ∀ (p : Program) (e : Env) (R : Room) (s : State) (m : MethodId) (args : Array Value) (below : List Frame) (meth : Method) (c : Code) (Q : State → Prop) (y : Nat) (r : aOut), y < 217 → cxP D tc B scr sa p R s m args meth c y → qEnd D tc B b0 scr p l e R s m args below meth c Q y r → ∀ (u : Nat × Nat) (f : aFr) (h : aHp) (H : Heap) (locs : List Loc) (ls : Array Slot), aEx k y u f h = some r → hRel D tc B b0 scr h H → va_S (Aq B) s.heap H locs → lRel B b0 ls (mL y) f.2.1 → W p l e R s m args below meth c H locs u.1 u.2 Q (F0 m f.1 ls (f.2.2.map (trV B b0)))
theorem call_lt {y pc : Nat} {en : aEn} {u : Nat × Nat} {as r : List Value} {h : aHp} (ho : opOK y pc en = true) (hic : aIsCall en = true) (hok : aCallOK y en u as r h = true) : en.2.2.2.1 < 214 ∧ (aEnt as).length ≤ mL en.2.2.2.1 := by
  obtain ⟨i, n, v, z, b, cc, d⟩ := en
  simp only [aCallOK, Bool.and_eq_true] at hok
  obtain ⟨k1, k2, k3, k4, k5, k6, k7⟩ := hok
  refine ⟨?_, Nat.le_of_ble_eq_true k6⟩
  cases i with
  | invokestatic i0 =>
    have hc9 : Nat.ble 6 cc = false := by
      cases h9 : Nat.ble 6 cc with
      | false => rfl
      | true => simp [aIsCall, h9] at hic
    simp only [opOK, Bool.and_eq_true] at ho
    rw [hc9, cond_false] at ho
    simp only [Bool.and_eq_true] at ho
    exact Nat.le_of_ble_eq_true ho.2.1
  | invokevirtual i0 =>
    simp only [opOK, Bool.and_eq_true] at ho
    exact Nat.le_of_ble_eq_true ho.2.1
  | invokespecial i0 =>
    have hc9 : Nat.beq cc 9 = false := by
      cases h9 : Nat.beq cc 9 with
      | false => rfl
      | true => simp [aIsCall, h9] at hic
    simp only [opOK, Bool.and_eq_true] at ho
    rw [hc9, cond_false] at ho
    simp only [Bool.and_eq_true] at ho
    exact Nat.le_of_ble_eq_true ho.2.1
  | _ => simp [aIsCall] at hic
section SND
variable {l : Launch} {D : va_G} {tc : Nat → ClassId} {B b0 : Nat} {scr : Cell} {sa : Nat → Nat}
theorem map_to (v : Option Value) (r : List Value) : (v.toList ++ r).map (trV B b0) = (v.map (trV B b0)).toList ++ r.map (trV B b0) := by cases v <;> simp
theorem walk_0 : walkP l D tc B b0 scr sa 0 := by
  intro p e R s m args below meth c Q y r hy C0 hQ u f h H locs ls hex
  cases hex
theorem walk_s {k : Nat} (hcon : conP l D tc B b0 scr sa k) (ih : walkP l D tc B b0 scr sa k) : walkP l D tc B b0 scr sa (k + 1) := by
  intro p e R s m args below meth c Q y r hy C0 hQ u f h H locs ls hex hH hS hL
  simp only [aEx] at hex
  cases hcd : cd y f.1 with
  | none => rw [hcd] at hex; cases hex
  | some en =>
    rw [hcd] at hex
    dsimp only at hex
    obtain ⟨hd, ho⟩ := en_spec (en_ok hcd)
    cases hE : aIsEnd en with
    | true =>
      rw [hE, cond_true] at hex
      cases hu : (Nat.ble u.1 (mcT y) && Nat.ble u.2 (msT y)) with
      | false => rw [hu] at hex; cases hex
      | true =>
        rw [hu, cond_true] at hex
        rw [Bool.and_eq_true] at hu
        exact hQ.1 H locs ls u.1 u.2 f.1 f.2.1 f.2.2 h en hcd hex hH hS (Nat.le_of_ble_eq_true hu.1) (Nat.le_of_ble_eq_true hu.2)
    | false =>
      rw [hE, cond_false] at hex
      cases hT : aIsThrow en with
      | true =>
        rw [hT, cond_true] at hex
        cases hu : (Nat.beq h.1.1 1 && (Nat.ble 6 (fr y) && (Nat.ble ((f.2.2.map fun v => v.category).sum + 82) (lo y) && (Nat.ble (u.1 + 1) (mcT y) && Nat.ble (u.2 + 6) (msT y))))) with
        | false => rw [hu] at hex; cases hex
        | true =>
          rw [hu, cond_true] at hex
          simp only [Bool.and_eq_true] at hu
          obtain ⟨a1, a2, a3, a4, a5⟩ := hu
          exact hQ.2.1 H locs ls u.1 u.2 f.1 f.2.2 h en hcd hT (beq1 a1) (Nat.le_of_ble_eq_true a2) (Nat.le_of_ble_eq_true a3) (Nat.le_of_ble_eq_true a4) (Nat.le_of_ble_eq_true a5) (Option.some.inj hex).symm hH hS hL.1
      | false =>
        rw [hT, cond_false] at hex
        cases hC : aIsCall en with
        | false =>
          rw [hC, cond_false] at hex
          cases hs : aStep y en u f h with
          | none => rw [hs] at hex; cases hex
          | some q =>
            obtain ⟨f1, u1, h1⟩ := q
            rw [hs] at hex
            exact st_all C0 ho hd hs hH hS hL (fun H1 locs1 ls1 a1 a2 a3 => ih p e R s m args below meth c Q y r hy C0 hQ u1 f1 h1 H1 locs1 ls1 hex a1 a2 a3)
        | true =>
          rw [hC, cond_true] at hex
          cases hA : aArgs en.2.2.2.2.1 f.2.2 with
          | none => rw [hA] at hex; cases hex
          | some q =>
            obtain ⟨as, t⟩ := q
            rw [hA] at hex
            dsimp only at hex
            cases hok : aCallOK y en u as t h with
            | false => rw [hok] at hex; cases hex
            | true =>
              rw [hok, cond_true] at hex
              obtain ⟨hz, hlen⟩ := call_lt ho hC hok
              cases hx : aEx k en.2.2.2.1 (0, 0) (0, aPad as (mL en.2.2.2.1), []) h with
              | none => rw [hx] at hex; cases hex
              | some r1 =>
                obtain ⟨-, c1, c2, a9, hr⟩ := call_run C0 ho hd hC hA hok hH hS hL.1 (hcon _ as h r1 hz hlen hx)
                rw [hx] at hex
                obtain ⟨r11, h1⟩ := r1
                cases r11 with
                | inl v =>
                  dsimp only at hex
                  intro T hT9 X
                  rcases hr T hT9 X with ⟨v', st0, t9, T', L9, g0, X', hL9, g1, g2, ⟨v9, hv9, hv, hR, hF⟩, stp⟩ | ⟨q, st0, t9, T', L9, E9, ce, g0, X', hL9, g1, g2, ⟨x9, hx9, -⟩, -⟩
                  · cases hv9
                    cases hv
                    obtain ⟨z1, z2, z3⟩ := vx_keep (A1 := Aq B) (free := Aq B) g0 g1 hS (fun q _ h => h) (fun q h => h) hL9 hF
                    obtain ⟨t2, a1, b1⟩ := ih p e R s m args below meth c Q y r hy C0 hQ _ _ h1 T'.heap (locs ++ L9) ls hex (by rw [g1]; exact hR) z3 hL T' rfl X'
                    refine ⟨t2, stp t2 ?_, b1⟩
                    dsimp only at a1
                    rw [map_to] at a1
                    exact a1
                  · cases hx9
                | inr x =>
                  dsimp only at hex
                  cases hx3 : Nat.blt x 3 with
                  | false => rw [hx3] at hex; cases hex
                  | true =>
                    rw [hx3, cond_true] at hex
                    have hx3 : x < 3 := Nat.le_of_ble_eq_true hx3
                    intro T hT9 X
                    rcases hr T hT9 X with ⟨v', st0, t9, T', L9, g0, X', hL9, g1, g2, ⟨v9, hv9, -⟩, -⟩ | ⟨q, st0, t9, T', L9, E9, ce, g0, X', hL9, g1, g2, ⟨x9, hx9, hE9, hR, hF⟩, hce, hcv, hcl, stp⟩
                    · cases hv9
                    · cases hx9
                      subst hE9
                      obtain ⟨z1, z2, z3⟩ := vx_keep (A1 := Aq B) (free := Aq B) g0 g1 hS (fun q _ h => h) (fun q h => h) hL9 hF
                      rw [← g1] at hR hce
                      cases hh9 : aHnd y f.1 x with
                      | none =>
                        rw [hh9] at hex
                        dsimp only at hex
                        cases hex
                        obtain ⟨t2, a1, b1⟩ := hQ.2.2 T'.heap (locs ++ L9) ls (u.1 + mcT en.2.2.2.1) (u.2 + msT en.2.2.2.1) f.1 (t.map (trV B b0)) q ce x rfl hx3 hh9 hR z3 c1 c2 hce hcv hcl T' rfl X'
                        exact ⟨t2, stp.trans a1, b1⟩
                      | some w =>
                        obtain ⟨t0, t1, a⟩ := w
                        rw [hh9] at hex
                        dsimp only at hex
                        cases ha : Nat.blt a (mL y) with
                        | false => rw [ha] at hex; cases hex
                        | true =>
                          rw [ha, cond_true] at hex
                          obtain ⟨t2, a1, b1⟩ := hnd_sound (e := e) (l := l) (below := below) (Q := Q) (locs := locs ++ L9) (cells := u.1 + mcT en.2.2.2.1) (slots := u.2 + msT en.2.2.2.1) (rest := t.map (trV B b0)) C0 hy hx3 hh9 (Nat.le_of_ble_eq_true ha) hce hcv hcl hL (fun ls1 hl1 => ih p e R s m args below meth c Q y r hy C0 hQ _ _ h1 T'.heap (locs ++ L9) ls1 hex hR z3 hl1) T' rfl X'
                          exact ⟨t2, stp.trans a1, b1⟩
theorem aEnt_cons (v : Value) (as : List Value) : aEnt (v :: as) = cond (aIs2 (some v)) (some v :: none :: aEnt as) (some v :: aEnt as) := rfl
theorem sl_len : ∀ as : List Value, (lg_sl (as.map (trV B b0))).length = (aEnt as).length
  | [] => rfl
  | v :: as => by
    have ih := sl_len as
    unfold lg_sl at ih ⊢
    rw [List.map_cons, List.flatMap_cons, List.length_append, ih]
    rw [trV_cat]
    rw [aEnt_cons]
    cases hb : aIs2 (some v) with
    | true =>
      rw [if_pos ((cat_is2 v).mpr hb)]
      simp
      omega
    | false =>
      rw [if_neg (fun z => by have := (cat_is2 v).mp z; rw [hb] at this; cases this)]
      simp
      omega
theorem ent_args : ∀ (as : List Value) (k i : Nat) (v : Value), (aEnt as).getD i none = some v → (k + i, trV B b0 v) ∈ lv_args k (as.map (trV B b0))
  | [], k, i, v, h => by simp [aEnt] at h
  | w :: as, k, i, v, h => by
    rw [List.map_cons]
    unfold lv_args
    rw [trV_cat]
    rw [aEnt_cons] at h
    cases hb : aIs2 (some w) with
    | true =>
      rw [hb, cond_true] at h
      rw [if_pos ((cat_is2 w).mpr hb)]
      rcases i with _ | _ | i
      · cases h; exact List.mem_cons_self
      · cases h
      · simp only [List.getD_cons_succ] at h
        have h9 := ent_args as (k + 2) i v h
        rw [show k + (i + 1 + 1) = k + 2 + i by omega]
        exact List.mem_cons_of_mem _ h9
    | false =>
      rw [hb, cond_false] at h
      rw [if_neg (fun z => by have := (cat_is2 w).mp z; rw [hb] at this; cases this)]
      rcases i with _ | i
      · cases h; exact List.mem_cons_self
      · simp only [List.getD_cons_succ] at h
        have h9 := ent_args as (k + 1) i v h
        rw [show k + (i + 1) = k + 1 + i by omega]
        exact List.mem_cons_of_mem _ h9
theorem ent_rel {as : List Value} {n : Nat} (h : (aEnt as).length ≤ n) : lRel B b0 ((lg_sl (as.map (trV B b0)) ++ List.replicate (n - (lg_sl (as.map (trV B b0))).length) Slot.unset).toArray) n (aPad as n) := by
  have h9 := lv_entry (as.map (trV B b0)) (n := n) (by rw [sl_len]; exact h)
  refine ⟨h9.1, h9.2.1, fun i v hi => ?_⟩
  unfold aPad at hi
  have hi2 : (aEnt as).getD i none = some v := by
    rw [List.getD_eq_getElem?_getD, List.getElem?_append] at hi
    split at hi
    · rw [List.getD_eq_getElem?_getD]; exact hi
    · rw [List.getElem?_replicate] at hi
      split at hi <;> cases hi
  have h8 := ent_args (B := B) (b0 := b0) as 0 i v hi2
  rw [Nat.zero_add] at h8
  exact h9.2.2 _ h8
end SND
