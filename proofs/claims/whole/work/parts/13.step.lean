/-! One step of the abstract machine is one of the machine's -/
section STP
variable {D : va_G} {tc : Nat → ClassId} {B b0 : Nat} {scr : Cell} {sa : Nat → Nat} {p : Program} {l : Launch} {e : Env} {R : Room} {s : State} {m : MethodId} {args : Array Value} {below : List Frame} {meth : Method} {c : Code} {H : Heap} {locs : List Loc} {Q : State → Prop} {y : Nat} {ls : Array Slot} {h : aHp}
/-- the walk goes on from every picture of r -/
def wNext (D : va_G) (tc : Nat → ClassId) (B b0 : Nat) (scr : Cell) (p : Program) (l : Launch) (e : Env) (R : Room) (s : State) (m : MethodId) (args : Array Value) (below : List Frame) (meth : Method) (c : Code) (Q : State → Prop) (y : Nat) (r : aRes) : Prop :=
  ∀ (H : Heap) (locs : List Loc) (ls : Array Slot), hRel D tc B b0 scr r.2.2 H → va_S (Aq B) s.heap H locs → lRel B b0 ls (mL y) r.1.2.1 → W p l e R s m args below meth c H locs r.2.1.1 r.2.1.2 Q (F0 m r.1.1 ls (r.1.2.2.map (trV B b0)))
theorem beq1 {n k : Nat} (h : Nat.beq n k = true) : n = k := Nat.eq_of_beq_eq_true h
theorem trV_rf (B b0 : Nat) (x : Option Nat) : trV B b0 (va_rf x) = va_rf (x.map (adr B b0)) := by cases x <;> rfl
theorem st_iconst {i0 : Int} (C0 : cxP D tc B scr sa p R s m args meth c y) {n : Nat} {v : Value} {a b cc d pc u1 u2 : Nat} {L : List (Option Value)} {st : List Value} {r : aRes} (ho : opOK y pc (.iconst i0, n, v, a, b, cc, d) = true) (hd : decode (bc y) pc = .ok (.iconst i0, n)) (hs : aStep y (.iconst i0, n, v, a, b, cc, d) (u1, u2) (pc, L, st) h = some r) (hH : hRel D tc B b0 scr h H) (hS : va_S (Aq B) s.heap H locs) (hL : lRel B b0 ls (mL y) L) (k : wNext D tc B b0 scr p l e R s m args below meth c Q y r) : W p l e R s m args below meth c H locs u1 u2 Q (F0 m pc ls (st.map (trV B b0))) := by
  obtain ⟨hx, hb, hml, hown, hts, hlk, hret, hini, -, -, hE, -⟩ := id C0
  simp only [opOK, Bool.and_eq_true, decide_eq_true_eq] at ho
  obtain ⟨h1, rfl⟩ := ho
  have hn := beq1 h1
  subst hn
  simp only [aStep, aNx, Option.some.injEq] at hs
  subst hs
  exact lv_iconst hx hb hd rfl (k H locs ls hH hS hL)
theorem st_bipush {i0 : Int} (C0 : cxP D tc B scr sa p R s m args meth c y) {n : Nat} {v : Value} {a b cc d pc u1 u2 : Nat} {L : List (Option Value)} {st : List Value} {r : aRes} (ho : opOK y pc (.bipush i0, n, v, a, b, cc, d) = true) (hd : decode (bc y) pc = .ok (.bipush i0, n)) (hs : aStep y (.bipush i0, n, v, a, b, cc, d) (u1, u2) (pc, L, st) h = some r) (hH : hRel D tc B b0 scr h H) (hS : va_S (Aq B) s.heap H locs) (hL : lRel B b0 ls (mL y) L) (k : wNext D tc B b0 scr p l e R s m args below meth c Q y r) : W p l e R s m args below meth c H locs u1 u2 Q (F0 m pc ls (st.map (trV B b0))) := by
  obtain ⟨hx, hb, hml, hown, hts, hlk, hret, hini, -, -, hE, -⟩ := id C0
  simp only [opOK, Bool.and_eq_true, decide_eq_true_eq] at ho
  obtain ⟨h1, rfl⟩ := ho
  have hn := beq1 h1
  subst hn
  simp only [aStep, aNx, Option.some.injEq] at hs
  subst hs
  exact lv_bipush hx hb hd rfl (k H locs ls hH hS hL)
theorem st_sipush {i0 : Int} (C0 : cxP D tc B scr sa p R s m args meth c y) {n : Nat} {v : Value} {a b cc d pc u1 u2 : Nat} {L : List (Option Value)} {st : List Value} {r : aRes} (ho : opOK y pc (.sipush i0, n, v, a, b, cc, d) = true) (hd : decode (bc y) pc = .ok (.sipush i0, n)) (hs : aStep y (.sipush i0, n, v, a, b, cc, d) (u1, u2) (pc, L, st) h = some r) (hH : hRel D tc B b0 scr h H) (hS : va_S (Aq B) s.heap H locs) (hL : lRel B b0 ls (mL y) L) (k : wNext D tc B b0 scr p l e R s m args below meth c Q y r) : W p l e R s m args below meth c H locs u1 u2 Q (F0 m pc ls (st.map (trV B b0))) := by
  obtain ⟨hx, hb, hml, hown, hts, hlk, hret, hini, -, -, hE, -⟩ := id C0
  simp only [opOK, Bool.and_eq_true, decide_eq_true_eq] at ho
  obtain ⟨h1, rfl⟩ := ho
  have hn := beq1 h1
  subst hn
  simp only [aStep, aNx, Option.some.injEq] at hs
  subst hs
  exact lv_sipush hx hb hd rfl (k H locs ls hH hS hL)
theorem st_lconst {i0 : Fin 2} (C0 : cxP D tc B scr sa p R s m args meth c y) {n : Nat} {v : Value} {a b cc d pc u1 u2 : Nat} {L : List (Option Value)} {st : List Value} {r : aRes} (ho : opOK y pc (.lconst i0, n, v, a, b, cc, d) = true) (hd : decode (bc y) pc = .ok (.lconst i0, n)) (hs : aStep y (.lconst i0, n, v, a, b, cc, d) (u1, u2) (pc, L, st) h = some r) (hH : hRel D tc B b0 scr h H) (hS : va_S (Aq B) s.heap H locs) (hL : lRel B b0 ls (mL y) L) (k : wNext D tc B b0 scr p l e R s m args below meth c Q y r) : W p l e R s m args below meth c H locs u1 u2 Q (F0 m pc ls (st.map (trV B b0))) := by
  obtain ⟨hx, hb, hml, hown, hts, hlk, hret, hini, -, -, hE, -⟩ := id C0
  simp only [opOK, Bool.and_eq_true, decide_eq_true_eq] at ho
  obtain ⟨h1, rfl⟩ := ho
  have hn := beq1 h1
  subst hn
  simp only [aStep, aNx, Option.some.injEq] at hs
  subst hs
  exact lv_lconst hx hb hd rfl (k H locs ls hH hS hL)
theorem st_fconst {i0 : Fin 3} (C0 : cxP D tc B scr sa p R s m args meth c y) {n : Nat} {v : Value} {a b cc d pc u1 u2 : Nat} {L : List (Option Value)} {st : List Value} {r : aRes} (ho : opOK y pc (.fconst i0, n, v, a, b, cc, d) = true) (hd : decode (bc y) pc = .ok (.fconst i0, n)) (hs : aStep y (.fconst i0, n, v, a, b, cc, d) (u1, u2) (pc, L, st) h = some r) (hH : hRel D tc B b0 scr h H) (hS : va_S (Aq B) s.heap H locs) (hL : lRel B b0 ls (mL y) L) (k : wNext D tc B b0 scr p l e R s m args below meth c Q y r) : W p l e R s m args below meth c H locs u1 u2 Q (F0 m pc ls (st.map (trV B b0))) := by
  obtain ⟨hx, hb, hml, hown, hts, hlk, hret, hini, -, -, hE, -⟩ := id C0
  simp only [opOK, Bool.and_eq_true, decide_eq_true_eq] at ho
  obtain ⟨h1, rfl, rfl⟩ := ho
  have hn := beq1 h1
  subst hn
  simp only [aStep, aNx, Option.some.injEq] at hs
  subst hs
  exact lv_fconst0 hx hb hd (k H locs ls hH hS hL)
theorem st_ldc_w {i0 : Nat} (C0 : cxP D tc B scr sa p R s m args meth c y) {n : Nat} {v : Value} {a b cc d pc u1 u2 : Nat} {L : List (Option Value)} {st : List Value} {r : aRes} (ho : opOK y pc (.ldc_w i0, n, v, a, b, cc, d) = true) (hd : decode (bc y) pc = .ok (.ldc_w i0, n)) (hs : aStep y (.ldc_w i0, n, v, a, b, cc, d) (u1, u2) (pc, L, st) h = some r) (hH : hRel D tc B b0 scr h H) (hS : va_S (Aq B) s.heap H locs) (hL : lRel B b0 ls (mL y) L) (k : wNext D tc B b0 scr p l e R s m args below meth c Q y r) : W p l e R s m args below meth c H locs u1 u2 Q (F0 m pc ls (st.map (trV B b0))) := by
  obtain ⟨hx, hb, hml, hown, hts, hlk, hret, hini, -, -, hE, -⟩ := id C0
  simp only [opOK, Bool.and_eq_true, decide_eq_true_eq] at ho
  obtain ⟨h1, h2⟩ := ho
  have hn := beq1 h1
  subst hn
  split at h2
  · rename_i x
    simp only [aStep, aNx, Option.some.injEq] at hs
    subst hs
    exact lv_ldcw hx hb hown (hts _ (wOK_spec h2)) hd (k H locs ls hH hS hL)
  · cases h2
theorem st_ldc2_w {i0 : Nat} (C0 : cxP D tc B scr sa p R s m args meth c y) {n : Nat} {v : Value} {a b cc d pc u1 u2 : Nat} {L : List (Option Value)} {st : List Value} {r : aRes} (ho : opOK y pc (.ldc2_w i0, n, v, a, b, cc, d) = true) (hd : decode (bc y) pc = .ok (.ldc2_w i0, n)) (hs : aStep y (.ldc2_w i0, n, v, a, b, cc, d) (u1, u2) (pc, L, st) h = some r) (hH : hRel D tc B b0 scr h H) (hS : va_S (Aq B) s.heap H locs) (hL : lRel B b0 ls (mL y) L) (k : wNext D tc B b0 scr p l e R s m args below meth c Q y r) : W p l e R s m args below meth c H locs u1 u2 Q (F0 m pc ls (st.map (trV B b0))) := by
  obtain ⟨hx, hb, hml, hown, hts, hlk, hret, hini, -, -, hE, -⟩ := id C0
  simp only [opOK, Bool.and_eq_true, decide_eq_true_eq] at ho
  obtain ⟨h1, h2⟩ := ho
  have hn := beq1 h1
  subst hn
  split at h2
  · rename_i x
    simp only [aStep, aNx, Option.some.injEq] at hs
    subst hs
    exact lv_ldc2 hx hb hown (hts _ (wOK_spec h2)) hd (k H locs ls hH hS hL)
  · cases h2
theorem st_iload {i0 : Nat} (C0 : cxP D tc B scr sa p R s m args meth c y) {n : Nat} {v : Value} {a b cc d pc u1 u2 : Nat} {L : List (Option Value)} {st : List Value} {r : aRes} (ho : opOK y pc (.iload i0, n, v, a, b, cc, d) = true) (hd : decode (bc y) pc = .ok (.iload i0, n)) (hs : aStep y (.iload i0, n, v, a, b, cc, d) (u1, u2) (pc, L, st) h = some r) (hH : hRel D tc B b0 scr h H) (hS : va_S (Aq B) s.heap H locs) (hL : lRel B b0 ls (mL y) L) (k : wNext D tc B b0 scr p l e R s m args below meth c Q y r) : W p l e R s m args below meth c H locs u1 u2 Q (F0 m pc ls (st.map (trV B b0))) := by
  obtain ⟨hx, hb, hml, hown, hts, hlk, hret, hini, -, -, hE, -⟩ := id C0
  simp only [opOK, Bool.and_eq_true] at ho
  have hn := beq1 ho.1
  have ha := beq1 ho.2
  subst hn
  subst ha
  simp only [aStep] at hs
  split at hs
  · rename_i x e0
    simp only [aNx, Option.some.injEq] at hs
    subst hs
    exact lv_iload hx hb hd (hL.2.2 _ _ e0) (k H locs ls hH hS hL)
  · cases hs
theorem st_iload_n {i0 : Fin 4} (C0 : cxP D tc B scr sa p R s m args meth c y) {n : Nat} {v : Value} {a b cc d pc u1 u2 : Nat} {L : List (Option Value)} {st : List Value} {r : aRes} (ho : opOK y pc (.iload_n i0, n, v, a, b, cc, d) = true) (hd : decode (bc y) pc = .ok (.iload_n i0, n)) (hs : aStep y (.iload_n i0, n, v, a, b, cc, d) (u1, u2) (pc, L, st) h = some r) (hH : hRel D tc B b0 scr h H) (hS : va_S (Aq B) s.heap H locs) (hL : lRel B b0 ls (mL y) L) (k : wNext D tc B b0 scr p l e R s m args below meth c Q y r) : W p l e R s m args below meth c H locs u1 u2 Q (F0 m pc ls (st.map (trV B b0))) := by
  obtain ⟨hx, hb, hml, hown, hts, hlk, hret, hini, -, -, hE, -⟩ := id C0
  simp only [opOK, Bool.and_eq_true] at ho
  have hn := beq1 ho.1
  have ha := beq1 ho.2
  subst hn
  subst ha
  simp only [aStep] at hs
  split at hs
  · rename_i x e0
    simp only [aNx, Option.some.injEq] at hs
    subst hs
    exact lv_iload_n hx hb hd rfl (hL.2.2 _ _ e0) (k H locs ls hH hS hL)
  · cases hs
theorem st_lload {i0 : Nat} (C0 : cxP D tc B scr sa p R s m args meth c y) {n : Nat} {v : Value} {a b cc d pc u1 u2 : Nat} {L : List (Option Value)} {st : List Value} {r : aRes} (ho : opOK y pc (.lload i0, n, v, a, b, cc, d) = true) (hd : decode (bc y) pc = .ok (.lload i0, n)) (hs : aStep y (.lload i0, n, v, a, b, cc, d) (u1, u2) (pc, L, st) h = some r) (hH : hRel D tc B b0 scr h H) (hS : va_S (Aq B) s.heap H locs) (hL : lRel B b0 ls (mL y) L) (k : wNext D tc B b0 scr p l e R s m args below meth c Q y r) : W p l e R s m args below meth c H locs u1 u2 Q (F0 m pc ls (st.map (trV B b0))) := by
  obtain ⟨hx, hb, hml, hown, hts, hlk, hret, hini, -, -, hE, -⟩ := id C0
  simp only [opOK, Bool.and_eq_true] at ho
  have hn := beq1 ho.1
  have ha := beq1 ho.2
  subst hn
  subst ha
  simp only [aStep] at hs
  split at hs
  · rename_i x e0
    simp only [aNx, Option.some.injEq] at hs
    subst hs
    exact lv_lload hx hb hd (hL.2.2 _ _ e0) (k H locs ls hH hS hL)
  · cases hs
theorem st_lload_n {i0 : Fin 4} (C0 : cxP D tc B scr sa p R s m args meth c y) {n : Nat} {v : Value} {a b cc d pc u1 u2 : Nat} {L : List (Option Value)} {st : List Value} {r : aRes} (ho : opOK y pc (.lload_n i0, n, v, a, b, cc, d) = true) (hd : decode (bc y) pc = .ok (.lload_n i0, n)) (hs : aStep y (.lload_n i0, n, v, a, b, cc, d) (u1, u2) (pc, L, st) h = some r) (hH : hRel D tc B b0 scr h H) (hS : va_S (Aq B) s.heap H locs) (hL : lRel B b0 ls (mL y) L) (k : wNext D tc B b0 scr p l e R s m args below meth c Q y r) : W p l e R s m args below meth c H locs u1 u2 Q (F0 m pc ls (st.map (trV B b0))) := by
  obtain ⟨hx, hb, hml, hown, hts, hlk, hret, hini, -, -, hE, -⟩ := id C0
  simp only [opOK, Bool.and_eq_true] at ho
  have hn := beq1 ho.1
  have ha := beq1 ho.2
  subst hn
  subst ha
  simp only [aStep] at hs
  split at hs
  · rename_i x e0
    simp only [aNx, Option.some.injEq] at hs
    subst hs
    exact lv_lload_n hx hb hd rfl (hL.2.2 _ _ e0) (k H locs ls hH hS hL)
  · cases hs
theorem st_fload {i0 : Nat} (C0 : cxP D tc B scr sa p R s m args meth c y) {n : Nat} {v : Value} {a b cc d pc u1 u2 : Nat} {L : List (Option Value)} {st : List Value} {r : aRes} (ho : opOK y pc (.fload i0, n, v, a, b, cc, d) = true) (hd : decode (bc y) pc = .ok (.fload i0, n)) (hs : aStep y (.fload i0, n, v, a, b, cc, d) (u1, u2) (pc, L, st) h = some r) (hH : hRel D tc B b0 scr h H) (hS : va_S (Aq B) s.heap H locs) (hL : lRel B b0 ls (mL y) L) (k : wNext D tc B b0 scr p l e R s m args below meth c Q y r) : W p l e R s m args below meth c H locs u1 u2 Q (F0 m pc ls (st.map (trV B b0))) := by
  obtain ⟨hx, hb, hml, hown, hts, hlk, hret, hini, -, -, hE, -⟩ := id C0
  simp only [opOK, Bool.and_eq_true] at ho
  have hn := beq1 ho.1
  have ha := beq1 ho.2
  subst hn
  subst ha
  simp only [aStep] at hs
  split at hs
  · rename_i x e0
    simp only [aNx, Option.some.injEq] at hs
    subst hs
    exact lv_fload hx hb hd (hL.2.2 _ _ e0) (k H locs ls hH hS hL)
  · cases hs
theorem st_aload {i0 : Nat} (C0 : cxP D tc B scr sa p R s m args meth c y) {n : Nat} {v : Value} {a b cc d pc u1 u2 : Nat} {L : List (Option Value)} {st : List Value} {r : aRes} (ho : opOK y pc (.aload i0, n, v, a, b, cc, d) = true) (hd : decode (bc y) pc = .ok (.aload i0, n)) (hs : aStep y (.aload i0, n, v, a, b, cc, d) (u1, u2) (pc, L, st) h = some r) (hH : hRel D tc B b0 scr h H) (hS : va_S (Aq B) s.heap H locs) (hL : lRel B b0 ls (mL y) L) (k : wNext D tc B b0 scr p l e R s m args below meth c Q y r) : W p l e R s m args below meth c H locs u1 u2 Q (F0 m pc ls (st.map (trV B b0))) := by
  obtain ⟨hx, hb, hml, hown, hts, hlk, hret, hini, -, -, hE, -⟩ := id C0
  simp only [opOK, Bool.and_eq_true] at ho
  have hn := beq1 ho.1
  have ha := beq1 ho.2
  subst hn
  subst ha
  simp only [aStep] at hs
  split at hs
  · rename_i x e0
    simp only [aNx, Option.some.injEq] at hs
    subst hs
    exact lv_aload hx hb hd (hL.2.2 _ _ e0) (k H locs ls hH hS hL)
  · cases hs
theorem st_aload_n {i0 : Fin 4} (C0 : cxP D tc B scr sa p R s m args meth c y) {n : Nat} {v : Value} {a b cc d pc u1 u2 : Nat} {L : List (Option Value)} {st : List Value} {r : aRes} (ho : opOK y pc (.aload_n i0, n, v, a, b, cc, d) = true) (hd : decode (bc y) pc = .ok (.aload_n i0, n)) (hs : aStep y (.aload_n i0, n, v, a, b, cc, d) (u1, u2) (pc, L, st) h = some r) (hH : hRel D tc B b0 scr h H) (hS : va_S (Aq B) s.heap H locs) (hL : lRel B b0 ls (mL y) L) (k : wNext D tc B b0 scr p l e R s m args below meth c Q y r) : W p l e R s m args below meth c H locs u1 u2 Q (F0 m pc ls (st.map (trV B b0))) := by
  obtain ⟨hx, hb, hml, hown, hts, hlk, hret, hini, -, -, hE, -⟩ := id C0
  simp only [opOK, Bool.and_eq_true] at ho
  have hn := beq1 ho.1
  have ha := beq1 ho.2
  subst hn
  subst ha
  simp only [aStep] at hs
  split at hs
  · rename_i x e0
    simp only [aNx, Option.some.injEq] at hs
    subst hs
    exact lv_aload_n hx hb hd rfl (hL.2.2 _ _ e0) (k H locs ls hH hS hL)
  · cases hs
theorem st_istore {i0 : Nat} (C0 : cxP D tc B scr sa p R s m args meth c y) {n : Nat} {v : Value} {a b cc d pc u1 u2 : Nat} {L : List (Option Value)} {st : List Value} {r : aRes} (ho : opOK y pc (.istore i0, n, v, a, b, cc, d) = true) (hd : decode (bc y) pc = .ok (.istore i0, n)) (hs : aStep y (.istore i0, n, v, a, b, cc, d) (u1, u2) (pc, L, st) h = some r) (hH : hRel D tc B b0 scr h H) (hS : va_S (Aq B) s.heap H locs) (hL : lRel B b0 ls (mL y) L) (k : wNext D tc B b0 scr p l e R s m args below meth c Q y r) : W p l e R s m args below meth c H locs u1 u2 Q (F0 m pc ls (st.map (trV B b0))) := by
  obtain ⟨hx, hb, hml, hown, hts, hlk, hret, hini, -, -, hE, -⟩ := id C0
  simp only [opOK, Bool.and_eq_true] at ho
  have hn := beq1 ho.1
  have ha := beq1 ho.2
  subst hn
  subst ha
  simp only [aStep] at hs
  split at hs
  · rename_i x t
    cases hlt : Nat.blt a (mL y) with
    | false => rw [hlt] at hs; cases hs
    | true =>
      rw [hlt] at hs
      simp only [cond_true, Option.some.injEq] at hs
      subst hs
      exact lv_istore hx hb hd (hL.has (n := mL y)) (Nat.le_of_ble_eq_true hlt) rfl (fun ls' hl' => k H locs ls' hH hS (lRel.set1 (v := .int x) rfl hl' hL.bound).mb)
  · cases hs
theorem st_istore_n {i0 : Fin 4} (C0 : cxP D tc B scr sa p R s m args meth c y) {n : Nat} {v : Value} {a b cc d pc u1 u2 : Nat} {L : List (Option Value)} {st : List Value} {r : aRes} (ho : opOK y pc (.istore_n i0, n, v, a, b, cc, d) = true) (hd : decode (bc y) pc = .ok (.istore_n i0, n)) (hs : aStep y (.istore_n i0, n, v, a, b, cc, d) (u1, u2) (pc, L, st) h = some r) (hH : hRel D tc B b0 scr h H) (hS : va_S (Aq B) s.heap H locs) (hL : lRel B b0 ls (mL y) L) (k : wNext D tc B b0 scr p l e R s m args below meth c Q y r) : W p l e R s m args below meth c H locs u1 u2 Q (F0 m pc ls (st.map (trV B b0))) := by
  obtain ⟨hx, hb, hml, hown, hts, hlk, hret, hini, -, -, hE, -⟩ := id C0
  simp only [opOK, Bool.and_eq_true] at ho
  have hn := beq1 ho.1
  have ha := beq1 ho.2
  subst hn
  subst ha
  simp only [aStep] at hs
  split at hs
  · rename_i x t
    cases hlt : Nat.blt i0.val (mL y) with
    | false => rw [hlt] at hs; cases hs
    | true =>
      rw [hlt] at hs
      simp only [cond_true, Option.some.injEq] at hs
      subst hs
      exact lv_istore_n hx hb hd rfl (hL.has (n := mL y)) (Nat.le_of_ble_eq_true hlt) rfl (fun ls' hl' => k H locs ls' hH hS (lRel.set1 (v := .int x) rfl hl' hL.bound).mb)
  · cases hs
theorem st_fstore {i0 : Nat} (C0 : cxP D tc B scr sa p R s m args meth c y) {n : Nat} {v : Value} {a b cc d pc u1 u2 : Nat} {L : List (Option Value)} {st : List Value} {r : aRes} (ho : opOK y pc (.fstore i0, n, v, a, b, cc, d) = true) (hd : decode (bc y) pc = .ok (.fstore i0, n)) (hs : aStep y (.fstore i0, n, v, a, b, cc, d) (u1, u2) (pc, L, st) h = some r) (hH : hRel D tc B b0 scr h H) (hS : va_S (Aq B) s.heap H locs) (hL : lRel B b0 ls (mL y) L) (k : wNext D tc B b0 scr p l e R s m args below meth c Q y r) : W p l e R s m args below meth c H locs u1 u2 Q (F0 m pc ls (st.map (trV B b0))) := by
  obtain ⟨hx, hb, hml, hown, hts, hlk, hret, hini, -, -, hE, -⟩ := id C0
  simp only [opOK, Bool.and_eq_true] at ho
  have hn := beq1 ho.1
  have ha := beq1 ho.2
  subst hn
  subst ha
  simp only [aStep] at hs
  split at hs
  · rename_i x t
    cases hlt : Nat.blt a (mL y) with
    | false => rw [hlt] at hs; cases hs
    | true =>
      rw [hlt] at hs
      simp only [cond_true, Option.some.injEq] at hs
      subst hs
      exact lv_fstore hx hb hd (hL.has (n := mL y)) (Nat.le_of_ble_eq_true hlt) rfl (fun ls' hl' => k H locs ls' hH hS (lRel.set1 (v := .float x) rfl hl' hL.bound).mb)
  · cases hs
theorem st_astore {i0 : Nat} (C0 : cxP D tc B scr sa p R s m args meth c y) {n : Nat} {v : Value} {a b cc d pc u1 u2 : Nat} {L : List (Option Value)} {st : List Value} {r : aRes} (ho : opOK y pc (.astore i0, n, v, a, b, cc, d) = true) (hd : decode (bc y) pc = .ok (.astore i0, n)) (hs : aStep y (.astore i0, n, v, a, b, cc, d) (u1, u2) (pc, L, st) h = some r) (hH : hRel D tc B b0 scr h H) (hS : va_S (Aq B) s.heap H locs) (hL : lRel B b0 ls (mL y) L) (k : wNext D tc B b0 scr p l e R s m args below meth c Q y r) : W p l e R s m args below meth c H locs u1 u2 Q (F0 m pc ls (st.map (trV B b0))) := by
  obtain ⟨hx, hb, hml, hown, hts, hlk, hret, hini, -, -, hE, -⟩ := id C0
  simp only [opOK, Bool.and_eq_true] at ho
  have hn := beq1 ho.1
  have ha := beq1 ho.2
  subst hn
  subst ha
  simp only [aStep] at hs
  split at hs
  · rename_i x t
    cases hlt : Nat.blt a (mL y) with
    | false => rw [hlt] at hs; cases hs
    | true =>
      rw [hlt] at hs
      simp only [cond_true, Option.some.injEq] at hs
      subst hs
      exact lv_astore hx hb hd (hL.has (n := mL y)) (Nat.le_of_ble_eq_true hlt) rfl (fun ls' hl' => k H locs ls' hH hS (lRel.set1 (v := .ref x) rfl hl' hL.bound).mb)
  · cases hs
theorem st_astore_n {i0 : Fin 4} (C0 : cxP D tc B scr sa p R s m args meth c y) {n : Nat} {v : Value} {a b cc d pc u1 u2 : Nat} {L : List (Option Value)} {st : List Value} {r : aRes} (ho : opOK y pc (.astore_n i0, n, v, a, b, cc, d) = true) (hd : decode (bc y) pc = .ok (.astore_n i0, n)) (hs : aStep y (.astore_n i0, n, v, a, b, cc, d) (u1, u2) (pc, L, st) h = some r) (hH : hRel D tc B b0 scr h H) (hS : va_S (Aq B) s.heap H locs) (hL : lRel B b0 ls (mL y) L) (k : wNext D tc B b0 scr p l e R s m args below meth c Q y r) : W p l e R s m args below meth c H locs u1 u2 Q (F0 m pc ls (st.map (trV B b0))) := by
  obtain ⟨hx, hb, hml, hown, hts, hlk, hret, hini, -, -, hE, -⟩ := id C0
  simp only [opOK, Bool.and_eq_true] at ho
  have hn := beq1 ho.1
  have ha := beq1 ho.2
  subst hn
  subst ha
  simp only [aStep] at hs
  split at hs
  · rename_i x t
    cases hlt : Nat.blt i0.val (mL y) with
    | false => rw [hlt] at hs; cases hs
    | true =>
      rw [hlt] at hs
      simp only [cond_true, Option.some.injEq] at hs
      subst hs
      exact lv_astore_n hx hb hd rfl (hL.has (n := mL y)) (Nat.le_of_ble_eq_true hlt) rfl (fun ls' hl' => k H locs ls' hH hS (lRel.set1 (v := .ref x) rfl hl' hL.bound).mb)
  · cases hs
theorem st_lstore {i0 : Nat} (C0 : cxP D tc B scr sa p R s m args meth c y) {n : Nat} {v : Value} {a b cc d pc u1 u2 : Nat} {L : List (Option Value)} {st : List Value} {r : aRes} (ho : opOK y pc (.lstore i0, n, v, a, b, cc, d) = true) (hd : decode (bc y) pc = .ok (.lstore i0, n)) (hs : aStep y (.lstore i0, n, v, a, b, cc, d) (u1, u2) (pc, L, st) h = some r) (hH : hRel D tc B b0 scr h H) (hS : va_S (Aq B) s.heap H locs) (hL : lRel B b0 ls (mL y) L) (k : wNext D tc B b0 scr p l e R s m args below meth c Q y r) : W p l e R s m args below meth c H locs u1 u2 Q (F0 m pc ls (st.map (trV B b0))) := by
  obtain ⟨hx, hb, hml, hown, hts, hlk, hret, hini, -, -, hE, -⟩ := id C0
  simp only [opOK, Bool.and_eq_true] at ho
  have hn := beq1 ho.1
  have ha := beq1 ho.2
  subst hn
  subst ha
  simp only [aStep] at hs
  split at hs
  · rename_i x t
    cases hlt : Nat.blt (a + 1) (mL y) with
    | false => rw [hlt] at hs; cases hs
    | true =>
      rw [hlt] at hs
      simp only [cond_true, Option.some.injEq] at hs
      subst hs
      exact lv_lstore hx hb hd (hL.has (n := mL y)) (Nat.le_of_ble_eq_true hlt) rfl (fun ls' hl' => k H locs ls' hH hS (lRel.set2 (v := .long x) rfl hl' hL.bound).mb)
  · cases hs
theorem st_lstore_n {i0 : Fin 4} (C0 : cxP D tc B scr sa p R s m args meth c y) {n : Nat} {v : Value} {a b cc d pc u1 u2 : Nat} {L : List (Option Value)} {st : List Value} {r : aRes} (ho : opOK y pc (.lstore_n i0, n, v, a, b, cc, d) = true) (hd : decode (bc y) pc = .ok (.lstore_n i0, n)) (hs : aStep y (.lstore_n i0, n, v, a, b, cc, d) (u1, u2) (pc, L, st) h = some r) (hH : hRel D tc B b0 scr h H) (hS : va_S (Aq B) s.heap H locs) (hL : lRel B b0 ls (mL y) L) (k : wNext D tc B b0 scr p l e R s m args below meth c Q y r) : W p l e R s m args below meth c H locs u1 u2 Q (F0 m pc ls (st.map (trV B b0))) := by
  obtain ⟨hx, hb, hml, hown, hts, hlk, hret, hini, -, -, hE, -⟩ := id C0
  simp only [opOK, Bool.and_eq_true] at ho
  have hn := beq1 ho.1
  have ha := beq1 ho.2
  subst hn
  subst ha
  simp only [aStep] at hs
  split at hs
  · rename_i x t
    cases hlt : Nat.blt (i0.val + 1) (mL y) with
    | false => rw [hlt] at hs; cases hs
    | true =>
      rw [hlt] at hs
      simp only [cond_true, Option.some.injEq] at hs
      subst hs
      exact lv_lstore_n hx hb hd rfl (hL.has (n := mL y)) (Nat.le_of_ble_eq_true hlt) rfl (fun ls' hl' => k H locs ls' hH hS (lRel.set2 (v := .long x) rfl hl' hL.bound).mb)
  · cases hs
theorem st_iinc {i0 : Nat} {j0 : Int} (C0 : cxP D tc B scr sa p R s m args meth c y) {n : Nat} {v : Value} {a b cc d pc u1 u2 : Nat} {L : List (Option Value)} {st : List Value} {r : aRes} (ho : opOK y pc (.iinc i0 j0, n, v, a, b, cc, d) = true) (hd : decode (bc y) pc = .ok (.iinc i0 j0, n)) (hs : aStep y (.iinc i0 j0, n, v, a, b, cc, d) (u1, u2) (pc, L, st) h = some r) (hH : hRel D tc B b0 scr h H) (hS : va_S (Aq B) s.heap H locs) (hL : lRel B b0 ls (mL y) L) (k : wNext D tc B b0 scr p l e R s m args below meth c Q y r) : W p l e R s m args below meth c H locs u1 u2 Q (F0 m pc ls (st.map (trV B b0))) := by
  obtain ⟨hx, hb, hml, hown, hts, hlk, hret, hini, -, -, hE, -⟩ := id C0
  simp only [opOK, Bool.and_eq_true, decide_eq_true_eq] at ho
  obtain ⟨h1, h2, rfl⟩ := ho
  have hn := beq1 h1
  have ha := beq1 h2
  subst hn
  subst ha
  simp only [aStep] at hs
  split at hs
  · rename_i x k0 e0 e1
    cases e1
    cases hlt : Nat.blt a (mL y) with
    | false => rw [hlt] at hs; cases hs
    | true =>
      rw [hlt] at hs
      simp only [cond_true, Option.some.injEq] at hs
      subst hs
      obtain ⟨j, hj⟩ := List.getElem?_of_mem (lLst_mem (B := B) (b0 := b0) (n := mL y) (hL.lt e0) e0)
      exact lv_iinc hx hb hd (hL.has (n := mL y)) hj rfl (Nat.le_of_ble_eq_true hlt) rfl (fun ls' hl' => k H locs ls' hH hS (lRel.set1 (v := .int (x + Int32.ofInt j0)) rfl hl' hL.bound))
  · cases hs
theorem st_iadd (C0 : cxP D tc B scr sa p R s m args meth c y) {n : Nat} {v : Value} {a b cc d pc u1 u2 : Nat} {L : List (Option Value)} {st : List Value} {r : aRes} (ho : opOK y pc (.iadd, n, v, a, b, cc, d) = true) (hd : decode (bc y) pc = .ok (.iadd, n)) (hs : aStep y (.iadd, n, v, a, b, cc, d) (u1, u2) (pc, L, st) h = some r) (hH : hRel D tc B b0 scr h H) (hS : va_S (Aq B) s.heap H locs) (hL : lRel B b0 ls (mL y) L) (k : wNext D tc B b0 scr p l e R s m args below meth c Q y r) : W p l e R s m args below meth c H locs u1 u2 Q (F0 m pc ls (st.map (trV B b0))) := by
  obtain ⟨hx, hb, hml, hown, hts, hlk, hret, hini, -, -, hE, -⟩ := id C0
  have hn : n = 1 := beq1 ho
  subst hn
  simp only [aStep] at hs
  split at hs
  · rename_i z x t
    simp only [aNx, Option.some.injEq] at hs
    subst hs
    exact lv_iadd hx hb hd (k H locs ls hH hS hL)
  · cases hs
theorem st_isub (C0 : cxP D tc B scr sa p R s m args meth c y) {n : Nat} {v : Value} {a b cc d pc u1 u2 : Nat} {L : List (Option Value)} {st : List Value} {r : aRes} (ho : opOK y pc (.isub, n, v, a, b, cc, d) = true) (hd : decode (bc y) pc = .ok (.isub, n)) (hs : aStep y (.isub, n, v, a, b, cc, d) (u1, u2) (pc, L, st) h = some r) (hH : hRel D tc B b0 scr h H) (hS : va_S (Aq B) s.heap H locs) (hL : lRel B b0 ls (mL y) L) (k : wNext D tc B b0 scr p l e R s m args below meth c Q y r) : W p l e R s m args below meth c H locs u1 u2 Q (F0 m pc ls (st.map (trV B b0))) := by
  obtain ⟨hx, hb, hml, hown, hts, hlk, hret, hini, -, -, hE, -⟩ := id C0
  have hn : n = 1 := beq1 ho
  subst hn
  simp only [aStep] at hs
  split at hs
  · rename_i z x t
    simp only [aNx, Option.some.injEq] at hs
    subst hs
    exact lv_isub hx hb hd (k H locs ls hH hS hL)
  · cases hs
theorem st_imul (C0 : cxP D tc B scr sa p R s m args meth c y) {n : Nat} {v : Value} {a b cc d pc u1 u2 : Nat} {L : List (Option Value)} {st : List Value} {r : aRes} (ho : opOK y pc (.imul, n, v, a, b, cc, d) = true) (hd : decode (bc y) pc = .ok (.imul, n)) (hs : aStep y (.imul, n, v, a, b, cc, d) (u1, u2) (pc, L, st) h = some r) (hH : hRel D tc B b0 scr h H) (hS : va_S (Aq B) s.heap H locs) (hL : lRel B b0 ls (mL y) L) (k : wNext D tc B b0 scr p l e R s m args below meth c Q y r) : W p l e R s m args below meth c H locs u1 u2 Q (F0 m pc ls (st.map (trV B b0))) := by
  obtain ⟨hx, hb, hml, hown, hts, hlk, hret, hini, -, -, hE, -⟩ := id C0
  have hn : n = 1 := beq1 ho
  subst hn
  simp only [aStep] at hs
  split at hs
  · rename_i z x t
    simp only [aNx, Option.some.injEq] at hs
    subst hs
    exact lv_imul hx hb hd (k H locs ls hH hS hL)
  · cases hs
theorem st_iand (C0 : cxP D tc B scr sa p R s m args meth c y) {n : Nat} {v : Value} {a b cc d pc u1 u2 : Nat} {L : List (Option Value)} {st : List Value} {r : aRes} (ho : opOK y pc (.iand, n, v, a, b, cc, d) = true) (hd : decode (bc y) pc = .ok (.iand, n)) (hs : aStep y (.iand, n, v, a, b, cc, d) (u1, u2) (pc, L, st) h = some r) (hH : hRel D tc B b0 scr h H) (hS : va_S (Aq B) s.heap H locs) (hL : lRel B b0 ls (mL y) L) (k : wNext D tc B b0 scr p l e R s m args below meth c Q y r) : W p l e R s m args below meth c H locs u1 u2 Q (F0 m pc ls (st.map (trV B b0))) := by
  obtain ⟨hx, hb, hml, hown, hts, hlk, hret, hini, -, -, hE, -⟩ := id C0
  have hn : n = 1 := beq1 ho
  subst hn
  simp only [aStep] at hs
  split at hs
  · rename_i z x t
    simp only [aNx, Option.some.injEq] at hs
    subst hs
    exact lv_iand hx hb hd (k H locs ls hH hS hL)
  · cases hs
theorem st_ior (C0 : cxP D tc B scr sa p R s m args meth c y) {n : Nat} {v : Value} {a b cc d pc u1 u2 : Nat} {L : List (Option Value)} {st : List Value} {r : aRes} (ho : opOK y pc (.ior, n, v, a, b, cc, d) = true) (hd : decode (bc y) pc = .ok (.ior, n)) (hs : aStep y (.ior, n, v, a, b, cc, d) (u1, u2) (pc, L, st) h = some r) (hH : hRel D tc B b0 scr h H) (hS : va_S (Aq B) s.heap H locs) (hL : lRel B b0 ls (mL y) L) (k : wNext D tc B b0 scr p l e R s m args below meth c Q y r) : W p l e R s m args below meth c H locs u1 u2 Q (F0 m pc ls (st.map (trV B b0))) := by
  obtain ⟨hx, hb, hml, hown, hts, hlk, hret, hini, -, -, hE, -⟩ := id C0
  have hn : n = 1 := beq1 ho
  subst hn
  simp only [aStep] at hs
  split at hs
  · rename_i z x t
    simp only [aNx, Option.some.injEq] at hs
    subst hs
    exact lv_ior hx hb hd (k H locs ls hH hS hL)
  · cases hs
theorem st_ixor (C0 : cxP D tc B scr sa p R s m args meth c y) {n : Nat} {v : Value} {a b cc d pc u1 u2 : Nat} {L : List (Option Value)} {st : List Value} {r : aRes} (ho : opOK y pc (.ixor, n, v, a, b, cc, d) = true) (hd : decode (bc y) pc = .ok (.ixor, n)) (hs : aStep y (.ixor, n, v, a, b, cc, d) (u1, u2) (pc, L, st) h = some r) (hH : hRel D tc B b0 scr h H) (hS : va_S (Aq B) s.heap H locs) (hL : lRel B b0 ls (mL y) L) (k : wNext D tc B b0 scr p l e R s m args below meth c Q y r) : W p l e R s m args below meth c H locs u1 u2 Q (F0 m pc ls (st.map (trV B b0))) := by
  obtain ⟨hx, hb, hml, hown, hts, hlk, hret, hini, -, -, hE, -⟩ := id C0
  have hn : n = 1 := beq1 ho
  subst hn
  simp only [aStep] at hs
  split at hs
  · rename_i z x t
    simp only [aNx, Option.some.injEq] at hs
    subst hs
    exact lv_ixor hx hb hd (k H locs ls hH hS hL)
  · cases hs
theorem st_ishl (C0 : cxP D tc B scr sa p R s m args meth c y) {n : Nat} {v : Value} {a b cc d pc u1 u2 : Nat} {L : List (Option Value)} {st : List Value} {r : aRes} (ho : opOK y pc (.ishl, n, v, a, b, cc, d) = true) (hd : decode (bc y) pc = .ok (.ishl, n)) (hs : aStep y (.ishl, n, v, a, b, cc, d) (u1, u2) (pc, L, st) h = some r) (hH : hRel D tc B b0 scr h H) (hS : va_S (Aq B) s.heap H locs) (hL : lRel B b0 ls (mL y) L) (k : wNext D tc B b0 scr p l e R s m args below meth c Q y r) : W p l e R s m args below meth c H locs u1 u2 Q (F0 m pc ls (st.map (trV B b0))) := by
  obtain ⟨hx, hb, hml, hown, hts, hlk, hret, hini, -, -, hE, -⟩ := id C0
  have hn : n = 1 := beq1 ho
  subst hn
  simp only [aStep] at hs
  split at hs
  · rename_i z x t
    simp only [aNx, Option.some.injEq] at hs
    subst hs
    exact lv_ishl hx hb hd (k H locs ls hH hS hL)
  · cases hs
theorem st_ishr (C0 : cxP D tc B scr sa p R s m args meth c y) {n : Nat} {v : Value} {a b cc d pc u1 u2 : Nat} {L : List (Option Value)} {st : List Value} {r : aRes} (ho : opOK y pc (.ishr, n, v, a, b, cc, d) = true) (hd : decode (bc y) pc = .ok (.ishr, n)) (hs : aStep y (.ishr, n, v, a, b, cc, d) (u1, u2) (pc, L, st) h = some r) (hH : hRel D tc B b0 scr h H) (hS : va_S (Aq B) s.heap H locs) (hL : lRel B b0 ls (mL y) L) (k : wNext D tc B b0 scr p l e R s m args below meth c Q y r) : W p l e R s m args below meth c H locs u1 u2 Q (F0 m pc ls (st.map (trV B b0))) := by
  obtain ⟨hx, hb, hml, hown, hts, hlk, hret, hini, -, -, hE, -⟩ := id C0
  have hn : n = 1 := beq1 ho
  subst hn
  simp only [aStep] at hs
  split at hs
  · rename_i z x t
    simp only [aNx, Option.some.injEq] at hs
    subst hs
    exact lv_ishr hx hb hd (k H locs ls hH hS hL)
  · cases hs
theorem st_iushr (C0 : cxP D tc B scr sa p R s m args meth c y) {n : Nat} {v : Value} {a b cc d pc u1 u2 : Nat} {L : List (Option Value)} {st : List Value} {r : aRes} (ho : opOK y pc (.iushr, n, v, a, b, cc, d) = true) (hd : decode (bc y) pc = .ok (.iushr, n)) (hs : aStep y (.iushr, n, v, a, b, cc, d) (u1, u2) (pc, L, st) h = some r) (hH : hRel D tc B b0 scr h H) (hS : va_S (Aq B) s.heap H locs) (hL : lRel B b0 ls (mL y) L) (k : wNext D tc B b0 scr p l e R s m args below meth c Q y r) : W p l e R s m args below meth c H locs u1 u2 Q (F0 m pc ls (st.map (trV B b0))) := by
  obtain ⟨hx, hb, hml, hown, hts, hlk, hret, hini, -, -, hE, -⟩ := id C0
  have hn : n = 1 := beq1 ho
  subst hn
  simp only [aStep] at hs
  split at hs
  · rename_i z x t
    simp only [aNx, Option.some.injEq] at hs
    subst hs
    exact lv_iushr hx hb hd rfl (k H locs ls hH hS hL)
  · cases hs
theorem st_ladd (C0 : cxP D tc B scr sa p R s m args meth c y) {n : Nat} {v : Value} {a b cc d pc u1 u2 : Nat} {L : List (Option Value)} {st : List Value} {r : aRes} (ho : opOK y pc (.ladd, n, v, a, b, cc, d) = true) (hd : decode (bc y) pc = .ok (.ladd, n)) (hs : aStep y (.ladd, n, v, a, b, cc, d) (u1, u2) (pc, L, st) h = some r) (hH : hRel D tc B b0 scr h H) (hS : va_S (Aq B) s.heap H locs) (hL : lRel B b0 ls (mL y) L) (k : wNext D tc B b0 scr p l e R s m args below meth c Q y r) : W p l e R s m args below meth c H locs u1 u2 Q (F0 m pc ls (st.map (trV B b0))) := by
  obtain ⟨hx, hb, hml, hown, hts, hlk, hret, hini, -, -, hE, -⟩ := id C0
  have hn : n = 1 := beq1 ho
  subst hn
  simp only [aStep] at hs
  split at hs
  · rename_i z x t
    simp only [aNx, Option.some.injEq] at hs
    subst hs
    exact lv_ladd hx hb hd (k H locs ls hH hS hL)
  · cases hs
theorem st_lsub (C0 : cxP D tc B scr sa p R s m args meth c y) {n : Nat} {v : Value} {a b cc d pc u1 u2 : Nat} {L : List (Option Value)} {st : List Value} {r : aRes} (ho : opOK y pc (.lsub, n, v, a, b, cc, d) = true) (hd : decode (bc y) pc = .ok (.lsub, n)) (hs : aStep y (.lsub, n, v, a, b, cc, d) (u1, u2) (pc, L, st) h = some r) (hH : hRel D tc B b0 scr h H) (hS : va_S (Aq B) s.heap H locs) (hL : lRel B b0 ls (mL y) L) (k : wNext D tc B b0 scr p l e R s m args below meth c Q y r) : W p l e R s m args below meth c H locs u1 u2 Q (F0 m pc ls (st.map (trV B b0))) := by
  obtain ⟨hx, hb, hml, hown, hts, hlk, hret, hini, -, -, hE, -⟩ := id C0
  have hn : n = 1 := beq1 ho
  subst hn
  simp only [aStep] at hs
  split at hs
  · rename_i z x t
    simp only [aNx, Option.some.injEq] at hs
    subst hs
    exact lv_lsub hx hb hd (k H locs ls hH hS hL)
  · cases hs
theorem st_lmul (C0 : cxP D tc B scr sa p R s m args meth c y) {n : Nat} {v : Value} {a b cc d pc u1 u2 : Nat} {L : List (Option Value)} {st : List Value} {r : aRes} (ho : opOK y pc (.lmul, n, v, a, b, cc, d) = true) (hd : decode (bc y) pc = .ok (.lmul, n)) (hs : aStep y (.lmul, n, v, a, b, cc, d) (u1, u2) (pc, L, st) h = some r) (hH : hRel D tc B b0 scr h H) (hS : va_S (Aq B) s.heap H locs) (hL : lRel B b0 ls (mL y) L) (k : wNext D tc B b0 scr p l e R s m args below meth c Q y r) : W p l e R s m args below meth c H locs u1 u2 Q (F0 m pc ls (st.map (trV B b0))) := by
  obtain ⟨hx, hb, hml, hown, hts, hlk, hret, hini, -, -, hE, -⟩ := id C0
  have hn : n = 1 := beq1 ho
  subst hn
  simp only [aStep] at hs
  split at hs
  · rename_i z x t
    simp only [aNx, Option.some.injEq] at hs
    subst hs
    exact lv_lmul hx hb hd (k H locs ls hH hS hL)
  · cases hs
theorem st_lcmp (C0 : cxP D tc B scr sa p R s m args meth c y) {n : Nat} {v : Value} {a b cc d pc u1 u2 : Nat} {L : List (Option Value)} {st : List Value} {r : aRes} (ho : opOK y pc (.lcmp, n, v, a, b, cc, d) = true) (hd : decode (bc y) pc = .ok (.lcmp, n)) (hs : aStep y (.lcmp, n, v, a, b, cc, d) (u1, u2) (pc, L, st) h = some r) (hH : hRel D tc B b0 scr h H) (hS : va_S (Aq B) s.heap H locs) (hL : lRel B b0 ls (mL y) L) (k : wNext D tc B b0 scr p l e R s m args below meth c Q y r) : W p l e R s m args below meth c H locs u1 u2 Q (F0 m pc ls (st.map (trV B b0))) := by
  obtain ⟨hx, hb, hml, hown, hts, hlk, hret, hini, -, -, hE, -⟩ := id C0
  have hn : n = 1 := beq1 ho
  subst hn
  simp only [aStep] at hs
  split at hs
  · rename_i z x t
    simp only [aNx, Option.some.injEq] at hs
    subst hs
    exact W.lcmp hx hb hd (k H locs ls hH hS hL)
  · cases hs
theorem st_idiv (C0 : cxP D tc B scr sa p R s m args meth c y) {n : Nat} {v : Value} {a b cc d pc u1 u2 : Nat} {L : List (Option Value)} {st : List Value} {r : aRes} (ho : opOK y pc (.idiv, n, v, a, b, cc, d) = true) (hd : decode (bc y) pc = .ok (.idiv, n)) (hs : aStep y (.idiv, n, v, a, b, cc, d) (u1, u2) (pc, L, st) h = some r) (hH : hRel D tc B b0 scr h H) (hS : va_S (Aq B) s.heap H locs) (hL : lRel B b0 ls (mL y) L) (k : wNext D tc B b0 scr p l e R s m args below meth c Q y r) : W p l e R s m args below meth c H locs u1 u2 Q (F0 m pc ls (st.map (trV B b0))) := by
  obtain ⟨hx, hb, hml, hown, hts, hlk, hret, hini, -, -, hE, -⟩ := id C0
  have hn : n = 1 := beq1 ho
  subst hn
  simp only [aStep] at hs
  split at hs
  · rename_i z x t
    by_cases hz : z = 0
    · rw [decide_eq_true hz] at hs; cases hs
    rw [decide_eq_false hz] at hs
    simp only [cond_false] at hs
    simp only [aNx, Option.some.injEq] at hs
    subst hs
    exact lv_idiv hx hb hd hz (k H locs ls hH hS hL)
  · cases hs
theorem st_irem (C0 : cxP D tc B scr sa p R s m args meth c y) {n : Nat} {v : Value} {a b cc d pc u1 u2 : Nat} {L : List (Option Value)} {st : List Value} {r : aRes} (ho : opOK y pc (.irem, n, v, a, b, cc, d) = true) (hd : decode (bc y) pc = .ok (.irem, n)) (hs : aStep y (.irem, n, v, a, b, cc, d) (u1, u2) (pc, L, st) h = some r) (hH : hRel D tc B b0 scr h H) (hS : va_S (Aq B) s.heap H locs) (hL : lRel B b0 ls (mL y) L) (k : wNext D tc B b0 scr p l e R s m args below meth c Q y r) : W p l e R s m args below meth c H locs u1 u2 Q (F0 m pc ls (st.map (trV B b0))) := by
  obtain ⟨hx, hb, hml, hown, hts, hlk, hret, hini, -, -, hE, -⟩ := id C0
  have hn : n = 1 := beq1 ho
  subst hn
  simp only [aStep] at hs
  split at hs
  · rename_i z x t
    by_cases hz : z = 0
    · rw [decide_eq_true hz] at hs; cases hs
    rw [decide_eq_false hz] at hs
    simp only [cond_false] at hs
    simp only [aNx, Option.some.injEq] at hs
    subst hs
    exact lv_irem hx hb hd hz (k H locs ls hH hS hL)
  · cases hs
theorem st_lrem (C0 : cxP D tc B scr sa p R s m args meth c y) {n : Nat} {v : Value} {a b cc d pc u1 u2 : Nat} {L : List (Option Value)} {st : List Value} {r : aRes} (ho : opOK y pc (.lrem, n, v, a, b, cc, d) = true) (hd : decode (bc y) pc = .ok (.lrem, n)) (hs : aStep y (.lrem, n, v, a, b, cc, d) (u1, u2) (pc, L, st) h = some r) (hH : hRel D tc B b0 scr h H) (hS : va_S (Aq B) s.heap H locs) (hL : lRel B b0 ls (mL y) L) (k : wNext D tc B b0 scr p l e R s m args below meth c Q y r) : W p l e R s m args below meth c H locs u1 u2 Q (F0 m pc ls (st.map (trV B b0))) := by
  obtain ⟨hx, hb, hml, hown, hts, hlk, hret, hini, -, -, hE, -⟩ := id C0
  have hn : n = 1 := beq1 ho
  subst hn
  simp only [aStep] at hs
  split at hs
  · rename_i z x t
    by_cases hz : z = 0
    · rw [decide_eq_true hz] at hs; cases hs
    rw [decide_eq_false hz] at hs
    simp only [cond_false] at hs
    simp only [aNx, Option.some.injEq] at hs
    subst hs
    exact lv_lrem hx hb hd hz (k H locs ls hH hS hL)
  · cases hs
theorem st_i2l (C0 : cxP D tc B scr sa p R s m args meth c y) {n : Nat} {v : Value} {a b cc d pc u1 u2 : Nat} {L : List (Option Value)} {st : List Value} {r : aRes} (ho : opOK y pc (.i2l, n, v, a, b, cc, d) = true) (hd : decode (bc y) pc = .ok (.i2l, n)) (hs : aStep y (.i2l, n, v, a, b, cc, d) (u1, u2) (pc, L, st) h = some r) (hH : hRel D tc B b0 scr h H) (hS : va_S (Aq B) s.heap H locs) (hL : lRel B b0 ls (mL y) L) (k : wNext D tc B b0 scr p l e R s m args below meth c Q y r) : W p l e R s m args below meth c H locs u1 u2 Q (F0 m pc ls (st.map (trV B b0))) := by
  obtain ⟨hx, hb, hml, hown, hts, hlk, hret, hini, -, -, hE, -⟩ := id C0
  have hn : n = 1 := beq1 ho
  subst hn
  simp only [aStep] at hs
  split at hs
  · rename_i x t
    simp only [aNx, Option.some.injEq] at hs
    subst hs
    exact lv_i2l hx hb hd rfl (k H locs ls hH hS hL)
  · cases hs
theorem st_l2i (C0 : cxP D tc B scr sa p R s m args meth c y) {n : Nat} {v : Value} {a b cc d pc u1 u2 : Nat} {L : List (Option Value)} {st : List Value} {r : aRes} (ho : opOK y pc (.l2i, n, v, a, b, cc, d) = true) (hd : decode (bc y) pc = .ok (.l2i, n)) (hs : aStep y (.l2i, n, v, a, b, cc, d) (u1, u2) (pc, L, st) h = some r) (hH : hRel D tc B b0 scr h H) (hS : va_S (Aq B) s.heap H locs) (hL : lRel B b0 ls (mL y) L) (k : wNext D tc B b0 scr p l e R s m args below meth c Q y r) : W p l e R s m args below meth c H locs u1 u2 Q (F0 m pc ls (st.map (trV B b0))) := by
  obtain ⟨hx, hb, hml, hown, hts, hlk, hret, hini, -, -, hE, -⟩ := id C0
  have hn : n = 1 := beq1 ho
  subst hn
  simp only [aStep] at hs
  split at hs
  · rename_i x t
    simp only [aNx, Option.some.injEq] at hs
    subst hs
    exact lv_l2i hx hb hd rfl (k H locs ls hH hS hL)
  · cases hs
theorem st_i2f (C0 : cxP D tc B scr sa p R s m args meth c y) {n : Nat} {v : Value} {a b cc d pc u1 u2 : Nat} {L : List (Option Value)} {st : List Value} {r : aRes} (ho : opOK y pc (.i2f, n, v, a, b, cc, d) = true) (hd : decode (bc y) pc = .ok (.i2f, n)) (hs : aStep y (.i2f, n, v, a, b, cc, d) (u1, u2) (pc, L, st) h = some r) (hH : hRel D tc B b0 scr h H) (hS : va_S (Aq B) s.heap H locs) (hL : lRel B b0 ls (mL y) L) (k : wNext D tc B b0 scr p l e R s m args below meth c Q y r) : W p l e R s m args below meth c H locs u1 u2 Q (F0 m pc ls (st.map (trV B b0))) := by
  obtain ⟨hx, hb, hml, hown, hts, hlk, hret, hini, -, -, hE, -⟩ := id C0
  have hn : n = 1 := beq1 ho
  subst hn
  simp only [aStep] at hs
  split at hs
  · rename_i x t
    simp only [aNx, Option.some.injEq] at hs
    subst hs
    exact lv_i2f hx hb hd (k H locs ls hH hS hL)
  · cases hs
theorem st_l2f (C0 : cxP D tc B scr sa p R s m args meth c y) {n : Nat} {v : Value} {a b cc d pc u1 u2 : Nat} {L : List (Option Value)} {st : List Value} {r : aRes} (ho : opOK y pc (.l2f, n, v, a, b, cc, d) = true) (hd : decode (bc y) pc = .ok (.l2f, n)) (hs : aStep y (.l2f, n, v, a, b, cc, d) (u1, u2) (pc, L, st) h = some r) (hH : hRel D tc B b0 scr h H) (hS : va_S (Aq B) s.heap H locs) (hL : lRel B b0 ls (mL y) L) (k : wNext D tc B b0 scr p l e R s m args below meth c Q y r) : W p l e R s m args below meth c H locs u1 u2 Q (F0 m pc ls (st.map (trV B b0))) := by
  obtain ⟨hx, hb, hml, hown, hts, hlk, hret, hini, -, -, hE, -⟩ := id C0
  have hn : n = 1 := beq1 ho
  subst hn
  simp only [aStep] at hs
  split at hs
  · rename_i x t
    simp only [aNx, Option.some.injEq] at hs
    subst hs
    exact lv_l2f hx hb hd (k H locs ls hH hS hL)
  · cases hs
theorem st_fdiv (C0 : cxP D tc B scr sa p R s m args meth c y) {n : Nat} {v : Value} {a b cc d pc u1 u2 : Nat} {L : List (Option Value)} {st : List Value} {r : aRes} (ho : opOK y pc (.fdiv, n, v, a, b, cc, d) = true) (hd : decode (bc y) pc = .ok (.fdiv, n)) (hs : aStep y (.fdiv, n, v, a, b, cc, d) (u1, u2) (pc, L, st) h = some r) (hH : hRel D tc B b0 scr h H) (hS : va_S (Aq B) s.heap H locs) (hL : lRel B b0 ls (mL y) L) (k : wNext D tc B b0 scr p l e R s m args below meth c Q y r) : W p l e R s m args below meth c H locs u1 u2 Q (F0 m pc ls (st.map (trV B b0))) := by
  obtain ⟨hx, hb, hml, hown, hts, hlk, hret, hini, -, -, hE, -⟩ := id C0
  have hn : n = 1 := beq1 ho
  subst hn
  simp only [aStep] at hs
  split at hs
  · rename_i z x t
    cases hq : aN32 (FP.fdiv x z) with
    | false => rw [hq] at hs; cases hs
    | true =>
      rw [hq] at hs
      simp only [cond_true, aNx, Option.some.injEq] at hs
      subst hs
      have hq2 : (FP.fdiv x z) &&& 0x7fffffff ≤ 0x7f800000 := of_decide_eq_true hq
      exact lv_fdiv hx hb hd hq2 (k H locs ls hH hS hL)
  · cases hs
theorem st_f2d (C0 : cxP D tc B scr sa p R s m args meth c y) {n : Nat} {v : Value} {a b cc d pc u1 u2 : Nat} {L : List (Option Value)} {st : List Value} {r : aRes} (ho : opOK y pc (.f2d, n, v, a, b, cc, d) = true) (hd : decode (bc y) pc = .ok (.f2d, n)) (hs : aStep y (.f2d, n, v, a, b, cc, d) (u1, u2) (pc, L, st) h = some r) (hH : hRel D tc B b0 scr h H) (hS : va_S (Aq B) s.heap H locs) (hL : lRel B b0 ls (mL y) L) (k : wNext D tc B b0 scr p l e R s m args below meth c Q y r) : W p l e R s m args below meth c H locs u1 u2 Q (F0 m pc ls (st.map (trV B b0))) := by
  obtain ⟨hx, hb, hml, hown, hts, hlk, hret, hini, -, -, hE, -⟩ := id C0
  have hn : n = 1 := beq1 ho
  subst hn
  simp only [aStep] at hs
  split at hs
  · rename_i x t
    cases hq : aN64 (FP.f2d x) with
    | false => rw [hq] at hs; cases hs
    | true =>
      rw [hq] at hs
      simp only [cond_true, aNx, Option.some.injEq] at hs
      subst hs
      have hq2 : (FP.f2d x) &&& 0x7fffffffffffffff ≤ 0x7ff0000000000000 := of_decide_eq_true hq
      exact lv_f2d hx hb hd hq2 (k H locs ls hH hS hL)
  · cases hs
theorem st_dcmp {o0 : CmpOp} (C0 : cxP D tc B scr sa p R s m args meth c y) {n : Nat} {v : Value} {a b cc d pc u1 u2 : Nat} {L : List (Option Value)} {st : List Value} {r : aRes} (ho : opOK y pc (.dcmp o0, n, v, a, b, cc, d) = true) (hd : decode (bc y) pc = .ok (.dcmp o0, n)) (hs : aStep y (.dcmp o0, n, v, a, b, cc, d) (u1, u2) (pc, L, st) h = some r) (hH : hRel D tc B b0 scr h H) (hS : va_S (Aq B) s.heap H locs) (hL : lRel B b0 ls (mL y) L) (k : wNext D tc B b0 scr p l e R s m args below meth c Q y r) : W p l e R s m args below meth c H locs u1 u2 Q (F0 m pc ls (st.map (trV B b0))) := by
  obtain ⟨hx, hb, hml, hown, hts, hlk, hret, hini, -, -, hE, -⟩ := id C0
  have hn : n = 1 := beq1 ho
  subst hn
  simp only [aStep] at hs
  split at hs
  · rename_i z x t
    simp only [aNx, Option.some.injEq] at hs
    subst hs
    exact lv_dcmp hx hb hd (k H locs ls hH hS hL)
  · cases hs
theorem st_fcmp {o0 : CmpOp} (C0 : cxP D tc B scr sa p R s m args meth c y) {n : Nat} {v : Value} {a b cc d pc u1 u2 : Nat} {L : List (Option Value)} {st : List Value} {r : aRes} (ho : opOK y pc (.fcmp o0, n, v, a, b, cc, d) = true) (hd : decode (bc y) pc = .ok (.fcmp o0, n)) (hs : aStep y (.fcmp o0, n, v, a, b, cc, d) (u1, u2) (pc, L, st) h = some r) (hH : hRel D tc B b0 scr h H) (hS : va_S (Aq B) s.heap H locs) (hL : lRel B b0 ls (mL y) L) (k : wNext D tc B b0 scr p l e R s m args below meth c Q y r) : W p l e R s m args below meth c H locs u1 u2 Q (F0 m pc ls (st.map (trV B b0))) := by
  obtain ⟨hx, hb, hml, hown, hts, hlk, hret, hini, -, -, hE, -⟩ := id C0
  have hn : n = 1 := beq1 ho
  subst hn
  simp only [aStep] at hs
  split at hs
  · rename_i z x t
    simp only [aNx, Option.some.injEq] at hs
    subst hs
    exact lv_fcmp hx hb hd (k H locs ls hH hS hL)
  · cases hs
theorem st_dup (C0 : cxP D tc B scr sa p R s m args meth c y) {n : Nat} {v : Value} {a b cc d pc u1 u2 : Nat} {L : List (Option Value)} {st : List Value} {r : aRes} (ho : opOK y pc (.dup, n, v, a, b, cc, d) = true) (hd : decode (bc y) pc = .ok (.dup, n)) (hs : aStep y (.dup, n, v, a, b, cc, d) (u1, u2) (pc, L, st) h = some r) (hH : hRel D tc B b0 scr h H) (hS : va_S (Aq B) s.heap H locs) (hL : lRel B b0 ls (mL y) L) (k : wNext D tc B b0 scr p l e R s m args below meth c Q y r) : W p l e R s m args below meth c H locs u1 u2 Q (F0 m pc ls (st.map (trV B b0))) := by
  obtain ⟨hx, hb, hml, hown, hts, hlk, hret, hini, -, -, hE, -⟩ := id C0
  have hn : n = 1 := beq1 ho
  subst hn
  simp only [aStep] at hs
  split at hs
  · rename_i w t
    cases hq : aIs2 (some w) with
    | true => rw [hq] at hs; cases hs
    | false =>
      rw [hq] at hs
      simp only [cond_false, aNx, Option.some.injEq] at hs
      subst hs
      exact lv_dup hx hb hd (by rw [trV_cat]; exact cat_is1 hq) (k H locs ls hH hS hL)
  · cases hs
theorem st_dup2 (C0 : cxP D tc B scr sa p R s m args meth c y) {n : Nat} {v : Value} {a b cc d pc u1 u2 : Nat} {L : List (Option Value)} {st : List Value} {r : aRes} (ho : opOK y pc (.dup2, n, v, a, b, cc, d) = true) (hd : decode (bc y) pc = .ok (.dup2, n)) (hs : aStep y (.dup2, n, v, a, b, cc, d) (u1, u2) (pc, L, st) h = some r) (hH : hRel D tc B b0 scr h H) (hS : va_S (Aq B) s.heap H locs) (hL : lRel B b0 ls (mL y) L) (k : wNext D tc B b0 scr p l e R s m args below meth c Q y r) : W p l e R s m args below meth c H locs u1 u2 Q (F0 m pc ls (st.map (trV B b0))) := by
  obtain ⟨hx, hb, hml, hown, hts, hlk, hret, hini, -, -, hE, -⟩ := id C0
  have hn : n = 1 := beq1 ho
  subst hn
  simp only [aStep] at hs
  split at hs
  · rename_i w w2 t
    cases hq : aIs2 (some w) with
    | true => rw [hq] at hs; cases hs
    | false =>
      cases hq2 : aIs2 (some w2) with
      | true => rw [hq, hq2] at hs; cases hs
      | false =>
        rw [hq, hq2] at hs
        simp only [cond_false, aNx, Option.some.injEq] at hs
        subst hs
        exact lv_dup2_11 hx hb hd (by rw [trV_cat]; exact cat_is1 hq) (by rw [trV_cat]; exact cat_is1 hq2) (k H locs ls hH hS hL)
  · cases hs
theorem st_goto {o0 : Int} (C0 : cxP D tc B scr sa p R s m args meth c y) {n : Nat} {v : Value} {a b cc d pc u1 u2 : Nat} {L : List (Option Value)} {st : List Value} {r : aRes} (ho : opOK y pc (.goto o0, n, v, a, b, cc, d) = true) (hd : decode (bc y) pc = .ok (.goto o0, n)) (hs : aStep y (.goto o0, n, v, a, b, cc, d) (u1, u2) (pc, L, st) h = some r) (hH : hRel D tc B b0 scr h H) (hS : va_S (Aq B) s.heap H locs) (hL : lRel B b0 ls (mL y) L) (k : wNext D tc B b0 scr p l e R s m args below meth c Q y r) : W p l e R s m args below meth c H locs u1 u2 Q (F0 m pc ls (st.map (trV B b0))) := by
  obtain ⟨hx, hb, hml, hown, hts, hlk, hret, hini, -, -, hE, -⟩ := id C0
  simp only [opOK, Bool.and_eq_true, decide_eq_true_eq] at ho
  have hn := beq1 ho.1
  subst hn
  simp only [aStep, Option.some.injEq] at hs
  subst hs
  exact lv_goto hx hb hd ho.2 (k H locs ls hH hS hL.mb)
theorem st_ifCond {q0 : Jvm.ClassFile.Cond} {o0 : Int} (C0 : cxP D tc B scr sa p R s m args meth c y) {n : Nat} {v : Value} {a b cc d pc u1 u2 : Nat} {L : List (Option Value)} {st : List Value} {r : aRes} (ho : opOK y pc (.ifCond q0 o0, n, v, a, b, cc, d) = true) (hd : decode (bc y) pc = .ok (.ifCond q0 o0, n)) (hs : aStep y (.ifCond q0 o0, n, v, a, b, cc, d) (u1, u2) (pc, L, st) h = some r) (hH : hRel D tc B b0 scr h H) (hS : va_S (Aq B) s.heap H locs) (hL : lRel B b0 ls (mL y) L) (k : wNext D tc B b0 scr p l e R s m args below meth c Q y r) : W p l e R s m args below meth c H locs u1 u2 Q (F0 m pc ls (st.map (trV B b0))) := by
  obtain ⟨hx, hb, hml, hown, hts, hlk, hret, hini, -, -, hE, -⟩ := id C0
  simp only [opOK, Bool.and_eq_true, decide_eq_true_eq] at ho
  have hn := beq1 ho.1
  subst hn
  simp only [aStep] at hs
  split at hs
  · rename_i x t
    cases q0
    · by_cases hc : x = 0
      · have hf : aC0 .eq x = true := decide_eq_true hc
        rw [hf] at hs
        simp only [cond_true, Option.some.injEq] at hs
        subst hs
        exact lv_if_eq hx hb hd ho.2 (fun _ => k H locs ls hH hS hL.mb) (fun g => absurd hc g)
      · have hf : aC0 .eq x = false := decide_eq_false hc
        rw [hf] at hs
        simp only [cond_false, Option.some.injEq] at hs
        subst hs
        exact lv_if_eq hx hb hd ho.2 (fun g => absurd g hc) (fun _ => k H locs ls hH hS hL)
    · by_cases hc : ¬ x = 0
      · have hf : aC0 .ne x = true := decide_eq_true hc
        rw [hf] at hs
        simp only [cond_true, Option.some.injEq] at hs
        subst hs
        exact lv_if_ne hx hb hd ho.2 (fun _ => k H locs ls hH hS hL.mb) (fun g => absurd g hc)
      · have hf : aC0 .ne x = false := decide_eq_false hc
        rw [hf] at hs
        simp only [cond_false, Option.some.injEq] at hs
        subst hs
        exact lv_if_ne hx hb hd ho.2 (fun g => absurd g hc) (fun _ => k H locs ls hH hS hL)
    · by_cases hc : x < 0
      · have hf : aC0 .lt x = true := decide_eq_true hc
        rw [hf] at hs
        simp only [cond_true, Option.some.injEq] at hs
        subst hs
        exact lv_if_lt hx hb hd ho.2 (fun _ => k H locs ls hH hS hL.mb) (fun g => absurd hc g)
      · have hf : aC0 .lt x = false := decide_eq_false hc
        rw [hf] at hs
        simp only [cond_false, Option.some.injEq] at hs
        subst hs
        exact lv_if_lt hx hb hd ho.2 (fun g => absurd g hc) (fun _ => k H locs ls hH hS hL)
    · by_cases hc : x ≥ 0
      · have hf : aC0 .ge x = true := decide_eq_true hc
        rw [hf] at hs
        simp only [cond_true, Option.some.injEq] at hs
        subst hs
        exact lv_if_ge hx hb hd ho.2 (fun _ => k H locs ls hH hS hL.mb) (fun g => absurd hc g)
      · have hf : aC0 .ge x = false := decide_eq_false hc
        rw [hf] at hs
        simp only [cond_false, Option.some.injEq] at hs
        subst hs
        exact lv_if_ge hx hb hd ho.2 (fun g => absurd g hc) (fun _ => k H locs ls hH hS hL)
    · by_cases hc : x > 0
      · have hf : aC0 .gt x = true := decide_eq_true hc
        rw [hf] at hs
        simp only [cond_true, Option.some.injEq] at hs
        subst hs
        exact lv_if_gt hx hb hd ho.2 (fun _ => k H locs ls hH hS hL.mb) (fun g => absurd hc g)
      · have hf : aC0 .gt x = false := decide_eq_false hc
        rw [hf] at hs
        simp only [cond_false, Option.some.injEq] at hs
        subst hs
        exact lv_if_gt hx hb hd ho.2 (fun g => absurd g hc) (fun _ => k H locs ls hH hS hL)
    · by_cases hc : x ≤ 0
      · have hf : aC0 .le x = true := decide_eq_true hc
        rw [hf] at hs
        simp only [cond_true, Option.some.injEq] at hs
        subst hs
        exact lv_if_le hx hb hd ho.2 (fun _ => k H locs ls hH hS hL.mb) (fun g => absurd hc g)
      · have hf : aC0 .le x = false := decide_eq_false hc
        rw [hf] at hs
        simp only [cond_false, Option.some.injEq] at hs
        subst hs
        exact lv_if_le hx hb hd ho.2 (fun g => absurd g hc) (fun _ => k H locs ls hH hS hL)
  · cases hs
theorem st_if_icmp {q0 : Jvm.ClassFile.Cond} {o0 : Int} (C0 : cxP D tc B scr sa p R s m args meth c y) {n : Nat} {v : Value} {a b cc d pc u1 u2 : Nat} {L : List (Option Value)} {st : List Value} {r : aRes} (ho : opOK y pc (.if_icmp q0 o0, n, v, a, b, cc, d) = true) (hd : decode (bc y) pc = .ok (.if_icmp q0 o0, n)) (hs : aStep y (.if_icmp q0 o0, n, v, a, b, cc, d) (u1, u2) (pc, L, st) h = some r) (hH : hRel D tc B b0 scr h H) (hS : va_S (Aq B) s.heap H locs) (hL : lRel B b0 ls (mL y) L) (k : wNext D tc B b0 scr p l e R s m args below meth c Q y r) : W p l e R s m args below meth c H locs u1 u2 Q (F0 m pc ls (st.map (trV B b0))) := by
  obtain ⟨hx, hb, hml, hown, hts, hlk, hret, hini, -, -, hE, -⟩ := id C0
  simp only [opOK, Bool.and_eq_true, decide_eq_true_eq] at ho
  have hn := beq1 ho.1
  subst hn
  simp only [aStep] at hs
  split at hs
  · rename_i z x t
    cases q0
    · by_cases hc : x = z
      · have hf : aC2 .eq x z = true := decide_eq_true hc
        rw [hf] at hs
        simp only [cond_true, Option.some.injEq] at hs
        subst hs
        exact lv_icmp_eq hx hb hd ho.2 (fun _ => k H locs ls hH hS hL.mb) (fun g => absurd hc g)
      · have hf : aC2 .eq x z = false := decide_eq_false hc
        rw [hf] at hs
        simp only [cond_false, Option.some.injEq] at hs
        subst hs
        exact lv_icmp_eq hx hb hd ho.2 (fun g => absurd g hc) (fun _ => k H locs ls hH hS hL)
    · by_cases hc : ¬ x = z
      · have hf : aC2 .ne x z = true := decide_eq_true hc
        rw [hf] at hs
        simp only [cond_true, Option.some.injEq] at hs
        subst hs
        exact lv_icmp_ne hx hb hd ho.2 (fun _ => k H locs ls hH hS hL.mb) (fun g => absurd g hc)
      · have hf : aC2 .ne x z = false := decide_eq_false hc
        rw [hf] at hs
        simp only [cond_false, Option.some.injEq] at hs
        subst hs
        exact lv_icmp_ne hx hb hd ho.2 (fun g => absurd g hc) (fun _ => k H locs ls hH hS hL)
    · by_cases hc : x < z
      · have hf : aC2 .lt x z = true := decide_eq_true hc
        rw [hf] at hs
        simp only [cond_true, Option.some.injEq] at hs
        subst hs
        exact lv_icmp_lt hx hb hd ho.2 (fun _ => k H locs ls hH hS hL.mb) (fun g => absurd hc g)
      · have hf : aC2 .lt x z = false := decide_eq_false hc
        rw [hf] at hs
        simp only [cond_false, Option.some.injEq] at hs
        subst hs
        exact lv_icmp_lt hx hb hd ho.2 (fun g => absurd g hc) (fun _ => k H locs ls hH hS hL)
    · by_cases hc : x ≥ z
      · have hf : aC2 .ge x z = true := decide_eq_true hc
        rw [hf] at hs
        simp only [cond_true, Option.some.injEq] at hs
        subst hs
        exact lv_icmp_ge hx hb hd ho.2 (fun _ => k H locs ls hH hS hL.mb) (fun g => absurd hc g)
      · have hf : aC2 .ge x z = false := decide_eq_false hc
        rw [hf] at hs
        simp only [cond_false, Option.some.injEq] at hs
        subst hs
        exact lv_icmp_ge hx hb hd ho.2 (fun g => absurd g hc) (fun _ => k H locs ls hH hS hL)
    · by_cases hc : x > z
      · have hf : aC2 .gt x z = true := decide_eq_true hc
        rw [hf] at hs
        simp only [cond_true, Option.some.injEq] at hs
        subst hs
        exact lv_icmp_gt hx hb hd ho.2 (fun _ => k H locs ls hH hS hL.mb) (fun g => absurd hc g)
      · have hf : aC2 .gt x z = false := decide_eq_false hc
        rw [hf] at hs
        simp only [cond_false, Option.some.injEq] at hs
        subst hs
        exact lv_icmp_gt hx hb hd ho.2 (fun g => absurd g hc) (fun _ => k H locs ls hH hS hL)
    · by_cases hc : x ≤ z
      · have hf : aC2 .le x z = true := decide_eq_true hc
        rw [hf] at hs
        simp only [cond_true, Option.some.injEq] at hs
        subst hs
        exact lv_icmp_le hx hb hd ho.2 (fun _ => k H locs ls hH hS hL.mb) (fun g => absurd hc g)
      · have hf : aC2 .le x z = false := decide_eq_false hc
        rw [hf] at hs
        simp only [cond_false, Option.some.injEq] at hs
        subst hs
        exact lv_icmp_le hx hb hd ho.2 (fun g => absurd g hc) (fun _ => k H locs ls hH hS hL)
  · cases hs
theorem st_tsw {dl lo0 hi0 : Int} {os : Array Int} (C0 : cxP D tc B scr sa p R s m args meth c y) {n : Nat} {v : Value} {a b cc d pc u1 u2 : Nat} {L : List (Option Value)} {st : List Value} {r : aRes} (ho : opOK y pc (.tableswitch dl lo0 hi0 os, n, v, a, b, cc, d) = true) (hd : decode (bc y) pc = .ok (.tableswitch dl lo0 hi0 os, n)) (hs : aStep y (.tableswitch dl lo0 hi0 os, n, v, a, b, cc, d) (u1, u2) (pc, L, st) h = some r) (hH : hRel D tc B b0 scr h H) (hS : va_S (Aq B) s.heap H locs) (hL : lRel B b0 ls (mL y) L) (k : wNext D tc B b0 scr p l e R s m args below meth c Q y r) : W p l e R s m args below meth c H locs u1 u2 Q (F0 m pc ls (st.map (trV B b0))) := by
  obtain ⟨hx, hb, hml, hown, hts, hlk, hret, hini, -, -, hE, -⟩ := id C0
  simp only [opOK, Bool.and_eq_true, decide_eq_true_eq] at ho
  obtain ⟨h1, rfl, h3, h4⟩ := ho
  simp only [aStep] at hs
  split at hs
  · rename_i x t
    cases hq : aIn x (tsw y).length with
    | false =>
      rw [hq] at hs
      simp only [cond_false, Option.some.injEq] at hs
      subst hs
      refine lv_tableOut hx hb hd ?_ h1 (k H locs ls hH hS hL)
      unfold aIn at hq
      by_cases hx0 : x < 0
      · exact Or.inl (by rw [Int32.lt_iff_toInt_lt] at hx0; exact hx0)
      · rw [decide_eq_false hx0] at hq
        have h5 : Nat.blt x.toNatClampNeg (tsw y).length = false := hq
        have h6 : ¬ x.toNatClampNeg < (tsw y).length := fun g => by
          have := Nat.ble_eq_true_of_le g
          rw [show Nat.blt x.toNatClampNeg (tsw y).length = Nat.ble (x.toNatClampNeg + 1) (tsw y).length from rfl] at h5
          rw [this] at h5
          cases h5
        have h7 : 0 ≤ x.toInt := by
          rcases Int.lt_or_le x.toInt 0 with g | g
          · exact absurd (by rw [Int32.lt_iff_toInt_lt]; exact g) hx0
          · exact g
        have h8 : (x.toNatClampNeg : Int) = x.toInt := by
          show (x.toInt.toNat : Int) = x.toInt
          omega
        exact Or.inr (by omega)
    | true =>
      rw [hq] at hs
      obtain ⟨g1, g2⟩ := aIn_spec hq
      simp only [cond_true] at hs
      split at hs
      · rename_i t0 e1
        simp only [Option.some.injEq] at hs
        subst hs
        have h7 : 0 ≤ x.toInt := by
          rcases Int.lt_or_le x.toInt 0 with g | g
          · exact absurd (Or.inl (by rw [Int32.lt_iff_toInt_lt]; exact g)) g1
          · exact g
        have h8 : (x.toNatClampNeg : Int) = x.toInt := by
          show (x.toInt.toNat : Int) = x.toInt
          omega
        have h9 : (os.toList.map (fun o => (pc : Int) + o))[x.toNatClampNeg]? = some (t0 : Int) := by
          rw [h4, List.getElem?_map, e1]
          rfl
        rw [List.getElem?_map] at h9
        cases h10 : os.toList[x.toNatClampNeg]? with
        | none => rw [h10] at h9; cases h9
        | some off =>
          rw [h10] at h9
          have h11 : (pc : Int) + off = (t0 : Int) := Option.some.inj h9
          refine lv_tableIn hx hb hd (off := off) (by omega) (by omega) ?_ h11 (k H locs ls hH hS hL)
          rw [← Array.getElem?_toList, show (x.toInt - 0).toNat = x.toNatClampNeg by show _ = x.toInt.toNat; omega]
          exact h10
      · cases hs
  · cases hs
theorem st_getfield {i0 : Nat} (C0 : cxP D tc B scr sa p R s m args meth c y) {n : Nat} {v : Value} {a b cc d pc u1 u2 : Nat} {L : List (Option Value)} {st : List Value} {r : aRes} (ho : opOK y pc (.getfield i0, n, v, a, b, cc, d) = true) (hd : decode (bc y) pc = .ok (.getfield i0, n)) (hs : aStep y (.getfield i0, n, v, a, b, cc, d) (u1, u2) (pc, L, st) h = some r) (hH : hRel D tc B b0 scr h H) (hS : va_S (Aq B) s.heap H locs) (hL : lRel B b0 ls (mL y) L) (k : wNext D tc B b0 scr p l e R s m args below meth c Q y r) : W p l e R s m args below meth c H locs u1 u2 Q (F0 m pc ls (st.map (trV B b0))) := by
  obtain ⟨hx, hb, hml, hown, hts, hlk, hret, hini, -, -, hE, -⟩ := id C0
  simp only [opOK, Bool.and_eq_true] at ho
  have hn := beq1 ho.1
  subst hn
  obtain ⟨ha, hbf, hw, hcf⟩ := fOKw_spec ho.2
  simp only [aStep] at hs
  split at hs
  · rename_i q t
    cases hq : aK h q (100 + a) with
    | false => rw [hq] at hs; cases hs
    | true =>
      rw [hq] at hs
      simp only [cond_true, aNx, Option.some.injEq] at hs
      subst hs
      obtain ⟨q1, q2⟩ := aK_spec hq
      have hv : trV B b0 (svl h q b) = trV B b0 (cond (Nat.beq cc 1) (va_rf ((h.2.1 q).2.2 b)) (.int (h.2.2.1 q b))) := by
        unfold svl rsl
        rw [q2, hcf, show Nat.blt (100 + a) 8 = false from by cases z9 : Nat.blt (100 + a) 8 with | false => rfl | true => exact absurd (Nat.le_of_ble_eq_true z9) (by omega), show Nat.ble 100 (100 + a) = true from Nat.ble_eq_true_of_le (by omega), show 100 + a - 100 = a by omega, show Nat.beq (100 + a) 2 = false from by cases z9 : Nat.beq (100 + a) 2 with | false => rfl | true => exact absurd (beq1 z9) (by omega), show Nat.beq (100 + a) 3 = false from by cases z9 : Nat.beq (100 + a) 3 with | false => rfl | true => exact absurd (beq1 z9) (by omega)]
        rfl
      refine va_get (ws := [(adr B b0 q, .inr (a, flst B b0 h q (nf a)))]) hx hb hts (fw_in ha) hown hE.1 (objP hH ha q1 q2) 0 rfl (cl_at a ha) b hbf (hts _ hw) (fun x9 hx9 => by rw [ow_at a ha b hbf] at hx9; exact hx9) (flst_at hbf) hd ?_
      rw [hv]
      exact k H locs ls hH hS hL
  · cases hs
theorem st_baload (C0 : cxP D tc B scr sa p R s m args meth c y) {n : Nat} {v : Value} {a b cc d pc u1 u2 : Nat} {L : List (Option Value)} {st : List Value} {r : aRes} (ho : opOK y pc (.baload, n, v, a, b, cc, d) = true) (hd : decode (bc y) pc = .ok (.baload, n)) (hs : aStep y (.baload, n, v, a, b, cc, d) (u1, u2) (pc, L, st) h = some r) (hH : hRel D tc B b0 scr h H) (hS : va_S (Aq B) s.heap H locs) (hL : lRel B b0 ls (mL y) L) (k : wNext D tc B b0 scr p l e R s m args below meth c Q y r) : W p l e R s m args below meth c H locs u1 u2 Q (F0 m pc ls (st.map (trV B b0))) := by
  obtain ⟨hx, hb, hml, hown, hts, hlk, hret, hini, -, -, hE, -⟩ := id C0
  have hn : n = 1 := beq1 ho
  subst hn
  simp only [aStep] at hs
  split at hs
  · rename_i x q t
    cases hq : (aK h q 1 && aIn x (h.2.1 q).2.1) with
    | false => rw [hq] at hs; cases hs
    | true =>
      rw [hq] at hs
      rw [Bool.and_eq_true] at hq
      simp only [cond_true, aNx, Option.some.injEq] at hs
      subst hs
      obtain ⟨q1, q2⟩ := aK_spec hq.1
      obtain ⟨g1, g2⟩ := aIn_spec hq.2
      have hv : trV B b0 (svl h q x.toNatClampNeg) = .int (h.2.2.1 q x.toNatClampNeg) := by
        unfold svl rsl
        rw [q2]
        rfl
      refine W.zald (v := .int (h.2.2.1 q x.toNatClampNeg)) hx hb (acell hH q2 (by omega) q1) ((hE.2.1 1 (by omega)).1 _ _) (fun z => by cases z) (by rw [arrV_size]; exact g1) (by rw [arrV_read _ _ g2, hv]) rfl rfl hd ?_
      exact k H locs ls hH hS hL
  · cases hs
theorem st_laload (C0 : cxP D tc B scr sa p R s m args meth c y) {n : Nat} {v : Value} {a b cc d pc u1 u2 : Nat} {L : List (Option Value)} {st : List Value} {r : aRes} (ho : opOK y pc (.laload, n, v, a, b, cc, d) = true) (hd : decode (bc y) pc = .ok (.laload, n)) (hs : aStep y (.laload, n, v, a, b, cc, d) (u1, u2) (pc, L, st) h = some r) (hH : hRel D tc B b0 scr h H) (hS : va_S (Aq B) s.heap H locs) (hL : lRel B b0 ls (mL y) L) (k : wNext D tc B b0 scr p l e R s m args below meth c Q y r) : W p l e R s m args below meth c H locs u1 u2 Q (F0 m pc ls (st.map (trV B b0))) := by
  obtain ⟨hx, hb, hml, hown, hts, hlk, hret, hini, -, -, hE, -⟩ := id C0
  have hn : n = 1 := beq1 ho
  subst hn
  simp only [aStep] at hs
  split at hs
  · rename_i x q t
    cases hq : (aK h q 2 && aIn x (h.2.1 q).2.1) with
    | false => rw [hq] at hs; cases hs
    | true =>
      rw [hq] at hs
      rw [Bool.and_eq_true] at hq
      simp only [cond_true, aNx, Option.some.injEq] at hs
      subst hs
      obtain ⟨q1, q2⟩ := aK_spec hq.1
      obtain ⟨g1, g2⟩ := aIn_spec hq.2
      have hv : trV B b0 (svl h q x.toNatClampNeg) = .long (h.2.2.2.1 q x.toNatClampNeg) := by
        unfold svl rsl
        rw [q2]
        rfl
      refine W.lald (v := .long (h.2.2.2.1 q x.toNatClampNeg)) hx hb (acell hH q2 (by omega) q1) ((hE.2.1 2 (by omega)).1 _ _) (fun z => by cases z) (by rw [arrV_size]; exact g1) (by rw [arrV_read _ _ g2, hv]) rfl rfl hd ?_
      exact k H locs ls hH hS hL
  · cases hs
theorem st_daload (C0 : cxP D tc B scr sa p R s m args meth c y) {n : Nat} {v : Value} {a b cc d pc u1 u2 : Nat} {L : List (Option Value)} {st : List Value} {r : aRes} (ho : opOK y pc (.daload, n, v, a, b, cc, d) = true) (hd : decode (bc y) pc = .ok (.daload, n)) (hs : aStep y (.daload, n, v, a, b, cc, d) (u1, u2) (pc, L, st) h = some r) (hH : hRel D tc B b0 scr h H) (hS : va_S (Aq B) s.heap H locs) (hL : lRel B b0 ls (mL y) L) (k : wNext D tc B b0 scr p l e R s m args below meth c Q y r) : W p l e R s m args below meth c H locs u1 u2 Q (F0 m pc ls (st.map (trV B b0))) := by
  obtain ⟨hx, hb, hml, hown, hts, hlk, hret, hini, -, -, hE, -⟩ := id C0
  have hn : n = 1 := beq1 ho
  subst hn
  simp only [aStep] at hs
  split at hs
  · rename_i x q t
    cases hq : (aK h q 3 && aIn x (h.2.1 q).2.1) with
    | false => rw [hq] at hs; cases hs
    | true =>
      rw [hq] at hs
      rw [Bool.and_eq_true] at hq
      simp only [cond_true, aNx, Option.some.injEq] at hs
      subst hs
      obtain ⟨q1, q2⟩ := aK_spec hq.1
      obtain ⟨g1, g2⟩ := aIn_spec hq.2
      have hv : trV B b0 (svl h q x.toNatClampNeg) = .double (h.2.2.2.2 q x.toNatClampNeg) := by
        unfold svl rsl
        rw [q2]
        rfl
      refine W.dald (v := .double (h.2.2.2.2 q x.toNatClampNeg)) hx hb (acell hH q2 (by omega) q1) ((hE.2.1 3 (by omega)).1 _ _) (fun z => by cases z) (by rw [arrV_size]; exact g1) (by rw [arrV_read _ _ g2, hv]) rfl rfl hd ?_
      exact k H locs ls hH hS hL
  · cases hs
theorem st_iaload (C0 : cxP D tc B scr sa p R s m args meth c y) {n : Nat} {v : Value} {a b cc d pc u1 u2 : Nat} {L : List (Option Value)} {st : List Value} {r : aRes} (ho : opOK y pc (.iaload, n, v, a, b, cc, d) = true) (hd : decode (bc y) pc = .ok (.iaload, n)) (hs : aStep y (.iaload, n, v, a, b, cc, d) (u1, u2) (pc, L, st) h = some r) (hH : hRel D tc B b0 scr h H) (hS : va_S (Aq B) s.heap H locs) (hL : lRel B b0 ls (mL y) L) (k : wNext D tc B b0 scr p l e R s m args below meth c Q y r) : W p l e R s m args below meth c H locs u1 u2 Q (F0 m pc ls (st.map (trV B b0))) := by
  obtain ⟨hx, hb, hml, hown, hts, hlk, hret, hini, -, -, hE, -⟩ := id C0
  have hn : n = 1 := beq1 ho
  subst hn
  simp only [aStep] at hs
  split at hs
  · rename_i x q t
    cases hq : ((aK h q 0 || aK h q 8) && aIn x (h.2.1 q).2.1) with
    | false => rw [hq] at hs; cases hs
    | true =>
      rw [hq] at hs
      rw [Bool.and_eq_true, Bool.or_eq_true] at hq
      simp only [cond_true, aNx, Option.some.injEq] at hs
      subst hs
      obtain ⟨g1, g2⟩ := aIn_spec hq.2
      rcases hq.1 with hk | hk
      · obtain ⟨q1, q2⟩ := aK_spec hk
        have hv : trV B b0 (svl h q x.toNatClampNeg) = .int (h.2.2.1 q x.toNatClampNeg) := by
          unfold svl rsl
          rw [q2]
          rfl
        refine W.iald (v := .int (h.2.2.1 q x.toNatClampNeg)) hx hb (acell hH q2 (by omega) q1) ((hE.2.1 0 (by omega)).1 _ _) (fun z => by cases z) (by rw [arrV_size]; exact g1) (by rw [arrV_read _ _ g2, hv]) rfl rfl hd ?_
        exact k H locs ls hH hS hL
      · obtain ⟨q1, q2⟩ := aK_spec hk
        obtain ⟨d1, d2, d3, d4⟩ := (hH.2.2.2.2.2 q q1).2.1 q2
        refine W.iald (v := .int (h.2.2.1 q x.toNatClampNeg)) hx hb d2 hE.2.2.2.2.2.2.2.2.1 hE.2.2.2.2.2.2.2.2.2.1 (by rw [d3]; exact g1) (d4 _ g2) rfl rfl hd ?_
        exact k H locs ls hH hS hL
  · cases hs
theorem st_aaload (C0 : cxP D tc B scr sa p R s m args meth c y) {n : Nat} {v : Value} {a b cc d pc u1 u2 : Nat} {L : List (Option Value)} {st : List Value} {r : aRes} (ho : opOK y pc (.aaload, n, v, a, b, cc, d) = true) (hd : decode (bc y) pc = .ok (.aaload, n)) (hs : aStep y (.aaload, n, v, a, b, cc, d) (u1, u2) (pc, L, st) h = some r) (hH : hRel D tc B b0 scr h H) (hS : va_S (Aq B) s.heap H locs) (hL : lRel B b0 ls (mL y) L) (k : wNext D tc B b0 scr p l e R s m args below meth c Q y r) : W p l e R s m args below meth c H locs u1 u2 Q (F0 m pc ls (st.map (trV B b0))) := by
  obtain ⟨hx, hb, hml, hown, hts, hlk, hret, hini, -, -, hE, -⟩ := id C0
  have hn : n = 1 := beq1 ho
  subst hn
  simp only [aStep] at hs
  split at hs
  · rename_i x q t
    cases hq : ((aK h q 4 || (aK h q 5 || (aK h q 6 || aK h q 7))) && aIn x (h.2.1 q).2.1) with
    | false => rw [hq] at hs; cases hs
    | true =>
      rw [hq] at hs
      rw [Bool.and_eq_true] at hq
      simp only [cond_true, aNx, Option.some.injEq] at hs
      subst hs
      obtain ⟨g1, g2⟩ := aIn_spec hq.2
      have hk : ∃ kd, 4 ≤ kd ∧ kd < 8 ∧ aK h q kd = true := by
        have h9 := hq.1
        simp only [Bool.or_eq_true] at h9
        rcases h9 with z | z | z | z
        · exact ⟨4, by omega, by omega, z⟩
        · exact ⟨5, by omega, by omega, z⟩
        · exact ⟨6, by omega, by omega, z⟩
        · exact ⟨7, by omega, by omega, z⟩
      obtain ⟨kd, k4, k8, hk⟩ := hk
      obtain ⟨q1, q2⟩ := aK_spec hk
      have hv : trV B b0 (svl h q x.toNatClampNeg) = trV B b0 (va_rf ((h.2.1 q).2.2 x.toNatClampNeg)) := by
        unfold svl rsl
        rw [q2, show Nat.blt kd 8 = true from Nat.ble_eq_true_of_le k8, show Nat.ble 4 kd = true from Nat.ble_eq_true_of_le k4]
        rfl
      refine W.aald (ty := aty kd) (v := trV B b0 (va_rf ((h.2.1 q).2.2 x.toNatClampNeg))) hx hb (acell hH q2 k8 q1) ((hE.2.1 kd k8).1 _ _) ?_ (fun z => by cases z) (by rw [arrV_size]; exact g1) (by rw [arrV_read _ _ g2, hv]) rfl rfl hd ?_
      · rcases (show kd = 4 ∨ kd = 5 ∨ kd = 6 ∨ kd = 7 by omega) with rfl | rfl | rfl | rfl <;> rfl
      exact k H locs ls hH hS hL
  · cases hs
theorem st_iastore (C0 : cxP D tc B scr sa p R s m args meth c y) {n : Nat} {v : Value} {a b cc d pc u1 u2 : Nat} {L : List (Option Value)} {st : List Value} {r : aRes} (ho : opOK y pc (.iastore, n, v, a, b, cc, d) = true) (hd : decode (bc y) pc = .ok (.iastore, n)) (hs : aStep y (.iastore, n, v, a, b, cc, d) (u1, u2) (pc, L, st) h = some r) (hH : hRel D tc B b0 scr h H) (hS : va_S (Aq B) s.heap H locs) (hL : lRel B b0 ls (mL y) L) (k : wNext D tc B b0 scr p l e R s m args below meth c Q y r) : W p l e R s m args below meth c H locs u1 u2 Q (F0 m pc ls (st.map (trV B b0))) := by
  obtain ⟨hx, hb, hml, hown, hts, hlk, hret, hini, -, -, hE, -⟩ := id C0
  have hn : n = 1 := beq1 ho
  subst hn
  simp only [aStep] at hs
  split at hs
  · rename_i w x q t
    cases hq : (aK h q 0 && aIn x (h.2.1 q).2.1) with
    | false => rw [hq] at hs; cases hs
    | true =>
      rw [hq] at hs
      simp only [Bool.and_eq_true] at hq
      simp only [cond_true, aNx, Option.some.injEq] at hs
      subst hs
      obtain ⟨q1, q2⟩ := aK_spec hq.1
      obtain ⟨g1, g2⟩ := aIn_spec hq.2
      refine W.iast hx hb (acell hH q2 (by omega) q1) ((hE.2.1 0 (by omega)).1 _ _) (fun z => by cases z) (by rw [arrV_size]; exact g1) rfl rfl hd (fun H1 e1 e2 e3 => ?_)
      refine k H1 _ ls (aput (w := .int w) hH q2 (by omega) q1 e1 e2 e3 rfl (fun z hz => ?_) q2 rfl (fun i => ?_)) (hS.put e2 e3 (adr_A (kind_ne0 hH (by rw [q2]; omega)))) hL
      · refine ⟨rfl, ?_, ?_, ?_⟩ <;> first | rfl | (funext j9; simp [aWI, up2, hz])
      · unfold svl rsl
        simp only [aWI]
        rw [q2]
        by_cases ei : i = x.toNatClampNeg
        · simp [up2, ei]
          rfl
        · simp [up2, ei]
  · cases hs
theorem st_lastore (C0 : cxP D tc B scr sa p R s m args meth c y) {n : Nat} {v : Value} {a b cc d pc u1 u2 : Nat} {L : List (Option Value)} {st : List Value} {r : aRes} (ho : opOK y pc (.lastore, n, v, a, b, cc, d) = true) (hd : decode (bc y) pc = .ok (.lastore, n)) (hs : aStep y (.lastore, n, v, a, b, cc, d) (u1, u2) (pc, L, st) h = some r) (hH : hRel D tc B b0 scr h H) (hS : va_S (Aq B) s.heap H locs) (hL : lRel B b0 ls (mL y) L) (k : wNext D tc B b0 scr p l e R s m args below meth c Q y r) : W p l e R s m args below meth c H locs u1 u2 Q (F0 m pc ls (st.map (trV B b0))) := by
  obtain ⟨hx, hb, hml, hown, hts, hlk, hret, hini, -, -, hE, -⟩ := id C0
  have hn : n = 1 := beq1 ho
  subst hn
  simp only [aStep] at hs
  split at hs
  · rename_i w x q t
    cases hq : (aK h q 2 && aIn x (h.2.1 q).2.1) with
    | false => rw [hq] at hs; cases hs
    | true =>
      rw [hq] at hs
      simp only [Bool.and_eq_true] at hq
      simp only [cond_true, aNx, Option.some.injEq] at hs
      subst hs
      obtain ⟨q1, q2⟩ := aK_spec hq.1
      obtain ⟨g1, g2⟩ := aIn_spec hq.2
      refine W.last hx hb (acell hH q2 (by omega) q1) ((hE.2.1 2 (by omega)).1 _ _) (fun z => by cases z) (by rw [arrV_size]; exact g1) rfl rfl hd (fun H1 e1 e2 e3 => ?_)
      refine k H1 _ ls (aput (w := .long w) hH q2 (by omega) q1 e1 e2 e3 rfl (fun z hz => ?_) q2 rfl (fun i => ?_)) (hS.put e2 e3 (adr_A (kind_ne0 hH (by rw [q2]; omega)))) hL
      · refine ⟨rfl, ?_, ?_, ?_⟩ <;> first | rfl | (funext j9; simp [aWJ, up2, hz])
      · unfold svl rsl
        simp only [aWJ]
        rw [q2]
        by_cases ei : i = x.toNatClampNeg
        · simp [up2, ei]
          rfl
        · simp [up2, ei]
  · cases hs
theorem st_dastore (C0 : cxP D tc B scr sa p R s m args meth c y) {n : Nat} {v : Value} {a b cc d pc u1 u2 : Nat} {L : List (Option Value)} {st : List Value} {r : aRes} (ho : opOK y pc (.dastore, n, v, a, b, cc, d) = true) (hd : decode (bc y) pc = .ok (.dastore, n)) (hs : aStep y (.dastore, n, v, a, b, cc, d) (u1, u2) (pc, L, st) h = some r) (hH : hRel D tc B b0 scr h H) (hS : va_S (Aq B) s.heap H locs) (hL : lRel B b0 ls (mL y) L) (k : wNext D tc B b0 scr p l e R s m args below meth c Q y r) : W p l e R s m args below meth c H locs u1 u2 Q (F0 m pc ls (st.map (trV B b0))) := by
  obtain ⟨hx, hb, hml, hown, hts, hlk, hret, hini, -, -, hE, -⟩ := id C0
  have hn : n = 1 := beq1 ho
  subst hn
  simp only [aStep] at hs
  split at hs
  · rename_i w x q t
    cases hq : (aK h q 3 && aIn x (h.2.1 q).2.1) with
    | false => rw [hq] at hs; cases hs
    | true =>
      rw [hq] at hs
      simp only [Bool.and_eq_true] at hq
      simp only [cond_true, aNx, Option.some.injEq] at hs
      subst hs
      obtain ⟨q1, q2⟩ := aK_spec hq.1
      obtain ⟨g1, g2⟩ := aIn_spec hq.2
      refine W.dast hx hb (acell hH q2 (by omega) q1) ((hE.2.1 3 (by omega)).1 _ _) (fun z => by cases z) (by rw [arrV_size]; exact g1) rfl rfl hd (fun H1 e1 e2 e3 => ?_)
      refine k H1 _ ls (aput (w := .double w) hH q2 (by omega) q1 e1 e2 e3 rfl (fun z hz => ?_) q2 rfl (fun i => ?_)) (hS.put e2 e3 (adr_A (kind_ne0 hH (by rw [q2]; omega)))) hL
      · refine ⟨rfl, ?_, ?_, ?_⟩ <;> first | rfl | (funext j9; simp [aWE, up2, hz])
      · unfold svl rsl
        simp only [aWE]
        rw [q2]
        by_cases ei : i = x.toNatClampNeg
        · simp [up2, ei]
          rfl
        · simp [up2, ei]
  · cases hs
theorem st_bastore (C0 : cxP D tc B scr sa p R s m args meth c y) {n : Nat} {v : Value} {a b cc d pc u1 u2 : Nat} {L : List (Option Value)} {st : List Value} {r : aRes} (ho : opOK y pc (.bastore, n, v, a, b, cc, d) = true) (hd : decode (bc y) pc = .ok (.bastore, n)) (hs : aStep y (.bastore, n, v, a, b, cc, d) (u1, u2) (pc, L, st) h = some r) (hH : hRel D tc B b0 scr h H) (hS : va_S (Aq B) s.heap H locs) (hL : lRel B b0 ls (mL y) L) (k : wNext D tc B b0 scr p l e R s m args below meth c Q y r) : W p l e R s m args below meth c H locs u1 u2 Q (F0 m pc ls (st.map (trV B b0))) := by
  obtain ⟨hx, hb, hml, hown, hts, hlk, hret, hini, -, -, hE, -⟩ := id C0
  have hn : n = 1 := beq1 ho
  subst hn
  simp only [aStep] at hs
  split at hs
  · rename_i w x q t
    cases hq : (aK h q 1 && (aIn x (h.2.1 q).2.1 && aBit w)) with
    | false => rw [hq] at hs; cases hs
    | true =>
      rw [hq] at hs
      simp only [Bool.and_eq_true] at hq
      simp only [cond_true, aNx, Option.some.injEq] at hs
      subst hs
      obtain ⟨q1, q2⟩ := aK_spec hq.1
      obtain ⟨g1, g2⟩ := aIn_spec hq.2.1
      refine W.zast hx hb (acell hH q2 (by omega) q1) ((hE.2.1 1 (by omega)).1 _ _) (fun z => by cases z) (by rw [arrV_size]; exact g1) rfl rfl hd (fun H1 e1 e2 e3 => ?_)
      rw [aBit_nar hq.2.2] at e1
      refine k H1 _ ls (aput (w := .int w) hH q2 (by omega) q1 e1 e2 e3 rfl (fun z hz => ?_) q2 rfl (fun i => ?_)) (hS.put e2 e3 (adr_A (kind_ne0 hH (by rw [q2]; omega)))) hL
      · refine ⟨rfl, ?_, ?_, ?_⟩ <;> first | rfl | (funext j9; simp [aWI, up2, hz])
      · unfold svl rsl
        simp only [aWI]
        rw [q2]
        by_cases ei : i = x.toNatClampNeg
        · simp [up2, ei]
          rfl
        · simp [up2, ei]
  · cases hs
theorem st_arraylength (C0 : cxP D tc B scr sa p R s m args meth c y) {n : Nat} {v : Value} {a b cc d pc u1 u2 : Nat} {L : List (Option Value)} {st : List Value} {r : aRes} (ho : opOK y pc (.arraylength, n, v, a, b, cc, d) = true) (hd : decode (bc y) pc = .ok (.arraylength, n)) (hs : aStep y (.arraylength, n, v, a, b, cc, d) (u1, u2) (pc, L, st) h = some r) (hH : hRel D tc B b0 scr h H) (hS : va_S (Aq B) s.heap H locs) (hL : lRel B b0 ls (mL y) L) (k : wNext D tc B b0 scr p l e R s m args below meth c Q y r) : W p l e R s m args below meth c H locs u1 u2 Q (F0 m pc ls (st.map (trV B b0))) := by
  obtain ⟨hx, hb, hml, hown, hts, hlk, hret, hini, -, -, hE, -⟩ := id C0
  have hn : n = 1 := beq1 ho
  subst hn
  simp only [aStep] at hs
  split at hs
  · rename_i q t
    cases hq : (Nat.blt q h.1.2 && Nat.ble (h.2.1 q).1 8) with
    | false => rw [hq] at hs; cases hs
    | true =>
      rw [hq] at hs
      rw [Bool.and_eq_true] at hq
      simp only [cond_true, aNx, Option.some.injEq] at hs
      subst hs
      have q1 : q < h.1.2 := Nat.le_of_ble_eq_true hq.1
      have q2 : (h.2.1 q).1 ≤ 8 := Nat.le_of_ble_eq_true hq.2
      rcases Nat.lt_or_ge (h.2.1 q).1 8 with k8 | k8
      · refine W.alen (n := Int32.ofNat (h.2.1 q).2.1) hx hb (acell hH rfl k8 q1) ((hE.2.1 _ k8).1 _ _) (by rw [arrV_size]) rfl rfl hd ?_
        exact k H locs ls hH hS hL
      · obtain ⟨d1, d2, d3, d4⟩ := (hH.2.2.2.2.2 q q1).2.1 (by omega)
        refine W.alen (n := Int32.ofNat (h.2.1 q).2.1) hx hb d2 hE.2.2.2.2.2.2.2.2.1 (by rw [d3]) rfl rfl hd ?_
        exact k H locs ls hH hS hL
  · cases hs
theorem st_putfield {i0 : Nat} (C0 : cxP D tc B scr sa p R s m args meth c y) {n : Nat} {v : Value} {a b cc d pc u1 u2 : Nat} {L : List (Option Value)} {st : List Value} {r : aRes} (ho : opOK y pc (.putfield i0, n, v, a, b, cc, d) = true) (hd : decode (bc y) pc = .ok (.putfield i0, n)) (hs : aStep y (.putfield i0, n, v, a, b, cc, d) (u1, u2) (pc, L, st) h = some r) (hH : hRel D tc B b0 scr h H) (hS : va_S (Aq B) s.heap H locs) (hL : lRel B b0 ls (mL y) L) (k : wNext D tc B b0 scr p l e R s m args below meth c Q y r) : W p l e R s m args below meth c H locs u1 u2 Q (F0 m pc ls (st.map (trV B b0))) := by
  obtain ⟨hx, hb, hml, hown, hts, hlk, hret, hini, -, -, hE, -⟩ := id C0
  simp only [opOK, Bool.and_eq_true] at ho
  have hn := beq1 ho.1
  subst hn
  obtain ⟨ha, hbf, hw, hcf⟩ := fOKw_spec ho.2
  simp only [aStep] at hs
  split at hs
  · rename_i x q t
    cases hq : (aK h q (100 + a) && (fOK y a b && (Nat.beq cc 0 || (Nat.beq cc 2 && aBit x)))) with
    | false => rw [hq] at hs; cases hs
    | true =>
      rw [hq] at hs
      simp only [Bool.and_eq_true, Bool.or_eq_true] at hq
      simp only [cond_true, aNx, Option.some.injEq] at hs
      subst hs
      obtain ⟨q1, q2⟩ := aK_spec hq.1
      have hty : ∃ ty, dTy a b = some ty ∧ narrow ty (trV B b0 (.int x)) = trV B b0 (.int x) ∧ fits ty (trV B b0 (.int x)) = true := by
        rcases hq.2.2 with g | ⟨g, g2⟩
        · exact ⟨.int, (dk_at a ha b hbf).1 (by rw [← hcf]; exact beq1 g), rfl, rfl⟩
        · exact ⟨.boolean, (dk_at a ha b hbf).2 (by rw [← hcf]; exact beq1 g), aBit_nar g2, aBit_fit g2⟩
      obtain ⟨ty, t1, t2, t3⟩ := hty
      have hc1 : Nat.beq (fk a b) 1 = false := by
        rw [← hcf]
        rcases hq.2.2 with g | ⟨g, -⟩
        · rw [beq1 g]; rfl
        · rw [beq1 g]; rfl
      refine fput (h' := aWI h q b x) (v := .int x) C0 ha hbf hw hq.2.1 hH q1 q2 hS t1 t2 t3 rfl (fun z hz => ⟨rfl, by funext j9; simp [aWI, up2, hz], rfl, rfl⟩) q2 (fun i => ?_) hd (fun H1 locs1 hH1 hS1 => k H1 locs1 ls hH1 hS1 hL)
      unfold svl rsl
      simp only [aWI]
      rw [q2, show Nat.blt (100 + a) 8 = false from by cases z9 : Nat.blt (100 + a) 8 with | false => rfl | true => exact absurd (Nat.le_of_ble_eq_true z9) (by omega), show Nat.ble 100 (100 + a) = true from Nat.ble_eq_true_of_le (by omega), show 100 + a - 100 = a by omega, show Nat.beq (100 + a) 2 = false from by cases z9 : Nat.beq (100 + a) 2 with | false => rfl | true => exact absurd (beq1 z9) (by omega), show Nat.beq (100 + a) 3 = false from by cases z9 : Nat.beq (100 + a) 3 with | false => rfl | true => exact absurd (beq1 z9) (by omega)]
      by_cases ei : i = b
      · subst ei
        rw [hc1, if_pos rfl]
        simp [up2]
      · rw [if_neg ei]
        simp [up2, ei]
  · rename_i x q t
    cases hq : (aK h q (100 + a) && (fOK y a b && (Nat.beq cc 1 && (Nat.beq h.1.1 0 && Nat.blt x h.1.2)))) with
    | false => rw [hq] at hs; cases hs
    | true =>
      rw [hq] at hs
      simp only [Bool.and_eq_true] at hq
      simp only [cond_true, aNx, Option.some.injEq] at hs
      subst hs
      obtain ⟨q1, q2⟩ := aK_spec hq.1
      have hf1 : fk a b = 1 := by rw [← hcf]; exact beq1 hq.2.2.1
      have hty : ∃ ty, dTy a b = some ty ∧ narrow ty (trV B b0 (.ref x)) = trV B b0 (.ref x) ∧ fits ty (trV B b0 (.ref x)) = true := by
        have g := dr_at a ha b hbf hf1
        cases h9 : dTy a b with
        | none => rw [h9] at g; cases g
        | some t =>
          rw [h9] at g
          cases t <;> first | exact ⟨_, rfl, rfl, rfl⟩ | cases g
      obtain ⟨ty, t1, t2, t3⟩ := hty
      refine fput (h' := aShR h q b (some x)) (v := .ref x) C0 ha hbf hw hq.2.1 hH q1 q2 hS t1 t2 t3 rfl (fun z hz => ⟨by simp [aShR, up1, hz], rfl, rfl, rfl⟩) (by simp [aShR, up1]; exact q2) (fun i => ?_) hd (fun H1 locs1 hH1 hS1 => k H1 locs1 ls hH1 hS1 hL)
      have e9 : (aShR h q b (some x)).2.1 q = ((h.2.1 q).1, (h.2.1 q).2.1, up1 (h.2.1 q).2.2 b (some x)) := by simp [aShR, up1]
      unfold svl
      rw [e9]
      dsimp only
      by_cases ei : i = b
      · subst ei
        have e8 : rsl (h.2.1 q).1 i = true := by
          unfold rsl
          rw [q2, show Nat.blt (100 + a) 8 = false from by cases z9 : Nat.blt (100 + a) 8 with | false => rfl | true => exact absurd (Nat.le_of_ble_eq_true z9) (by omega), show Nat.ble 100 (100 + a) = true from Nat.ble_eq_true_of_le (by omega), show 100 + a - 100 = a by omega, hf1]
          rfl
        rw [e8, if_pos rfl]
        simp [up1, va_rf]
      · rw [if_neg ei]
        simp [up1, ei, aShR]
  · cases hs
end STP
