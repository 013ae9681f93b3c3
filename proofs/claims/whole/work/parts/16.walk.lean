/-! Handlers, endings, and the walk by the machine's fuel -/
def zx (j : Nat) : Nat := cond (Nat.beq j 0) 507 (cond (Nat.beq j 1) 508 424)
def tOK (y : Nat) : Bool := match hh y with
  | none => true
  | some T => Nat.beq (ow y) 11 && T.all (fun q => match xk q.2.2.2 with
    | none => false
    | some j => Nat.blt j 3 && (!(Nat.beq q.2.2.2 0) && wOK (zx j) (.classLink RL q.2.2.2 (xn j))))
theorem tOK_all : (List.range 217).all tOK = true := by decide +kernel
theorem hh_lt {y : Nat} {T : List (Nat × Nat × Nat × Nat)} (h : hh y = some T) (hy : y < 217) : ∀ q ∈ T, ∃ j, j < 3 ∧ xk q.2.2.2 = some j ∧ q.2.2.2 ≠ 0 ∧ Cond.classLink (cn (ow y)) q.2.2.2 (xn j) ∈ BIG := by
  intro q hq
  have h9 := List.all_eq_true.mp tOK_all y (List.mem_range.mpr hy)
  unfold tOK at h9
  rw [h] at h9
  simp only [Bool.and_eq_true] at h9
  have h8 := List.all_eq_true.mp h9.2 q hq
  have how : ow y = 11 := beq1 h9.1
  cases hx : xk q.2.2.2 with
  | none => rw [hx] at h8; cases h8
  | some j =>
    rw [hx] at h8
    simp only [Bool.and_eq_true, Bool.not_eq_true'] at h8
    refine ⟨j, Nat.le_of_ble_eq_true h8.1, rfl, fun e => ?_, ?_⟩
    · rw [e] at h8; exact absurd h8.2.1 (by decide)
    · rw [how]; exact wOK_spec h8.2.2
theorem hndL_none : ∀ {pc k : Nat} {T : List (Nat × Nat × Nat × Nat)}, hndL pc k T = none → ∀ q ∈ T, ¬ (q.1 ≤ pc ∧ pc < q.2.1 ∧ xk q.2.2.2 = some k)
  | _, _, [], _, q, hq => absurd hq List.not_mem_nil
  | pc, k, q0 :: T, h, q, hq => by
    unfold hndL at h
    cases hc : (Nat.ble q0.1 pc && (Nat.blt pc q0.2.1 && decide (xk q0.2.2.2 = some k))) with
    | true => rw [hc] at h; cases h
    | false =>
      rw [hc, cond_false] at h
      rcases List.mem_cons.mp hq with rfl | hq
      · intro ⟨a, b, d⟩
        rw [Nat.ble_eq_true_of_le a, show Nat.blt pc q.2.1 = true from Nat.ble_eq_true_of_le b, d] at hc
        simp at hc
      · exact hndL_none h q hq
theorem hndL_some : ∀ {pc k t : Nat} {T : List (Nat × Nat × Nat × Nat)}, hndL pc k T = some t → ∃ (pre : List (Nat × Nat × Nat × Nat)) (q : Nat × Nat × Nat × Nat) (suf : List (Nat × Nat × Nat × Nat)), T = pre ++ q :: suf ∧ (q.1 ≤ pc ∧ pc < q.2.1 ∧ xk q.2.2.2 = some k) ∧ q.2.2.1 = t ∧ ∀ z ∈ pre, ¬ (z.1 ≤ pc ∧ pc < z.2.1 ∧ xk z.2.2.2 = some k)
  | _, _, _, [], h => by simp [hndL] at h
  | pc, k, t, q0 :: T, h => by
    unfold hndL at h
    cases hc : (Nat.ble q0.1 pc && (Nat.blt pc q0.2.1 && decide (xk q0.2.2.2 = some k))) with
    | true =>
      rw [hc, cond_true] at h
      simp only [Bool.and_eq_true, decide_eq_true_eq] at hc
      exact ⟨[], q0, T, rfl, ⟨Nat.le_of_ble_eq_true hc.1, Nat.le_of_ble_eq_true hc.2.1, hc.2.2⟩, Option.some.inj h, fun z hz => absurd hz List.not_mem_nil⟩
    | false =>
      rw [hc, cond_false] at h
      obtain ⟨pre, q, suf, rfl, h1, h2, h3⟩ := hndL_some h
      refine ⟨q0 :: pre, q, suf, rfl, h1, h2, fun z hz => ?_⟩
      rcases List.mem_cons.mp hz with rfl | hz
      · intro ⟨a, b, d⟩
        rw [Nat.ble_eq_true_of_le a, show Nat.blt pc z.2.1 = true from Nat.ble_eq_true_of_le b, d] at hc
        simp at hc
      · exact h3 z hz
theorem mL_le {y : Nat} (hy : y < 217) : mL y ≤ 20 := by
  have h9 : (List.range 217).all (fun y => Nat.ble (mL y) 20) = true := by decide +kernel
  exact Nat.le_of_ble_eq_true (List.all_eq_true.mp h9 y (List.mem_range.mpr hy))
section HND
variable {D : va_G} {tc : Nat → ClassId} {B b0 : Nat} {scr : Cell} {sa : Nat → Nat} {p : Program} {l : Launch} {e : Env} {R : Room} {s : State} {m : MethodId} {args : Array Value} {below : List Frame} {meth : Method} {c : Code} {H : Heap} {locs : List Loc} {Q : State → Prop} {y : Nat} {ls : Array Slot} {h : aHp} {cells slots : Nat}
/-- an entry that doesn't take the exception -/
theorem pass_at {T : List (Nat × Nat × Nat × Nat)} {pc x : Nat} (C0 : cxP D tc B scr sa p R s m args meth c y) (hy : y < 217) (hT : hh y = some T) (hx : x < 3) {q : Nat × Nat × Nat × Nat} (hq : q ∈ T) (hn : ¬ (q.1 ≤ pc ∧ pc < q.2.1 ∧ xk q.2.2.2 = some x)) :
    covers (⟨q.1, q.2.1, q.2.2.1, q.2.2.2⟩ : ExceptionTableEntry) pc = false ∨ (q.2.2.2 ≠ 0 ∧ ∃ nm : String, (Cond.classLink (cn (ow y)) q.2.2.2 nm).before args s = true ∧ va_Nc (xn x) nm s) := by
  obtain ⟨-, -, -, -, hts, -, -, -, -, -, hE, -⟩ := C0
  obtain ⟨j, j1, j2, j3, j4⟩ := hh_lt hT hy q hq
  by_cases a : q.1 ≤ pc
  · by_cases b : pc < q.2.1
    · refine Or.inr ⟨j3, xn j, hts _ j4, hE.2.2.2.2.2.2.2.2.2.2 j x (fun e9 => hn ⟨a, b, by rw [j2, e9]⟩) j1 hx⟩
    · left
      show (decide (q.1 ≤ pc) && decide (pc < q.2.1)) = false
      rw [decide_eq_false b, Bool.and_false]
  · left
    show (decide (q.1 ≤ pc) && decide (pc < q.2.1)) = false
    rw [decide_eq_false a, Bool.false_and]
theorem hnd_sound {pc x t0 t1 a q : Nat} {L : List (Option Value)} {rest : List Value} {ce : Cell} (C0 : cxP D tc B scr sa p R s m args meth c y) (hy : y < 217) (hx : x < 3) (hh9 : aHnd y pc x = some (t0, t1, a)) (ha : a < mL y) (hcell : H[q]? = some ce) (hv : ce.vm = .none) (hcl : s.vm.findClass (xn x) = some ce.cls) (hL : lRel B b0 ls (mL y) L)
    (k : ∀ ls1, lRel B b0 ls1 (mL y) (aClr (L.set a none) a) → W p l e R s m args below meth c H locs cells slots Q (F0 m t1 ls1 [])) : vx_W p l e R s m args below meth c H locs cells slots Q (F0 m pc ls rest) q := by
  obtain ⟨hxx, hb, hml, hown, hts, hlk, hret, hini, -, htab, hE, -⟩ := id C0
  unfold aHnd at hh9
  cases hT : hh y with
  | none => rw [hT] at hh9; cases hh9
  | some T =>
    rw [hT] at hh9
    dsimp only at hh9
    cases hn : hndL pc x T with
    | none => rw [hn] at hh9; cases hh9
    | some t =>
      rw [hn] at hh9
      dsimp only at hh9
      obtain ⟨pre, q0, suf, hspl, hq1, hq2, hq3⟩ := hndL_some hn
      have hqT : q0 ∈ T := by rw [hspl]; simp
      obtain ⟨j, j1, j2, j3, j4⟩ := hh_lt hT hy q0 hqT
      have hjx : j = x := Option.some.inj (j2.symm.trans hq1.2.2)
      subst hjx
      have hcast : (Cond.castable (xn j) (xn j)).before args s = true := by
        have hm : Cond.castable (xn j) (xn j) ∈ xWs := by
          rcases (show j = 0 ∨ j = 1 ∨ j = 2 by omega) with rfl | rfl | rfl
          · exact List.mem_of_getElem? (i := 0) rfl
          · exact List.mem_of_getElem? (i := 1) rfl
          · exact List.mem_of_getElem? (i := 2) rfl
        exact va_Nw.use rfl (hE.2.2.2.1 _ hm)
      have kk : W p l e R s m args below meth c H locs cells slots Q (F0 m t ls [.ref q]) := by
        have fin : ∀ ls1 : Array Slot, lv_has ls1 (mL y) ((a, Value.ref q) :: (lLst B b0 (mL y) L).filter (fun q => !(q.1 == a) && !(q.1 + 1 == a && q.2.category == 2))) → lRel B b0 ls1 (mL y) (aClr (L.set a none) a) := by
          intro ls1 hl1
          refine ⟨hl1.1, hl1.2.1, fun i v hi => ?_⟩
          obtain ⟨g1, g2⟩ := aClr_get hi
          rw [getD_set] at g1
          by_cases ei : i = a
          · rw [if_pos ei] at g1
            split at g1 <;> cases g1
          · rw [if_neg ei] at g1
            refine hl1.2.2 (i, trV B b0 v) (List.mem_cons_of_mem _ (List.mem_filter.mpr ⟨lLst_mem (hL.lt g1) g1, ?_⟩))
            have e1 : (i == a) = false := by simp [ei]
            have e2 : (i + 1 == a && (trV B b0 v).category == 2) = false := by
              rw [trV_cat]
              cases h3 : (i + 1 == a && v.category == 2) with
              | false => rfl
              | true =>
                simp only [Bool.and_eq_true, beq_iff_eq] at h3
                exact absurd ⟨h3.1, (cat_is2 v).mp h3.2⟩ g2
            show (!(i == a) && !(i + 1 == a && (trV B b0 v).category == 2)) = true
            rw [e1, e2]
            rfl
        cases hcd : cd y t with
        | none =>
          rw [hcd] at hh9
          simp only [Option.some.injEq, Prod.mk.injEq] at hh9
          obtain ⟨-, -, rfl⟩ := hh9
          exact absurd ha (by have := mL_le hy; omega)
        | some en =>
          obtain ⟨hd, ho⟩ := en_spec (en_ok hcd)
          obtain ⟨i, n, v, a1, b, cc, d⟩ := en
          rw [hcd] at hh9
          cases i with
          | astore i0 =>
            simp only [Option.some.injEq, Prod.mk.injEq] at hh9
            obtain ⟨-, rfl, rfl⟩ := hh9
            simp only [opOK, Bool.and_eq_true] at ho
            have hn1 := beq1 ho.1
            have ha1 := beq1 ho.2
            subst hn1
            subst ha1
            exact lv_astore hxx hb hd (hL.has (n := mL y)) ha rfl (fun ls1 hl1 => k ls1 (fin ls1 hl1))
          | astore_n i0 =>
            simp only [Option.some.injEq, Prod.mk.injEq] at hh9
            obtain ⟨-, rfl, rfl⟩ := hh9
            simp only [opOK, Bool.and_eq_true] at ho
            have hn1 := beq1 ho.1
            have ha1 := beq1 ho.2
            subst hn1
            subst ha1
            exact lv_astore_n hxx hb hd rfl (hL.has (n := mL y)) ha rfl (fun ls1 hl1 => k ls1 (fin ls1 hl1))
          | _ =>
            simp only [Option.some.injEq, Prod.mk.injEq] at hh9
            obtain ⟨-, -, rfl⟩ := hh9
            exact absurd ha (by have := mL_le hy; omega)
      have hsplit : c.exceptionTable.toList = (pre.map fun q => (⟨q.1, q.2.1, q.2.2.1, q.2.2.2⟩ : ExceptionTableEntry)) ++ (⟨q0.1, q0.2.1, q0.2.2.1, q0.2.2.2⟩ : ExceptionTableEntry) :: (suf.map fun q => (⟨q.1, q.2.1, q.2.2.1, q.2.2.2⟩ : ExceptionTableEntry)) := by
        rw [htab T hT, hspl]
        unfold tableOf
        rw [List.map_append, List.map_cons]
      refine vx_catch (E := xn j) hown _ _ _ hsplit (fun z hz => ?_) ?_ j3 (hts _ j4) hcast hcell hv hcl ?_
      · obtain ⟨q9, hq9, rfl⟩ := List.mem_map.mp hz
        exact pass_at C0 hy hT hx (by rw [hspl]; exact List.mem_append_left _ hq9) (hq3 q9 hq9)
      · show (decide (q0.1 ≤ pc) && decide (pc < q0.2.1)) = true
        rw [decide_eq_true hq1.1, decide_eq_true hq1.2.1]
        rfl
      · show W p l e R s m args below meth c H locs cells slots Q (F0 m q0.2.2.1 ls [.ref q])
        rw [hq2]
        exact kk
end HND
