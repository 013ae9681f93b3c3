/-! The steps that make cells, and Object's constructor -/
theorem zk_at : ∀ a, a < 11 → wOK (zk a) (.instantiable (cn a) (nf a)) = true ∧ wOK (zm a) (.initialized (cn a)) = true := by decide +kernel
theorem oi_at : wOK 81 (.instanceMethod objectInit) = true ∧ wOK 82 (.code objectInit ⟨#[0xb1]⟩ 1 none) = true := by decide +kernel
theorem vr_outer (c : ClassId) (N h0 : Nat) : ∀ i : Nat, Jvm.Free.Multi.outerC c N h0 i = arrV c N (fun j => va_rf (if j < i then some (h0 + 1 + j) else none))
  | 0 => by
    show ({ cls := c, slots := Array.replicate N .null, vm := .none } : Cell) = _
    rw [arrV_new]
    refine congrArg (arrV c N) (funext fun j => ?_)
    simp [va_rf]
  | i + 1 => by
    show (Jvm.Free.Multi.outerC c N h0 i).setSlot i (.ref (h0 + 1 + i)) = _
    rw [vr_outer c N h0 i, arrV_store]
    refine congrArg (arrV c N) (funext fun j => ?_)
    by_cases e : j = i
    · subst e
      simp [updV, va_rf]
    · by_cases h : j < i
      · simp [updV, e, h, Nat.lt_succ_of_lt h]
      · simp [updV, e, h, show ¬ j < i + 1 by omega]
section BOOT
variable {D : va_G} {tc : Nat → ClassId} {B b0 : Nat} {scr : Cell} {sa : Nat → Nat} {p : Program} {l : Launch} {e : Env} {R : Room} {s : State} {m : MethodId} {args : Array Value} {below : List Frame} {meth : Method} {c : Code} {H : Heap} {locs : List Loc} {Q : State → Prop} {y : Nat} {ls : Array Slot} {h : aHp}
theorem adr_new {N : Nat} (h1 : 1 ≤ N) (h2 : H.size + 1 = B + N) : adr B b0 N = H.size := by
  cases N with
  | zero => omega
  | succ k => show B + k = H.size; omega
theorem hRel.push {k n : Nat} {H' : Heap} (r : hRel D tc B b0 scr h H) (h0 : h.1.1 = 0) (hz : H'.size = H.size + 1) (hq : ∀ q, q < H.size → H'[q]? = H[q]?) (hc : cellR D tc B b0 scr (aNew h k n) H' h.1.2) : hRel D tc B b0 scr (aNew h k n) H' := by
  obtain ⟨r1, r2, r3, r4, r5, r6⟩ := r
  have r3 := r3 h0
  refine ⟨r1, ?_, fun _ => ?_, ?_, ?_, fun a ha => ?_⟩
  · show B + (h.1.2 + 1) ≤ H'.size + 1; omega
  · show H'.size + 1 = B + (h.1.2 + 1); omega
  · show 1 ≤ h.1.2 + 1; omega
  · show (up1 h.2.1 h.1.2 _ 0).1 = 8
    unfold up1
    rw [if_neg (by omega)]
    exact r5
  · have ha : a < h.1.2 + 1 := ha
    by_cases ea : a = h.1.2
    · rw [ea]; exact hc
    · have ha2 : a < h.1.2 := by omega
      refine (r6 a ha2).kept ?_ ?_ (fun j => ?_) (hq _ (adr_lt r1 ha2 r2))
      · simp [aNew, up1, ea]
      · simp [aNew, up1, ea]
      · simp [svl, aNew, up1, ea]
theorem va_S.grow {A : Nat → Prop} {H0 H' : Heap} (hS : va_S A H0 H locs) (hz : H.size ≤ H'.size) (hq : ∀ q, q < H.size → H'[q]? = H[q]?) : va_S A H0 H' locs := ⟨Nat.le_trans hS.1 hz, fun x h1 h2 => (hq x (Nat.lt_of_lt_of_le h1 hS.1)).trans (hS.2.1 x h1 h2), hS.2.2⟩
theorem st_new {i0 : Nat} (C0 : cxP D tc B scr sa p R s m args meth c y) {n : Nat} {v : Value} {a b cc d pc u1 u2 : Nat} {L : List (Option Value)} {st : List Value} {r : aRes} (ho : opOK y pc (.new i0, n, v, a, b, cc, d) = true) (hd : decode (bc y) pc = .ok (.new i0, n)) (hs : aStep y (.new i0, n, v, a, b, cc, d) (u1, u2) (pc, L, st) h = some r) (hH : hRel D tc B b0 scr h H) (hS : va_S (Aq B) s.heap H locs) (hL : lRel B b0 ls (mL y) L) (k : wNext D tc B b0 scr p l e R s m args below meth c Q y r) : W p l e R s m args below meth c H locs u1 u2 Q (F0 m pc ls (st.map (trV B b0))) := by
  obtain ⟨hx, hb, hml, hown, hts, hlk, hret, hini, -, -, hE, -, -, hRc, hRs⟩ := id C0
  simp only [opOK, Bool.and_eq_true] at ho
  have hn := beq1 ho.1
  subst hn
  simp only [aStep] at hs
  cases hq : (Nat.beq cc 0 && (Nat.beq h.1.1 0 && (Nat.ble (u1 + 1) (mcT y) && Nat.ble (u2 + b) (msT y)))) with
  | false => rw [hq] at hs; cases hs
  | true =>
    rw [hq] at hs
    simp only [Bool.and_eq_true] at hq
    simp only [cond_true, aNx, Option.some.injEq] at hs
    subst hs
    have ho2 := ho.2
    rw [hq.1, cond_true] at ho2
    simp only [Bool.and_eq_true] at ho2
    have ha : a < 11 := Nat.le_of_ble_eq_true ho2.1
    have hbn : b = nf a := beq1 ho2.2.1
    have hm0 : h.1.1 = 0 := beq1 hq.2.1
    have hw := wOK_spec ho2.2.2
    have hc1 : u1 + 1 ≤ mcT y := Nat.le_of_ble_eq_true hq.2.2.1
    have hc2 : u2 + b ≤ msT y := Nat.le_of_ble_eq_true hq.2.2.2
    subst hbn
    have hKn := hE.1.1 a _ (cl_at a ha)
    refine W.newcK (n := nf a) hx hb hown (hts _ hw) (hts _ (wOK_spec (zk_at a ha).1)) (hts _ (wOK_spec (zk_at a ha).2)) rfl hd (Nat.le_trans hc1 hRc) (Nat.le_trans hc2 hRs) hKn.2.1 rfl fun H1 kC hkC e1 z1 o1 => ?_
    have hty : ∀ k9, k9 < nf a → parseFieldDescriptor (fT a k9).2.2.1 = some ((fun x => (dTy a x).getD .int) k9) := fun x hx9 => by
      have h9 := dt_at a ha x hx9
      show dTy a x = _
      cases h8 : dTy a x with
      | none => rw [h8] at h9; cases h9
      | some t => simp [h8]
    have hob := u_born (fun x => (dTy a x).getD .int) hts (fw_in ha) hKn hkC e1 hty
    have had : adr B b0 h.1.2 = H.size := adr_new hH.2.2.2.1 (hH.2.2.1 hm0)
    have hcell : cellR D tc B b0 scr (aNew h (100 + a) (nf a)) H1 h.1.2 := by
      have e9 : (aNew h (100 + a) (nf a)).2.1 h.1.2 = (100 + a, nf a, fun _ => none) := by simp [aNew, up1]
      refine ⟨fun k9 => ?_, fun k9 => ?_, fun k9 => ?_⟩
      · rw [e9] at k9; exact absurd k9 (by show ¬ 100 + a < 8; omega)
      · rw [e9] at k9; exact absurd k9 (by show ¬ 100 + a = 8; omega)
      · rw [e9]
        show ∃ r : vw_C, vwCl[100 + a - 100]? = some r ∧ t_OB (adr B b0 h.1.2) (D.1 (100 + a - 100)) r.2.2 (D.2 (100 + a - 100)) H1 (fun j => trV B b0 (svl (aNew h (100 + a) (nf a)) h.1.2 j))
        rw [show 100 + a - 100 = a by omega]
        refine ⟨_, cl_at a ha, ?_⟩
        rw [had]
        refine hob.to (fun j hj => ?_)
        have e8 : (aNew h (100 + a) (nf a)).2.2.1 h.1.2 j = 0 := by simp [aNew, up1]
        unfold svl rsl
        rw [e9, e8]
        show defaultValue ((dTy a j).getD .int) = trV B b0 (cond (cond (Nat.blt (100 + a) 8) (Nat.ble 4 (100 + a)) (cond (Nat.ble 100 (100 + a)) (Nat.beq (fk (100 + a - 100) j) 1) false)) .null _)
        rw [show Nat.blt (100 + a) 8 = false from by cases z9 : Nat.blt (100 + a) 8 with | false => rfl | true => exact absurd (Nat.le_of_ble_eq_true z9) (by omega), show Nat.ble 100 (100 + a) = true from Nat.ble_eq_true_of_le (by omega), show 100 + a - 100 = a by omega, show Nat.beq (100 + a) 2 = false from by cases z9 : Nat.beq (100 + a) 2 with | false => rfl | true => exact absurd (beq1 z9) (by omega), show Nat.beq (100 + a) 3 = false from by cases z9 : Nat.beq (100 + a) 3 with | false => rfl | true => exact absurd (beq1 z9) (by omega)]
        simp only [cond_false, cond_true]
        have f3 : fk a j = 0 ∨ fk a j = 1 ∨ fk a j = 2 := fk3_at a ha j hj
        rcases f3 with f | f | f
        · rw [(dk_at a ha j hj).1 f, f]; rfl
        · have g := dr_at a ha j hj f
          rw [f]
          cases h8 : dTy a j with
          | none => rw [h8] at g; cases g
          | some t =>
            rw [h8] at g
            cases t <;> first | rfl | cases g
        · rw [(dk_at a ha j hj).2 f, f]; rfl
    have hH1 := hH.push hm0 z1 o1 hcell
    have hk := k H1 locs ls hH1 (hS.grow (by omega) o1) hL
    have hk : W p l e R s m args below meth c H1 locs (u1 + 1) (u2 + nf a) Q (F0 m (pc + 3) ls (.ref (adr B b0 h.1.2) :: st.map (trV B b0))) := hk
    rw [had] at hk
    exact hk
theorem st_newarray {i0 : ArrayType} (C0 : cxP D tc B scr sa p R s m args meth c y) {n : Nat} {v : Value} {a b cc d pc u1 u2 : Nat} {L : List (Option Value)} {st : List Value} {r : aRes} (ho : opOK y pc (.newarray i0, n, v, a, b, cc, d) = true) (hd : decode (bc y) pc = .ok (.newarray i0, n)) (hs : aStep y (.newarray i0, n, v, a, b, cc, d) (u1, u2) (pc, L, st) h = some r) (hH : hRel D tc B b0 scr h H) (hS : va_S (Aq B) s.heap H locs) (hL : lRel B b0 ls (mL y) L) (k : wNext D tc B b0 scr p l e R s m args below meth c Q y r) : W p l e R s m args below meth c H locs u1 u2 Q (F0 m pc ls (st.map (trV B b0))) := by
  obtain ⟨hx, hb, hml, hown, hts, hlk, hret, hini, -, -, hE, -, -, hRc, hRs⟩ := id C0
  simp only [opOK, Bool.and_eq_true, decide_eq_true_eq] at ho
  obtain ⟨hn, ha, hat, hwd⟩ := ho
  have hn := beq1 hn
  subst hn
  subst hat
  have ha : a < 4 := Nat.le_of_ble_eq_true ha
  simp only [aStep] at hs
  split at hs
  · rename_i x t
    cases hq : (Nat.beq h.1.1 0 && (!(decide (x < 0)) && (Nat.ble x.toNatClampNeg 100000 && (Nat.ble (u1 + 1) (mcT y) && Nat.ble (u2 + x.toNatClampNeg) (msT y))))) with
    | false => rw [hq] at hs; cases hs
    | true =>
      rw [hq] at hs
      simp only [Bool.and_eq_true, Bool.not_eq_true', decide_eq_false_iff_not] at hq
      simp only [cond_true, aNx, Option.some.injEq] at hs
      subst hs
      have hm0 : h.1.1 = 0 := beq1 hq.1
      have hc1 : u1 + 1 ≤ mcT y := Nat.le_of_ble_eq_true hq.2.2.2.1
      have hc2 : u2 + x.toNatClampNeg ≤ msT y := Nat.le_of_ble_eq_true hq.2.2.2.2
      have hc3 : x.toNatClampNeg ≤ 100000 := Nat.le_of_ble_eq_true hq.2.2.1
      have htf : newarray.typeOf (atk a) = ft a ∧ ft a = aty a ∧ componentBytes (ft a) ≤ 8 := by
        rcases (show a = 0 ∨ a = 1 ∨ a = 2 ∨ a = 3 by omega) with rfl | rfl | rfl | rfl <;> exact ⟨rfl, rfl, by decide⟩
      have had : adr B b0 h.1.2 = H.size := adr_new hH.2.2.2.1 (hH.2.2.1 hm0)
      refine va_newaK (N := x.toNatClampNeg) hx hb (by rw [htf.1]; exact hts _ (wOK_spec hwd)) rfl hd rfl hq.2.1 rfl (by rw [htf.1]; exact Nat.le_trans (Nat.mul_le_mul hc3 htf.2.2) (by decide)) (Nat.le_trans hc1 hRc) (Nat.le_trans hc2 hRs) rfl fun H1 cA e1 z1 o1 hAr hNm => ?_
      have hcA : cA = tc a := by
        have h9 := (hE.2.1 a (by omega)).2
        rw [htf.1, htf.2.1] at hNm
        rcases (show a = 0 ∨ a = 1 ∨ a = 2 ∨ a = 3 by omega) with rfl | rfl | rfl | rfl <;> exact Option.some.inj (hNm.symm.trans h9)
      have hcell : cellR D tc B b0 scr (aNew h a x.toNatClampNeg) H1 h.1.2 := by
        have e9 : (aNew h a x.toNatClampNeg).2.1 h.1.2 = (a, x.toNatClampNeg, fun _ => none) := by simp [aNew, up1]
        refine ⟨fun k9 => ?_, fun k9 => ?_, fun k9 => ?_⟩
        · rw [e9, had]
          show H1[H.size]? = some (arrV (tc a) x.toNatClampNeg _)
          rw [e1, hcA, htf.1]
          congr 2
          funext j
          unfold svl
          rw [e9]
          rcases (show a = 0 ∨ a = 1 ∨ a = 2 ∨ a = 3 by omega) with rfl | rfl | rfl | rfl <;> (simp [aNew, up1]; rfl)
        · rw [e9] at k9; exact absurd k9 (by show ¬ a = 8; omega)
        · rw [e9] at k9; exact absurd k9 (by show ¬ 100 ≤ a; omega)
      have hk := k H1 locs ls (hH.push hm0 z1 o1 hcell) (hS.grow (by omega) o1) hL
      have hk : W p l e R s m args below meth c H1 locs (u1 + 1) (u2 + x.toNatClampNeg) Q (F0 m (pc + 2) ls (.ref (adr B b0 h.1.2) :: t.map (trV B b0))) := hk
      rw [had] at hk
      exact hk
  · cases hs
theorem st_anewarray {i0 : Nat} (C0 : cxP D tc B scr sa p R s m args meth c y) {n : Nat} {v : Value} {a b cc d pc u1 u2 : Nat} {L : List (Option Value)} {st : List Value} {r : aRes} (ho : opOK y pc (.anewarray i0, n, v, a, b, cc, d) = true) (hd : decode (bc y) pc = .ok (.anewarray i0, n)) (hs : aStep y (.anewarray i0, n, v, a, b, cc, d) (u1, u2) (pc, L, st) h = some r) (hH : hRel D tc B b0 scr h H) (hS : va_S (Aq B) s.heap H locs) (hL : lRel B b0 ls (mL y) L) (k : wNext D tc B b0 scr p l e R s m args below meth c Q y r) : W p l e R s m args below meth c H locs u1 u2 Q (F0 m pc ls (st.map (trV B b0))) := by
  obtain ⟨hx, hb, hml, hown, hts, hlk, hret, hini, -, -, hE, -, -, hRc, hRs⟩ := id C0
  simp only [opOK, Bool.and_eq_true] at ho
  obtain ⟨hn, ⟨ha5, ha7⟩, hwd, -⟩ := ho
  have hn := beq1 hn
  subst hn
  have ha5 : 5 ≤ a := Nat.le_of_ble_eq_true ha5
  have ha7 : a ≤ 7 := Nat.le_of_ble_eq_true ha7
  simp only [aStep] at hs
  split at hs
  · rename_i x t
    cases hq : (Nat.beq h.1.1 0 && (!(decide (x < 0)) && (Nat.ble x.toNatClampNeg 100000 && (Nat.ble (u1 + 1) (mcT y) && Nat.ble (u2 + x.toNatClampNeg) (msT y))))) with
    | false => rw [hq] at hs; cases hs
    | true =>
      rw [hq] at hs
      simp only [Bool.and_eq_true, Bool.not_eq_true', decide_eq_false_iff_not] at hq
      simp only [cond_true, aNx, Option.some.injEq] at hs
      subst hs
      have hm0 : h.1.1 = 0 := beq1 hq.1
      have hc1 : u1 + 1 ≤ mcT y := Nat.le_of_ble_eq_true hq.2.2.2.1
      have hc2 : u2 + x.toNatClampNeg ≤ msT y := Nat.le_of_ble_eq_true hq.2.2.2.2
      have hc3 : x.toNatClampNeg ≤ 100000 := Nat.le_of_ble_eq_true hq.2.2.1
      have had : adr B b0 h.1.2 = H.size := adr_new hH.2.2.2.1 (hH.2.2.1 hm0)
      have hty : aty a = .object (cn (akc a - 100)) ∧ FieldType.object (cn (akc a - 100)) ∈ oWs := by
        rcases (show a = 5 ∨ a = 6 ∨ a = 7 by omega) with rfl | rfl | rfl
        · exact ⟨rfl, List.mem_of_getElem? (i := 1) rfl⟩
        · exact ⟨rfl, List.mem_of_getElem? (i := 2) rfl⟩
        · exact ⟨rfl, List.mem_of_getElem? (i := 3) rfl⟩
      refine W.anew hx hb hown (hts _ (wOK_spec hwd)) (hE.2.2.2.2.2.1 _ hty.2) rfl hd rfl hq.2.1 (Nat.le_trans (Nat.mul_le_mul hc3 (Nat.le_refl 4)) (by decide)) (Nat.le_trans hc1 hRc) (Nat.le_trans hc2 hRs) fun cA kA comp f1 f2 f3 f4 => ?_
      have hcA : cA = tc a := by
        have h9 := (hE.2.1 a (by omega)).2
        rw [hty.1] at h9
        obtain ⟨kA9, comp9, g1, g2, g3, g4⟩ := h9
        exact Option.some.inj (f1.symm.trans g4)
      rw [arrV_new, hcA]
      have z1 : (Array.push H (arrV (tc a) x.toNatClampNeg fun _ => Value.null)).size = H.size + 1 := Array.size_push ..
      have o1 : ∀ q, q < H.size → (Array.push H (arrV (tc a) x.toNatClampNeg fun _ => Value.null))[q]? = H[q]? := fun q hq9 => by rw [Array.getElem?_push]; simp [Nat.ne_of_lt hq9]
      have e1 : (Array.push H (arrV (tc a) x.toNatClampNeg fun _ => Value.null))[H.size]? = some (arrV (tc a) x.toNatClampNeg fun _ => Value.null) := by simp
      generalize Array.push H (arrV (tc a) x.toNatClampNeg fun _ => Value.null) = H1 at z1 o1 e1 ⊢
      have hcell : cellR D tc B b0 scr (aNew h a x.toNatClampNeg) H1 h.1.2 := by
        have e9 : (aNew h a x.toNatClampNeg).2.1 h.1.2 = (a, x.toNatClampNeg, fun _ => none) := by simp [aNew, up1]
        refine ⟨fun k9 => ?_, fun k9 => ?_, fun k9 => ?_⟩
        · rw [e9, had]
          show H1[H.size]? = some (arrV (tc a) x.toNatClampNeg _)
          rw [e1]
          congr 2
          funext j
          unfold svl
          rw [e9]
          rcases (show a = 5 ∨ a = 6 ∨ a = 7 by omega) with rfl | rfl | rfl <;> rfl
        · rw [e9] at k9; exact absurd k9 (by show ¬ a = 8; omega)
        · rw [e9] at k9; exact absurd k9 (by show ¬ 100 ≤ a; omega)
      have hk := k H1 locs ls (hH.push hm0 z1 o1 hcell) (hS.grow (by omega) o1) hL
      have hk : W p l e R s m args below meth c H1 locs (u1 + 1) (u2 + x.toNatClampNeg) Q (F0 m (pc + 3) ls (.ref (adr B b0 h.1.2) :: t.map (trV B b0))) := hk
      rw [had] at hk
      exact hk
  · cases hs
theorem st_objinit {i0 : Nat} (C0 : cxP D tc B scr sa p R s m args meth c y) {n : Nat} {v : Value} {a b cc d pc u1 u2 : Nat} {L : List (Option Value)} {st : List Value} {r : aRes} (ho : opOK y pc (.invokespecial i0, n, v, a, b, cc, d) = true) (hd : decode (bc y) pc = .ok (.invokespecial i0, n)) (hs : aStep y (.invokespecial i0, n, v, a, b, cc, d) (u1, u2) (pc, L, st) h = some r) (hH : hRel D tc B b0 scr h H) (hS : va_S (Aq B) s.heap H locs) (hL : lRel B b0 ls (mL y) L) (k : wNext D tc B b0 scr p l e R s m args below meth c Q y r) : W p l e R s m args below meth c H locs u1 u2 Q (F0 m pc ls (st.map (trV B b0))) := by
  obtain ⟨hx, hb, hml, hown, hts, hlk, hret, hini, -, -, hE, hRf, hRl, -, -⟩ := id C0
  simp only [opOK, Bool.and_eq_true] at ho
  have hn := beq1 ho.1
  subst hn
  simp only [aStep] at hs
  split at hs
  · rename_i x t
    cases hq : (Nat.beq cc 9 && (Nat.ble 1 (fr y) && Nat.ble ((t.map fun v => v.category).sum + 12) (lo y))) with
    | false => rw [hq] at hs; cases hs
    | true =>
      rw [hq] at hs
      simp only [Bool.and_eq_true] at hq
      simp only [cond_true, aNx, Option.some.injEq] at hs
      subst hs
      have ho2 := ho.2
      rw [hq.1, cond_true] at ho2
      have h1 : 1 ≤ fr y := Nat.le_of_ble_eq_true hq.2.1
      have h2 : (t.map fun v => v.category).sum + 12 ≤ lo y := Nat.le_of_ble_eq_true hq.2.2
      have hcat : ((t.map (trV B b0)).map fun v => v.category) = t.map fun v => v.category := by
        rw [List.map_map]
        exact List.map_congr_left (fun w _ => trV_cat B b0 w)
      refine W.objInit hx hb hown (hts _ (wOK_spec ho2)) (hts _ (wOK_spec oi_at.1)) (hts _ (wOK_spec oi_at.2)) rfl (by rw [hml]; exact hL.1) rfl hd (Nat.le_trans h1 hRf) ?_ (k H locs ls hH hS hL)
      have h3 : 2 * (F0 m pc ls (.ref (adr B b0 x) :: t.map (trV B b0))).monitorRoom = 0 := by
        show 2 * JFrame.monitorRoom _ = 0
        simp [JFrame.monitorRoom]
      rw [h3, hcat]
      omega
  · cases hs
theorem st_aastore (C0 : cxP D tc B scr sa p R s m args meth c y) {n : Nat} {v : Value} {a b cc d pc u1 u2 : Nat} {L : List (Option Value)} {st : List Value} {r : aRes} (ho : opOK y pc (.aastore, n, v, a, b, cc, d) = true) (hd : decode (bc y) pc = .ok (.aastore, n)) (hs : aStep y (.aastore, n, v, a, b, cc, d) (u1, u2) (pc, L, st) h = some r) (hH : hRel D tc B b0 scr h H) (hS : va_S (Aq B) s.heap H locs) (hL : lRel B b0 ls (mL y) L) (k : wNext D tc B b0 scr p l e R s m args below meth c Q y r) : W p l e R s m args below meth c H locs u1 u2 Q (F0 m pc ls (st.map (trV B b0))) := by
  obtain ⟨hx, hb, hml, hown, hts, hlk, hret, hini, -, -, hE, -⟩ := id C0
  have hn : n = 1 := beq1 ho
  subst hn
  simp only [aStep] at hs
  split at hs
  · rename_i w x q t
    cases hq : (Nat.beq h.1.1 0 && ((aK h q 5 || (aK h q 6 || aK h q 7)) && (aIn x (h.2.1 q).2.1 && aK h w (akc (h.2.1 q).1)))) with
    | false => rw [hq] at hs; cases hs
    | true =>
      rw [hq] at hs
      simp only [Bool.and_eq_true] at hq
      simp only [cond_true, aNx, Option.some.injEq] at hs
      subst hs
      obtain ⟨g1, g2⟩ := aIn_spec hq.2.2.1
      have hk : ∃ kd, 5 ≤ kd ∧ kd < 8 ∧ aK h q kd = true := by
        have h9 := hq.2.1
        simp only [Bool.or_eq_true] at h9
        rcases h9 with z | z | z
        · exact ⟨5, by omega, by omega, z⟩
        · exact ⟨6, by omega, by omega, z⟩
        · exact ⟨7, by omega, by omega, z⟩
      obtain ⟨kd, k5, k8, hk⟩ := hk
      obtain ⟨q1, q2⟩ := aK_spec hk
      obtain ⟨w1, w2⟩ := aK_spec hq.2.2.2
      rw [q2] at w2
      have hcd : ∃ ci, ci < 11 ∧ akc kd = 100 + ci ∧ aty kd = .object (cn ci) := by
        rcases (show kd = 5 ∨ kd = 6 ∨ kd = 7 by omega) with rfl | rfl | rfl
        · exact ⟨7, by omega, rfl, rfl⟩
        · exact ⟨8, by omega, rfl, rfl⟩
        · exact ⟨5, by omega, rfl, rfl⟩
      obtain ⟨ci, hci, ha1, ha2⟩ := hcd
      rw [ha1] at w2
      obtain ⟨rr, -, cellV, gv1, gv2, gv3, -⟩ := objP hH hci w1 w2 0 _ rfl
      have hcls := (hE.1.1 ci _ (cl_at ci hci)).2
      have hRA := (hE.2.1 kd k8).2
      rw [ha2] at hRA
      obtain ⟨kA, comp, k1, k2, k3, -⟩ := hRA
      have hcomp : comp = D.1 ci := Option.some.inj (k3.symm.trans hcls.1)
      subst hcomp
      obtain ⟨kC, hkC, -⟩ := hcls.2
      refine W.aast hx hb (acell hH q2 k8 q1) (fun q h => by cases h) (fun h => by cases h) k1 k2 rfl hkC ⟨fun z => g1 (Or.inl z), by rw [arrV_size]; exact g2⟩ gv1 (fun q h => by rw [gv3] at h; cases h) (by rw [gv2]; exact hkC) (by rw [gv2]; exact va_assign hcls) rfl rfl hd (fun H1 e1 e2 e3 => ?_)
      refine k H1 _ ls (aput (w := .ref w) hH q2 k8 q1 e1 e2 e3 rfl (fun z hz => ⟨by simp [aShR, up1, hz], rfl, rfl, rfl⟩) (by simp [aShR, up1]; exact q2) (by simp [aShR, up1]) (fun i => ?_)) (hS.put e2 e3 (adr_A (kind_ne0 hH (by rw [q2]; omega)))) hL
      have e9 : (aShR h q x.toNatClampNeg (some w)).2.1 q = ((h.2.1 q).1, (h.2.1 q).2.1, up1 (h.2.1 q).2.2 x.toNatClampNeg (some w)) := by simp [aShR, up1]
      unfold svl
      rw [e9]
      dsimp only
      have e8 : rsl (h.2.1 q).1 i = true := by
        unfold rsl
        rw [q2, show Nat.blt kd 8 = true from Nat.ble_eq_true_of_le k8]
        exact Nat.ble_eq_true_of_le (by omega)
      rw [e8]
      by_cases ei : i = x.toNatClampNeg
      · simp [up1, ei, va_rf]
      · simp [up1, ei]
  · cases hs
end BOOT
