theorem ai_in : Cond.arrayClass .int ∈ BIG := wOK_spec (d := 136) (by decide +kernel)
section MUL
variable {D : va_G} {tc : Nat → ClassId} {B b0 : Nat} {scr : Cell} {sa : Nat → Nat} {p : Program} {l : Launch} {e : Env} {R : Room} {s : State} {m : MethodId} {args : Array Value} {below : List Frame} {meth : Method} {c : Code} {H : Heap} {locs : List Loc} {Q : State → Prop} {y : Nat} {ls : Array Slot} {h : aHp}
theorem adr_new2 {N j : Nat} (h1 : 1 ≤ N) (h2 : H.size + 1 = B + N) : adr B b0 (N + 1 + j) = H.size + 1 + j := by
  have e : N + 1 + j = (N + j) + 1 := by omega
  rw [e]
  show B + (N + j) = H.size + 1 + j
  omega
theorem st_multi {i0 i1 : Nat} (C0 : cxP D tc B scr sa p R s m args meth c y) {n : Nat} {v : Value} {a b cc d pc u1 u2 : Nat} {L : List (Option Value)} {st : List Value} {r : aRes} (ho : opOK y pc (.multianewarray i0 i1, n, v, a, b, cc, d) = true) (hd : decode (bc y) pc = .ok (.multianewarray i0 i1, n)) (hs : aStep y (.multianewarray i0 i1, n, v, a, b, cc, d) (u1, u2) (pc, L, st) h = some r) (hH : hRel D tc B b0 scr h H) (hS : va_S (Aq B) s.heap H locs) (hL : lRel B b0 ls (mL y) L) (k : wNext D tc B b0 scr p l e R s m args below meth c Q y r) : W p l e R s m args below meth c H locs u1 u2 Q (F0 m pc ls (st.map (trV B b0))) := by
  obtain ⟨hx, hb, hml, hown, hts, hlk, hret, hini, -, -, hE, -, -, hRc, hRs⟩ := id C0
  simp only [opOK, Bool.and_eq_true, decide_eq_true_eq] at ho
  obtain ⟨hn, hi1, ha, hwd, hwb⟩ := ho
  have hn := beq1 hn
  subst hn
  have hi1 := beq1 hi1
  subst hi1
  simp only [aStep] at hs
  split at hs
  · rename_i z x t
    cases hq : (Nat.beq h.1.1 0 && ((!(decide (x < 0)) && !(decide (z < 0))) && ((Nat.ble x.toNatClampNeg 100000 && Nat.ble z.toNatClampNeg 100000) && (Nat.ble (u1 + (1 + x.toNatClampNeg)) (mcT y) && Nat.ble (u2 + (x.toNatClampNeg + x.toNatClampNeg * z.toNatClampNeg)) (msT y))))) with
    | false => rw [hq] at hs; cases hs
    | true =>
      rw [hq] at hs
      simp only [Bool.and_eq_true, Bool.not_eq_true', decide_eq_false_iff_not] at hq
      simp only [cond_true, aNx, Option.some.injEq] at hs
      subst hs
      have hm0 : h.1.1 = 0 := beq1 hq.1
      have hsz := hH.2.2.1 hm0
      have h1N := hH.2.2.2.1
      have hc1 : u1 + (1 + x.toNatClampNeg) ≤ mcT y := Nat.le_of_ble_eq_true hq.2.2.2.1
      have hc2 : u2 + (x.toNatClampNeg + x.toNatClampNeg * z.toNatClampNeg) ≤ msT y := Nat.le_of_ble_eq_true hq.2.2.2.2
      have hx3 : x.toNatClampNeg ≤ 100000 := Nat.le_of_ble_eq_true hq.2.2.1.1
      have hz3 : z.toNatClampNeg ≤ 100000 := Nat.le_of_ble_eq_true hq.2.2.1.2
      have had : adr B b0 h.1.2 = H.size := adr_new h1N hsz
      intro T hT Xs
      obtain ⟨vm₁, cA, comp, -, fA, fC, hO, -, X', step⟩ := Xs.multianewarray2F (ty := .int) hx hown (hts _ (wOK_spec hwd)) (hE.2.2.2.2.2.1 (.array .int) (List.mem_of_getElem? (i := 0) rfl)) (hts _ ai_in) (g := F0 m pc ls (.int z :: .int x :: t.map (trV B b0))) rfl (by rw [hb]; exact hd) rfl hq.2.1.1 hq.2.1.2 (by omega) (by show z.toNatClampNeg * 4 ≤ _; omega) (by omega) rfl rfl (Nat.le_trans hc1 hRc) (Nat.le_trans hc2 hRs)
      have hcA : cA = tc 4 := Option.some.inj (fA.symm.trans (hE.2.1 4 (by omega)).2)
      have hcC : comp = tc 0 := Option.some.inj (fC.symm.trans (hE.2.1 0 (by omega)).2)
      subst hcA
      subst hcC
      generalize hF : Jvm.Free.Multi.fill (T.setVm vm₁) (tc 4) (tc 0) x.toNatClampNeg z.toNatClampNeg (defaultValue .int) x.toNatClampNeg = F at X' step
      have hTh : (T.setVm vm₁).heap = H := hT
      obtain ⟨f1, f2, -, -⟩ := Jvm.Free.Multi.fill_facts (T.setVm vm₁) (tc 4) (tc 0) x.toNatClampNeg z.toNatClampNeg (defaultValue .int) x.toNatClampNeg
      rw [hF, hTh] at f1 f2
      have hold : ∀ w : Nat, w < H.size → F.heap[w]? = H[w]? := fun w hw => by
        have := Jvm.Free.Multi.fill_old (T.setVm vm₁) (tc 4) (tc 0) x.toNatClampNeg z.toNatClampNeg (defaultValue .int) (a := w) (by rw [hTh]; exact hw) x.toNatClampNeg
        rw [hF, hTh] at this
        exact this
      have hrow : ∀ j : Nat, j < x.toNatClampNeg → F.heap[H.size + 1 + j]? = some (arrV (tc 0) z.toNatClampNeg (fun _ => .int 0)) := fun j hj => by
        have := Jvm.Free.Multi.fill_inner (T.setVm vm₁) (tc 4) (tc 0) x.toNatClampNeg z.toNatClampNeg (defaultValue .int) x.toNatClampNeg j hj
        rw [hF, hTh] at this
        rw [this]
        unfold Jvm.Free.Multi.innerC
        rw [arrV_new]
        rfl
      rw [vr_outer] at f2
      have hR1 : hRel D tc B b0 scr (aNewM h x.toNatClampNeg z.toNatClampNeg) F.heap := by
        obtain ⟨r1, r2, r3, r4, r5, r6⟩ := hH
        refine ⟨r1, ?_, fun _ => ?_, ?_, ?_, fun w hw => ?_⟩
        · show B + (h.1.2 + 1 + x.toNatClampNeg) ≤ F.heap.size + 1; omega
        · show F.heap.size + 1 = B + (h.1.2 + 1 + x.toNatClampNeg); omega
        · show 1 ≤ h.1.2 + 1 + x.toNatClampNeg; omega
        · show (cond (Nat.beq 0 h.1.2) _ (cond (Nat.blt 0 h.1.2) (h.2.1 0) _) : aShp).1 = 8
          rw [show Nat.beq 0 h.1.2 = false from by cases z9 : Nat.beq 0 h.1.2 with | false => rfl | true => exact absurd (beq1 z9) (by omega), show Nat.blt 0 h.1.2 = true from Nat.ble_eq_true_of_le (by omega)]
          exact r5
        · have hw : w < h.1.2 + 1 + x.toNatClampNeg := hw
          rcases Nat.lt_trichotomy w h.1.2 with q | q | q
          · have e1 : Nat.beq w h.1.2 = false := by
              cases z9 : Nat.beq w h.1.2 with
              | false => rfl
              | true => exact absurd (beq1 z9) (by omega)
            have e2 : Nat.blt w h.1.2 = true := Nat.ble_eq_true_of_le q
            refine (r6 w q).kept ?_ ?_ (fun j => ?_) (hold _ (adr_lt r1 q r2))
            · simp [aNewM, e1, e2]
            · simp [aNewM, e2]
            · simp [svl, aNewM, e1, e2]
          · have e1 : Nat.beq w h.1.2 = true := by rw [q]; exact Nat.beq_refl _
            have e9 : (aNewM h x.toNatClampNeg z.toNatClampNeg).2.1 w = (4, x.toNatClampNeg, fun j => cond (Nat.blt j x.toNatClampNeg) (some (h.1.2 + 1 + j)) none) := by simp [aNewM, e1]
            refine ⟨fun k9 => ?_, fun k9 => ?_, fun k9 => ?_⟩
            · rw [e9, q, had]
              show F.heap[H.size]? = some (arrV (tc 4) x.toNatClampNeg _)
              rw [f2]
              congr 2
              funext j
              unfold svl
              rw [← q, e9]
              show va_rf _ = trV B b0 (va_rf (cond (Nat.blt j x.toNatClampNeg) (some (h.1.2 + 1 + j)) none))
              by_cases hj : j < x.toNatClampNeg
              · rw [if_pos hj, show Nat.blt j x.toNatClampNeg = true from Nat.ble_eq_true_of_le hj]
                show Value.ref (H.size + 1 + j) = Value.ref (adr B b0 (h.1.2 + 1 + j))
                rw [adr_new2 h1N hsz]
              · rw [if_neg hj, show Nat.blt j x.toNatClampNeg = false from by cases z9 : Nat.blt j x.toNatClampNeg with | false => rfl | true => exact absurd (Nat.le_of_ble_eq_true z9) hj]
                rfl
            · rw [e9] at k9; cases k9
            · rw [e9] at k9; exact absurd k9 (by show ¬ 100 ≤ 4; omega)
          · have e1 : Nat.beq w h.1.2 = false := by
              cases z9 : Nat.beq w h.1.2 with
              | false => rfl
              | true => exact absurd (beq1 z9) (by omega)
            have e2 : Nat.blt w h.1.2 = false := by
              cases z9 : Nat.blt w h.1.2 with
              | false => rfl
              | true => exact absurd (Nat.le_of_ble_eq_true z9) (by omega)
            have e9 : (aNewM h x.toNatClampNeg z.toNatClampNeg).2.1 w = (0, z.toNatClampNeg, fun _ => none) := by simp [aNewM, e1, e2]
            have e8 : (aNewM h x.toNatClampNeg z.toNatClampNeg).2.2.1 w = fun _ => 0 := by simp [aNewM, e2]
            refine ⟨fun k9 => ?_, fun k9 => ?_, fun k9 => ?_⟩
            · rw [e9]
              show F.heap[adr B b0 w]? = some (arrV (tc 0) z.toNatClampNeg _)
              have e7 : w = h.1.2 + 1 + (w - h.1.2 - 1) := by omega
              rw [e7, adr_new2 h1N hsz, hrow _ (by omega), ← e7]
              congr 2
              funext j
              unfold svl
              rw [e9, e8]
              rfl
            · rw [e9] at k9; cases k9
            · rw [e9] at k9; exact absurd k9 (by show ¬ 100 ≤ 0; omega)
      have hk := k F.heap locs ls hR1 (hS.grow (by omega) hold) hL
      have hk : W p l e R s m args below meth c F.heap locs (u1 + (1 + x.toNatClampNeg)) (u2 + (x.toNatClampNeg + x.toNatClampNeg * z.toNatClampNeg)) Q (F0 m (pc + 4) ls (.ref (adr B b0 h.1.2) :: t.map (trV B b0))) := hk
      rw [had] at hk
      rw [Nat.add_assoc u1 1, Nat.add_assoc u2 x.toNatClampNeg] at X'
      obtain ⟨t9, a1, b1⟩ := hk F rfl X'
      refine ⟨t9, step t9 ?_, b1⟩
      have e : T.heap.size = H.size := by rw [hT]
      rw [e]
      exact a1
  · cases hs
end MUL
