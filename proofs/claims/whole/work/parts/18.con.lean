/-! A method of the machine, out of its run on the abstract machine -/
def xnms : List String := ["java/lang/RuntimeException", "java/lang/Exception"]
def bad2 : List Cond := xWs ++ dWs
theorem at_good : ∀ a, a < 3 → ((vx_atS RX9 (icT a) (xn a) xnms).filter goodWord).all (fun w => decide (w ∈ lw_tbl)) = true := by decide +kernel
theorem at_bad : ∀ a, a < 3 → ((vx_atS RX9 (icT a) (xn a) xnms).filter (fun w => !goodWord w)).all (fun w => decide (w ∈ bad2)) = true := by decide +kernel
theorem at_ot : ∀ a, a < 3 → (Cond.classLink RX9 (ikT a) (xn a) :: Cond.initialized (xn a) :: vx_atS RX9 (icT a) (xn a) xnms).all vx_ot = true := by decide +kernel
theorem at_ini : ∀ a, a < 3 → lw_tbl.any (fun w => decide (w = Cond.initialized (xn a))) = true := by decide +kernel
theorem at_fit : (∀ a, a < 3 → Bundle.fit (xn a) = true) ∧ ∀ n ∈ xnms, Bundle.fit n = true := by decide +kernel
section CON
variable {l : Launch} {D : va_G} {tc : Nat → ClassId} {B b0 : Nat} {scr : Cell} {sa : Nat → Nat} {p : Program} {e : Env} {s : State} {m : MethodId} {args : Array Value} {below : List Frame} {meth : Method} {c : Code} {y : Nat} {r : aOut}
theorem end_mq (hl : l.stackTraces = false) (hy : y < 214) (C0 : cxP D tc B scr sa p (rmz y) s m args meth c y) : qEnd D tc B b0 scr p l e (rmz y) s m args below meth c (vx_MQ below (QcG D tc B b0 scr r) (XcG D tc B b0 scr r) args s (mcT y) (msT y) (Aq B)) y r := by
  obtain ⟨hx, hb, hml, hown, hts, hlk, hret, hini, hno, htab, hE, hRf, hRl, -, -⟩ := id C0
  refine ⟨?_, ?_, ?_⟩
  · intro H locs ls u1 u2 pc L st h en hcd he hH hS hu1 hu2
    obtain ⟨hd, ho⟩ := en_spec (en_ok hcd)
    obtain ⟨i, n, v, a, b, cc, d⟩ := en
    refine W.widen hu1 hu2 ?_
    cases i with
    | ireturn =>
      have hn : n = 1 := beq1 ho
      subst hn
      simp only [aEnd] at he
      split at he
      · rename_i x heq
        cases hrt : rt y with
        | none => rw [hrt] at he; cases he
        | some ty =>
          rw [hrt] at he
          have hty : narrow ty (.int x) = .int x ∧ r = (.inl (some (.int x)), h) := by
            cases ty with
            | int => exact ⟨rfl, (Option.some.inj he).symm⟩
            | boolean =>
              dsimp only at he
              cases hbt : aBit x with
              | false => rw [hbt] at he; cases he
              | true => rw [hbt] at he; exact ⟨aBit_nar hbt, (Option.some.inj he).symm⟩
            | _ => cases he
          obtain ⟨hty1, rfl⟩ := hty
          exact vx_ret (W.zret hx hb (by rw [hret, hrt]) hty1 (fun t ht hW => ⟨some (.int x), rfl, rfl, by rw [ht]; exact hH, hS.F ht⟩) hS.2.2 hd hlk)
      · simp_all
      · simp_all
      · cases he
    | freturn =>
      have hn : n = 1 := beq1 ho
      subst hn
      simp only [aEnd] at he
      split at he
      · simp_all
      · rename_i x heq
        cases hrt : rt y with
        | none => rw [hrt] at he; cases he
        | some ty =>
          rw [hrt] at he
          cases ty with
          | float =>
            have hr9 : r = (.inl (some (.float x)), h) := (Option.some.inj he).symm
            subst hr9
            exact vx_ret (W.fret hx hb (by rw [hret, hrt]) (fun t ht hW => ⟨some (.float x), rfl, rfl, by rw [ht]; exact hH, hS.F ht⟩) hS.2.2 hd hlk)
          | _ => cases he
      · simp_all
      · cases he
    | return_ =>
      have hn : n = 1 := beq1 ho
      subst hn
      simp only [aEnd] at he
      split at he
      · simp_all
      · simp_all
      · cases hrt : rt y with
        | none =>
          rw [hrt] at he
          have hr9 : r = (.inl none, h) := (Option.some.inj he).symm
          subst hr9
          exact vx_ret (W.vret hx hb (by rw [hret, hrt]) (fun t ht hW => ⟨none, rfl, rfl, by rw [ht]; exact hH, hS.F ht⟩) hS.2.2 hd hlk)
        | some ty => rw [hrt] at he; cases he
      · cases he
    | _ => simp [aEnd] at he
  · intro H locs ls u1 u2 pc st h en hcd hth hmd hf6 hsum hc1 hc2 hr9 hH hS hsz
    obtain ⟨hd, ho⟩ := en_spec (en_ok hcd)
    obtain ⟨i, n, v, a, b, cc, d⟩ := en
    cases i with
    | new i0 =>
      have hcc : Nat.beq cc 1 = true := hth
      have hcc0 : Nat.beq cc 0 = false := by rw [beq1 hcc]; rfl
      simp only [opOK, Bool.and_eq_true] at ho
      rw [hcc0, cond_false] at ho
      simp only [Bool.and_eq_true, decide_eq_true_eq] at ho
      obtain ⟨hn, -, ha, how, hk, hw, d3, d4, d7, d10, hhn⟩ := ho
      have hn := beq1 hn
      subst hn
      have ha : a < 3 := Nat.le_of_ble_eq_true ha
      have how : ow y = 9 := beq1 how
      have hk := beq1 hk
      subst hk
      subst hr9
      have hown9 : s.vm.findClass RX9 = some m.cls := by rw [how] at hown; exact hown
      have hin : (Cond.initialized (xn a)).before args s = true := by
        have h9 := at_ini a ha
        obtain ⟨w, hw9, hw8⟩ := List.any_eq_true.mp h9
        have h7 := of_decide_eq_true hw8
        subst h7
        exact hts _ (List.mem_filter.mpr ⟨hw9, rfl⟩)
      have hat : ∀ w ∈ vx_atS RX9 (icT a) (xn a) xnms, w.before args s = true := by
        intro w hw9
        cases hg : goodWord w with
        | true =>
          have h8 := List.all_eq_true.mp (at_good a ha) w (List.mem_filter.mpr ⟨hw9, hg⟩)
          exact hts _ (List.mem_filter.mpr ⟨of_decide_eq_true h8, hg⟩)
        | false =>
          have h8 := of_decide_eq_true (List.all_eq_true.mp (at_bad a ha) w (List.mem_filter.mpr ⟨hw9, by rw [hg]; rfl⟩))
          rcases List.mem_append.mp h8 with h7 | h7
          · have h6 := hE.2.2.2.1 w h7
            simp only [xWs, List.mem_cons, List.not_mem_nil, or_false] at h7
            rcases h7 with rfl | rfl | rfl <;> exact va_Nw.use rfl h6
          · have h6 := hE.2.2.2.2.1 w h7
            simp only [dWs, List.mem_cons, List.not_mem_nil, or_false] at h7
            rcases h7 with rfl | rfl | rfl | rfl | rfl | rfl <;> exact va_Nw.use rfl h6
      exact vx_throwSW (names := xnms) (text := txT a) (sa := sa a) (A := Aq B) hx hb hl hown9 (at_fit.1 a ha) at_fit.2 (hts _ (wOK_spec hw)) hin (hE.2.2.2.2.2.2.1 a ha) hat (fun w hw9 => List.all_eq_true.mp (at_ot a ha) w hw9) hE.2.2.2.2.2.2.2.1.1 hE.2.2.2.2.2.2.2.1.2 hS (by rw [hml]; exact hsz) hd d3 d4 d7 d10 (fun z hz => (hno hy hhn z hz).elim) (by show 2 + 3 < fr y; omega) (by rw [map_cat]; exact hsum) hc1 hc2 hlk
        (fun t ht hz hq => ⟨a, rfl, rfl, hH.grow hmd hz hq, Nat.le_trans hS.1 hz, fun q q1 q2 => (hq q (Nat.lt_of_lt_of_le q1 hS.1)).trans (hS.2.1 q q1 q2)⟩) hS.2.2 hc1 hc2
    | _ => simp [aIsThrow] at hth
  · intro H locs ls u1 u2 pc rest q ce x hr9 hx3 hhn hH hS hc1 hc2 hce hcv hcl
    refine vx_outP (own := cn (ow y)) hown hlk (fun z hz => ?_) hce hcv hcl (fun t ht hal => ⟨x, hr9, rfl, by rw [ht]; exact hH, hS.F ht⟩) hS.2.2 hc1 hc2
    cases hT : hh y with
    | none => exact (hno hy hT z hz).elim
    | some T =>
      rw [htab T hT] at hz
      obtain ⟨q9, hq9, rfl⟩ := List.mem_map.mp hz
      have hnn : hndL pc x T = none := by
        unfold aHnd at hhn
        rw [hT] at hhn
        dsimp only at hhn
        cases hn : hndL pc x T with
        | none => rfl
        | some t =>
          rw [hn] at hhn
          dsimp only at hhn
          split at hhn <;> cases hhn
      exact pass_at C0 (by omega) hT hx3 hq9 (hndL_none hnn q9 hq9)
theorem con_of_walk {k : Nat} (hl : l.stackTraces = false) (hw : walkP l D tc B b0 scr sa k) : conP l D tc B b0 scr sa k := by
  intro z as h r hz hlen hex
  obtain ⟨m1, m2, m3, m4, m5, m6, m7⟩ := m_spec hz
  have hbody : ∀ (p : Program) (e : Env) (s : State) (m : MethodId) (args : Array Value) (below : List Frame) (meth : Method) (c : Code) (s₁ : State), BodyLoose p l (mn z) (headSpec (wsz z) (rmz z)) (bc z) (mL z) (rt z) e s m args below meth c s₁ → c.maxLocals = mL z → (hh z = none → ∀ x ∈ c.exceptionTable.toList, False) → PcG D tc B b0 scr sa as h args s →
      W p l e (headSpec (wsz z) (rmz z)).room s m args below meth c s.heap [] 0 0 (vx_MQ below (QcG D tc B b0 scr r) (XcG D tc B b0 scr r) args s (mcT z) (msT z) (Aq B)) (entryFrame m args (mL z)) := by
    intro p e s m args below meth c s₁ Bd hml hno hP
    obtain ⟨rfl, hR, hE⟩ := hP
    have hts := atoms_spec (ws := wsz z) Bd.pre
    have hown : s.vm.findClass (cn (ow z)) = some m.cls := by rw [← m4]; exact findClass_of_methodNamed Bd.named
    have C0 : cxP D tc B scr sa p (rmz z) s m (as.map (trV B b0)).toArray meth c z := by
      refine ⟨Bd.exec, Bd.bytes, hml, hown, fun w hw9 => hts w (List.mem_cons_of_mem _ hw9), Bd.notSynchronized, Bd.returns, fun hI => (name_of_methodNamed Bd.named Bd.method).1.trans (m7 hI), fun _ => hno, fun T hT => ?_, hE, Nat.le_refl _, Nat.le_refl _, Nat.le_refl _, Nat.le_refl _⟩
      have h9 := hts (cwz z) List.mem_cons_self
      unfold cwz at h9
      rw [hT] at h9
      exact vx_table (x := mn z) Bd h9
    rw [lg_entry_eq]
    exact hw p e (rmz z) s m _ below meth c _ z r (by omega) C0 (end_mq hl hz C0) (0, 0) (0, aPad as (mL z), []) h s.heap [] _ hex hR va_S.rf (ent_rel hlen)
  cases hT : hh z with
  | none =>
    exact vx_ofW (cc := bc z) (maxL := mL z) (ret := rt z) (ws' := BIG) m5 (by show wsz z = _; unfold wsz cwz; rw [hT]) (fun p e s m args below meth c s₁ Bd hml hno hP => hbody p e s m args below meth c s₁ Bd hml (fun _ => hno) hP)
  | some T =>
    exact vx_ofWH (cc := bc z) (maxL := mL z) (ret := rt z) (hh := T) (ws' := BIG) m5 (by show wsz z = _; unfold wsz cwz; rw [hT]) (fun p e s m args below meth c s₁ Bd hml hP => hbody p e s m args below meth c s₁ Bd hml (fun q => by rw [hT] at q; cases q) hP)
theorem walk_all (hl : l.stackTraces = false) : ∀ k, walkP l D tc B b0 scr sa k
  | 0 => walk_0
  | k + 1 => walk_s (con_of_walk hl (walk_all hl k)) (walk_all hl k)
end CON
