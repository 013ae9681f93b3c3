/-! Math.max, Math.min -/
section MMX
variable {D : va_G} {tc : Nat → ClassId} {B b0 : Nat} {scr : Cell} {sa : Nat → Nat} {p : Program} {l : Launch} {e : Env} {R : Room} {s : State} {m : MethodId} {args : Array Value} {below : List Frame} {meth : Method} {c : Code} {H : Heap} {locs : List Loc} {Q : State → Prop} {y : Nat} {ls : Array Slot} {h : aHp}
theorem st_mm {i0 : Nat} (C0 : cxP D tc B scr sa p R s m args meth c y) {n : Nat} {v : Value} {a b cc d pc u1 u2 : Nat} {L : List (Option Value)} {st : List Value} {r : aRes} (ho : opOK y pc (.invokestatic i0, n, v, a, b, cc, d) = true) (hd : decode (bc y) pc = .ok (.invokestatic i0, n)) (hs : aStep y (.invokestatic i0, n, v, a, b, cc, d) (u1, u2) (pc, L, st) h = some r) (hH : hRel D tc B b0 scr h H) (hS : va_S (Aq B) s.heap H locs) (hL : lRel B b0 ls (mL y) L) (k : wNext D tc B b0 scr p l e R s m args below meth c Q y r) : W p l e R s m args below meth c H locs u1 u2 Q (F0 m pc ls (st.map (trV B b0))) := by
  obtain ⟨hx, hb, hml, hown, hts, hlk, hret, hini, -, -, hE, hRf, hRl, hRc, hRs⟩ := id C0
  simp only [opOK, Bool.and_eq_true] at ho
  have hn := beq1 ho.1
  subst hn
  simp only [aStep] at hs
  split at hs
  · rename_i z x t
    cases hq : (Nat.ble 6 cc && (Nat.ble 1 (fr y) && (Nat.ble ((t.map fun v => v.category).sum + 13) (lo y) && (Nat.ble u1 (mcT y) && Nat.ble u2 (msT y))))) with
    | false => rw [hq] at hs; cases hs
    | true =>
      rw [hq] at hs
      simp only [Bool.and_eq_true] at hq
      simp only [cond_true, aNx, Option.some.injEq] at hs
      subst hs
      have ho2 := ho.2
      rw [hq.1, cond_true] at ho2
      have h1 : 1 ≤ fr y := Nat.le_of_ble_eq_true hq.2.1
      have h2 : (t.map fun v => v.category).sum + 13 ≤ lo y := Nat.le_of_ble_eq_true hq.2.2.1
      have h3 : u1 ≤ mcT y := Nat.le_of_ble_eq_true hq.2.2.2.1
      have h4 : u2 ≤ msT y := Nat.le_of_ble_eq_true hq.2.2.2.2
      have h5 : (((t.map (trV B b0))).map fun v => v.category).sum + 13 ≤ R.locals := by
        have e9 : ((t.map (trV B b0)).map fun v => v.category) = t.map fun v => v.category := by
          rw [List.map_map]
          exact List.map_congr_left (fun w _ => trV_cat B b0 w)
        rw [e9]
        exact Nat.le_trans h2 hRl
      cases hc6 : Nat.beq cc 6 with
      | true =>
        rw [hc6, cond_true] at ho2
        refine va_mmax hx hb (by rw [hml, hL.1]) hown (hts _ (wOK_spec ho2)) (hts _ mm_max_s) (hts _ mm_i) (hts _ mm_max_c) (Nat.le_trans h1 hRf) h5 (Nat.le_trans h3 hRc) (Nat.le_trans h4 hRs) hd ?_
        have hk := k H locs ls hH hS hL
        rw [hc6] at hk
        exact hk
      | false =>
        rw [hc6, cond_false, Bool.and_eq_true] at ho2
        refine va_mmin hx hb (by rw [hml, hL.1]) hown (hts _ (wOK_spec ho2.2)) (hts _ mm_min_s) (hts _ mm_i) (hts _ mm_min_c) (Nat.le_trans h1 hRf) h5 (Nat.le_trans h3 hRc) (Nat.le_trans h4 hRs) hd ?_
        have hk := k H locs ls hH hS hL
        rw [hc6] at hk
        exact hk
  · cases hs
end MMX
/-! The walk: what the abstract machine answers, the machine does -/
section WLK
variable {D : va_G} {tc : Nat → ClassId} {B b0 : Nat} {scr : Cell} {sa : Nat → Nat} {p : Program} {l : Launch} {e : Env} {R : Room} {s : State} {m : MethodId} {args : Array Value} {below : List Frame} {meth : Method} {c : Code} {H : Heap} {locs : List Loc} {Q : State → Prop} {y : Nat} {ls : Array Slot} {h : aHp}
theorem st_all {en : aEn} {u : Nat × Nat} {f : aFr} {r : aRes} (C0 : cxP D tc B scr sa p R s m args meth c y) (ho : opOK y f.1 en = true) (hd : decode (bc y) f.1 = .ok (en.1, en.2.1)) (hs : aStep y en u f h = some r) (hH : hRel D tc B b0 scr h H) (hS : va_S (Aq B) s.heap H locs) (hL : lRel B b0 ls (mL y) f.2.1) (k : wNext D tc B b0 scr p l e R s m args below meth c Q y r) : W p l e R s m args below meth c H locs u.1 u.2 Q (F0 m f.1 ls (f.2.2.map (trV B b0))) := by
  obtain ⟨i, n, v, a, b, cc, d⟩ := en
  obtain ⟨pc, L, st⟩ := f
  obtain ⟨u1, u2⟩ := u
  cases i with
  | iconst => exact st_iconst C0 ho hd hs hH hS hL k
  | bipush => exact st_bipush C0 ho hd hs hH hS hL k
  | sipush => exact st_sipush C0 ho hd hs hH hS hL k
  | lconst => exact st_lconst C0 ho hd hs hH hS hL k
  | fconst => exact st_fconst C0 ho hd hs hH hS hL k
  | ldc_w => exact st_ldc_w C0 ho hd hs hH hS hL k
  | ldc2_w => exact st_ldc2_w C0 ho hd hs hH hS hL k
  | iload => exact st_iload C0 ho hd hs hH hS hL k
  | iload_n => exact st_iload_n C0 ho hd hs hH hS hL k
  | lload => exact st_lload C0 ho hd hs hH hS hL k
  | lload_n => exact st_lload_n C0 ho hd hs hH hS hL k
  | fload => exact st_fload C0 ho hd hs hH hS hL k
  | aload => exact st_aload C0 ho hd hs hH hS hL k
  | aload_n => exact st_aload_n C0 ho hd hs hH hS hL k
  | istore => exact st_istore C0 ho hd hs hH hS hL k
  | istore_n => exact st_istore_n C0 ho hd hs hH hS hL k
  | fstore => exact st_fstore C0 ho hd hs hH hS hL k
  | astore => exact st_astore C0 ho hd hs hH hS hL k
  | astore_n => exact st_astore_n C0 ho hd hs hH hS hL k
  | lstore => exact st_lstore C0 ho hd hs hH hS hL k
  | lstore_n => exact st_lstore_n C0 ho hd hs hH hS hL k
  | iinc => exact st_iinc C0 ho hd hs hH hS hL k
  | iadd => exact st_iadd C0 ho hd hs hH hS hL k
  | isub => exact st_isub C0 ho hd hs hH hS hL k
  | imul => exact st_imul C0 ho hd hs hH hS hL k
  | idiv => exact st_idiv C0 ho hd hs hH hS hL k
  | irem => exact st_irem C0 ho hd hs hH hS hL k
  | iand => exact st_iand C0 ho hd hs hH hS hL k
  | ior => exact st_ior C0 ho hd hs hH hS hL k
  | ixor => exact st_ixor C0 ho hd hs hH hS hL k
  | ishl => exact st_ishl C0 ho hd hs hH hS hL k
  | ishr => exact st_ishr C0 ho hd hs hH hS hL k
  | iushr => exact st_iushr C0 ho hd hs hH hS hL k
  | ladd => exact st_ladd C0 ho hd hs hH hS hL k
  | lsub => exact st_lsub C0 ho hd hs hH hS hL k
  | lmul => exact st_lmul C0 ho hd hs hH hS hL k
  | lrem => exact st_lrem C0 ho hd hs hH hS hL k
  | lcmp => exact st_lcmp C0 ho hd hs hH hS hL k
  | i2l => exact st_i2l C0 ho hd hs hH hS hL k
  | l2i => exact st_l2i C0 ho hd hs hH hS hL k
  | i2f => exact st_i2f C0 ho hd hs hH hS hL k
  | l2f => exact st_l2f C0 ho hd hs hH hS hL k
  | fdiv => exact st_fdiv C0 ho hd hs hH hS hL k
  | f2d => exact st_f2d C0 ho hd hs hH hS hL k
  | dcmp => exact st_dcmp C0 ho hd hs hH hS hL k
  | fcmp => exact st_fcmp C0 ho hd hs hH hS hL k
  | dup => exact st_dup C0 ho hd hs hH hS hL k
  | dup2 => exact st_dup2 C0 ho hd hs hH hS hL k
  | goto => exact st_goto C0 ho hd hs hH hS hL k
  | ifCond => exact st_ifCond C0 ho hd hs hH hS hL k
  | if_icmp => exact st_if_icmp C0 ho hd hs hH hS hL k
  | getfield => exact st_getfield C0 ho hd hs hH hS hL k
  | putfield => exact st_putfield C0 ho hd hs hH hS hL k
  | iaload => exact st_iaload C0 ho hd hs hH hS hL k
  | baload => exact st_baload C0 ho hd hs hH hS hL k
  | laload => exact st_laload C0 ho hd hs hH hS hL k
  | daload => exact st_daload C0 ho hd hs hH hS hL k
  | aaload => exact st_aaload C0 ho hd hs hH hS hL k
  | iastore => exact st_iastore C0 ho hd hs hH hS hL k
  | bastore => exact st_bastore C0 ho hd hs hH hS hL k
  | lastore => exact st_lastore C0 ho hd hs hH hS hL k
  | dastore => exact st_dastore C0 ho hd hs hH hS hL k
  | aastore => exact st_aastore C0 ho hd hs hH hS hL k
  | arraylength => exact st_arraylength C0 ho hd hs hH hS hL k
  | newarray => exact st_newarray C0 ho hd hs hH hS hL k
  | anewarray => exact st_anewarray C0 ho hd hs hH hS hL k
  | new => exact st_new C0 ho hd hs hH hS hL k
  | tableswitch => exact st_tsw C0 ho hd hs hH hS hL k
  | multianewarray => exact st_multi C0 ho hd hs hH hS hL k
  | invokespecial => exact st_objinit C0 ho hd hs hH hS hL k
  | invokestatic => exact st_mm C0 ho hd hs hH hS hL k
  | _ => simp [aStep] at hs
end WLK
def wsz (y : Nat) : List Cond := cwz y :: BIG
def rmz (y : Nat) : Room := { frames := fr y, cells := mcT y, slots := msT y, locals := lo y }
def mOK (z : Nat) : Bool := wOK (zi z) (cond (isS z) (.static (mn z)) (.instanceMethod (mn z))) && (wOK (zn z) (.initialized (cn (ow z))) && (decide ((mn z).cls = cn (ow z)) && (plainName (mn z).cls && (decide ((mn z).cls ≠ "java/lang/invoke/MethodHandle" ∧ (mn z).cls ≠ "java/lang/invoke/VarHandle") && (isI z == decide ((mn z).name = "<init>"))))))
theorem cw_good (z : Nat) : goodWord (cwz z) = true := by
  unfold cwz
  cases hh z <;> rfl
theorem mOK_1 : (List.range 100).all mOK = true := by decide +kernel
theorem mOK_2 : (List.range 114).all (fun k => mOK (100 + k)) = true := by decide +kernel
theorem mOK_at {z : Nat} (hz : z < 214) : mOK z = true := by
  by_cases q : z < 100
  · exact List.all_eq_true.mp mOK_1 z (List.mem_range.mpr q)
  · have h9 := List.all_eq_true.mp mOK_2 (z - 100) (List.mem_range.mpr (by omega))
    have e : 100 + (z - 100) = z := by omega
    rw [e] at h9
    exact h9
theorem m_spec {z : Nat} (hz : z < 214) : cwz z ∈ BIG ∧ (cond (isS z) (Cond.static (mn z)) (.instanceMethod (mn z))) ∈ BIG ∧ Cond.initialized (cn (ow z)) ∈ BIG ∧ (mn z).cls = cn (ow z) ∧ plainName (mn z).cls = true ∧ ((mn z).cls ≠ "java/lang/invoke/MethodHandle" ∧ (mn z).cls ≠ "java/lang/invoke/VarHandle") ∧ (isI z = true → (mn z).name = "<init>") := by
  have h := mOK_at hz
  unfold mOK at h
  simp only [Bool.and_eq_true, decide_eq_true_eq, beq_iff_eq] at h
  obtain ⟨h2, h3, h4, h5, h6, h7⟩ := h
  exact ⟨List.mem_filter.mpr ⟨cw_in hz, cw_good z⟩, wOK_spec h2, wOK_spec h3, h4, h5, h6, fun q => by rw [h7] at q; exact of_decide_eq_true q⟩
theorem big_good {w : Cond} (h : w ∈ BIG) : w ∈ BIG ∧ ((w.onTables && w.keeps) = true ∨ ∃ ty, w = .arrayClass ty) := ⟨h, good_of_word (List.mem_filter.mp h).2⟩
theorem ws_good {z : Nat} (hz : z < 214) : ∀ w ∈ wsz z, w ∈ BIG ∧ ((w.onTables && w.keeps) = true ∨ ∃ ty, w = .arrayClass ty) := by
  intro w hw
  rcases List.mem_cons.mp hw with rfl | hw
  · exact big_good (m_spec hz).1
  · exact big_good hw
/-- a method's start and its ends, by the abstract machine's -/
def PcG (D : va_G) (tc : Nat → ClassId) (B b0 : Nat) (scr : Cell) (sa : Nat → Nat) (as : List Value) (h : aHp) : Array Value → State → Prop := va_Pc (as.map (trV B b0)) (fun U => hRel D tc B b0 scr h U.heap ∧ evP D tc B scr sa U)
def QcG (D : va_G) (tc : Nat → ClassId) (B b0 : Nat) (scr : Cell) (r : aOut) : Array Value → State → Outcome → State → Prop := fun _ st oc t => ∃ v, r.1 = .inl v ∧ oc = .returned (v.map (trV B b0)) ∧ hRel D tc B b0 scr r.2 t.heap ∧ va_F (Aq B) st t
def XcG (D : va_G) (tc : Nat → ClassId) (B b0 : Nat) (scr : Cell) (r : aOut) : String → State → State → Prop := fun E st t => ∃ x, r.1 = .inr x ∧ E = xn x ∧ hRel D tc B b0 scr r.2 t.heap ∧ va_F (Aq B) st t
def conP (l : Launch) (D : va_G) (tc : Nat → ClassId) (B b0 : Nat) (scr : Cell) (sa : Nat → Nat) (k : Nat) : Prop := ∀ (z : Nat) (as : List Value) (h : aHp) (r : aOut), z < 214 → (aEnt as).length ≤ mL z → aEx k z (0, 0) (0, aPad as (mL z), []) h = some r → vx_Met l (mn z) (wsz z) (rmz z) (PcG D tc B b0 scr sa as h) (QcG D tc B b0 scr r) (XcG D tc B b0 scr r) (mcT z) (msT z) (Aq B)
theorem PcG_blind {D : va_G} {tc : Nat → ClassId} {B b0 : Nat} {scr : Cell} {sa : Nat → Nat} {as : List Value} {h : aHp} : FrameBlind (PcG D tc B b0 scr sa as h) := fun _ _ g mk q => ⟨q.1, q.2.1, q.2.2.blind g mk _⟩
theorem ow_lt {z : Nat} (hz : z < 214) (hs : isS z = false) : ow z < 11 := by
  have h9 : (List.range 214).all (fun z => isS z || Nat.blt (ow z) 11) = true := by decide +kernel
  have h8 := List.all_eq_true.mp h9 z (List.mem_range.mpr hz)
  rw [hs, Bool.false_or] at h8
  exact Nat.le_of_ble_eq_true h8
/-- the words of nest mates among the tables' are those eight -/
theorem nst_all : lw_tbl.all (fun w => match w with | .methodLinkNest a b c d => decide (Cond.methodLinkNest a b c d ∈ nWs) | _ => true) = true := by decide +kernel
theorem nst_in {d k : Nat} {a : String} {x : MethodName} {b : String} (h : lw_tbl[d]? = some (.methodLinkNest a k x b)) : Cond.methodLinkNest a k x b ∈ nWs := by
  have h9 := List.all_eq_true.mp nst_all _ (List.mem_of_getElem? h)
  exact of_decide_eq_true h9
section CALL
variable {D : va_G} {tc : Nat → ClassId} {B b0 : Nat} {scr : Cell} {sa : Nat → Nat} {p : Program} {l : Launch} {e : Env} {R : Room} {s : State} {m : MethodId} {args : Array Value} {below : List Frame} {meth : Method} {c : Code} {H : Heap} {locs : List Loc} {Q : State → Prop} {y : Nat} {ls : Array Slot} {h : aHp}
theorem aArgs_spec : ∀ (n : Nat) (st as r : List Value), aArgs n st = some (as, r) → st = as.reverse ++ r ∧ as.length = n
  | 0, st, as, r, hq => by
    simp only [aArgs, Option.some.injEq, Prod.mk.injEq] at hq
    obtain ⟨rfl, rfl⟩ := hq
    exact ⟨rfl, rfl⟩
  | n + 1, [], as, r, hq => by simp [aArgs] at hq
  | n + 1, v :: st, as, r, hq => by
    cases h9 : aArgs n st with
    | none => simp [aArgs, h9] at hq
    | some q =>
      obtain ⟨as1, r1⟩ := q
      simp only [aArgs, h9, Option.some.injEq, Prod.mk.injEq] at hq
      obtain ⟨rfl, rfl⟩ := hq
      obtain ⟨h1, h2⟩ := aArgs_spec n st as1 r1 h9
      rw [h1]
      exact ⟨by simp, by simp [h2]⟩
theorem map_cat (t : List Value) : ((t.map (trV B b0)).map fun v => v.category) = t.map fun v => v.category := by
  rw [List.map_map]
  exact List.map_congr_left (fun w _ => trV_cat B b0 w)
theorem pre_at (C0 : cxP D tc B scr sa p R s m args meth c y) (hH : hRel D tc B b0 scr h H) (hS : va_S (Aq B) s.heap H locs) (as : List Value) : ∀ U : State, U.heap = H → s.WarmedH U.vm → PcG D tc B b0 scr sa as h (as.map (trV B b0)).toArray U := by
  intro U hU hW
  obtain ⟨-, -, -, -, -, -, -, -, -, -, hE, -⟩ := C0
  refine ⟨rfl, by rw [hU]; exact hH, hE.warm hW (fun a ha hq => ?_)⟩
  rw [hU]
  exact hS.2.1 a ha hq
/-- a call of any kind -/
theorem call_run {en : aEn} {u : Nat × Nat} {pc : Nat} {st as r : List Value} {r1 : aOut} (C0 : cxP D tc B scr sa p R s m args meth c y) (ho : opOK y pc en = true) (hd : decode (bc y) pc = .ok (en.1, en.2.1)) (hic : aIsCall en = true) (ha : aArgs en.2.2.2.2.1 st = some (as, r)) (hok : aCallOK y en u as r h = true) (hH : hRel D tc B b0 scr h H) (hS : va_S (Aq B) s.heap H locs) (hsz : ls.size = mL y)
    (hM : vx_Met l (mn en.2.2.2.1) (wsz en.2.2.2.1) (rmz en.2.2.2.1) (PcG D tc B b0 scr sa as h) (QcG D tc B b0 scr r1) (XcG D tc B b0 scr r1) (mcT en.2.2.2.1) (msT en.2.2.2.1) (Aq B)) :
    en.2.2.2.1 < 214 ∧ u.1 + mcT en.2.2.2.1 ≤ mcT y ∧ u.2 + msT en.2.2.2.1 ≤ msT y ∧ ∃ a9, vx_Run p l e R s m args below meth c H locs u.1 u.2 (mcT en.2.2.2.1) (msT en.2.2.2.1) (F0 m pc ls (st.map (trV B b0))) (r.map (trV B b0)) (QcG D tc B b0 scr r1 a9) (XcG D tc B b0 scr r1) (Aq B) := by
  obtain ⟨hx, hb, hml, hown, hts, hlk, hret, hini, -, -, hE, hRf, hRl, hRc, hRs⟩ := id C0
  obtain ⟨i, n, v, z, b, cc, d⟩ := en
  obtain ⟨u1, u2⟩ := u
  dsimp only at ha hok hM ho hd hic ⊢
  obtain ⟨hst, hlen⟩ := aArgs_spec _ _ _ _ ha
  have hpre := pre_at C0 hH hS as
  simp only [aCallOK, Bool.and_eq_true] at hok
  obtain ⟨k1, k2, k3, k4, k5, k6, k7⟩ := hok
  have k1 : fr z + 1 ≤ fr y := Nat.le_of_ble_eq_true k1
  have k2 : 8 + (mL z + 11) + lo z ≤ lo y := Nat.le_of_ble_eq_true k2
  have k3 : u1 + mcT z ≤ mcT y := Nat.le_of_ble_eq_true k3
  have k4 : u2 + msT z ≤ msT y := Nat.le_of_ble_eq_true k4
  have k5 : (r.map fun v => v.category).sum ≤ 8 := Nat.le_of_ble_eq_true k5
  have hW : 2 * (F0 m pc ls (st.map (trV B b0))).monitorRoom + (((r.map (trV B b0))).map fun v => v.category).sum ≤ 8 := lv_room (by rw [map_cat]; exact k5)
  have hf : u1 + mcT z ≤ R.cells ∧ u2 + msT z ≤ R.slots := ⟨Nat.le_trans k3 hRc, Nat.le_trans k4 hRs⟩
  have hfr : (rmz z).frames + 1 ≤ R.frames := Nat.le_trans k1 hRf
  have hlo : 8 + (mL z + 11) + (rmz z).locals ≤ R.locals := Nat.le_trans k2 hRl
  have fin9 : ∀ (hz : z < 214), (∀ w ∈ wsz z, ∀ (a' : Array Value) (U : State), s.WarmedH U.vm → w.before a' U = true) := fun hz => pay_in hts (ws_good hz)
  cases i with
  | invokestatic i0 =>
    have hc9 : Nat.ble 6 cc = false := by
      cases h9 : Nat.ble 6 cc with
      | false => rfl
      | true => simp [aIsCall, h9] at hic
    simp only [opOK, Bool.and_eq_true] at ho
    rw [hc9, cond_false] at ho
    simp only [Bool.and_eq_true, decide_eq_true_eq] at ho
    obtain ⟨hn, hz, hs, hpar, hlink⟩ := ho
    have hn := beq1 hn
    subst hn
    have hz : z < 214 := Nat.le_of_ble_eq_true hz
    obtain ⟨m1, m2, m3, m4, m5, m6, m7⟩ := m_spec hz
    rw [hs, cond_true] at m2
    refine ⟨hz, k3, k4, (as.map (trV B b0)).toArray, ?_⟩
    have hnl : ∀ sig, parseMethodDescriptor (mn z).desc = some sig → b = sig.parameters.length := fun sig hsig => by
      rw [hsig] at hpar
      exact (Option.some.inj hpar).symm
    have hini2 : (Cond.initialized (mn z).cls).before args s = true := by rw [m4]; exact hts _ m3
    cases hc0 : Nat.beq cc 0 with
    | true =>
      rw [hc0, cond_true] at hlink
      simp only [Bool.and_eq_true, decide_eq_true_eq] at hlink
      have hcw : cwz z = .code (mn z) (bc z) (mL z) (rt z) := by unfold cwz; rw [hlink.1]
      rw [hcw] at m1
      exact vx_runS (n := b) ⟨hx, hb, hml, hown, hts⟩ hM ⟨⟨rfl, rfl, hfr, hlo, fin9 hz, by rw [← hcw]; exact List.mem_cons_self, hts _ m1, hini2, m6, hnl, hts _ (wOK_spec hlink.2)⟩, hts _ m2⟩ ⟨PcG_blind, hpre⟩ rfl (by rw [List.length_map]; exact hlen) (by show ls.size = mL y; exact hsz) (by show st.map (trV B b0) = _; rw [hst, List.map_append, List.map_reverse]) hW hd hf
    | false =>
      rw [hc0, cond_false] at hlink
      cases hc3 : Nat.beq cc 3 with
      | true =>
        rw [hc3, cond_true] at hlink
        simp only [Bool.and_eq_true, decide_eq_true_eq] at hlink
        have hcw : cwz z = .code (mn z) (bc z) (mL z) (rt z) := by unfold cwz; rw [hlink.1]
        rw [hcw] at m1
        have hnest : va_Nw (.methodLinkNest (cn (ow y)) i0 (mn z) RX9) s := hE.2.2.1 _ (nst_in hlink.2)
        exact vx_runSN (n := b) (host := RX9) ⟨hx, hb, hml, hown, hts⟩ hM ⟨⟨⟨rfl, rfl, hfr, hlo, fin9 hz, by rw [← hcw]; exact List.mem_cons_self⟩, hts _ m1, hini2, m6, hnl, va_Nw.use rfl hnest⟩, hts _ m2, trivial⟩ ⟨PcG_blind, hpre⟩ rfl (by rw [List.length_map]; exact hlen) (by show ls.size = mL y; exact hsz) (by show st.map (trV B b0) = _; rw [hst, List.map_append, List.map_reverse]) hW hd hf
      | false =>
        rw [hc3, cond_false] at hlink
        simp only [Bool.and_eq_true] at hlink
        obtain ⟨T, hT⟩ := Option.isSome_iff_exists.mp hlink.2.1
        have hcw : cwz z = .codeWith (mn z) (bc z) (mL z) (rt z) T := by unfold cwz; rw [hT]
        rw [hcw] at m1
        exact vx_runSX (n := b) (hh := T) ⟨hx, hb, hml, hown, hts⟩ hM ⟨⟨rfl, rfl, hfr, hlo, fin9 hz, by rw [← hcw]; exact List.mem_cons_self⟩, hts _ m1, hini2, m6, hnl, hts _ (wOK_spec hlink.2.2), hts _ m2⟩ ⟨PcG_blind, hpre⟩ rfl (by rw [List.length_map]; exact hlen) (by show ls.size = mL y; exact hsz) (by show st.map (trV B b0) = _; rw [hst, List.map_append, List.map_reverse]) hW hd hf
  | invokevirtual i0 =>
    simp only [opOK, Bool.and_eq_true, Bool.not_eq_true', decide_eq_true_eq] at ho
    obtain ⟨hn, hz, hs, hc1, hhz, hpar, hlink, hsel⟩ := ho
    have hn := beq1 hn
    subst hn
    have hz : z < 214 := Nat.le_of_ble_eq_true hz
    obtain ⟨m1, m2, m3, m4, m5, m6, m7⟩ := m_spec hz
    rw [hs, cond_false] at m2
    rw [hc1, cond_true] at k7
    cases as with
    | nil => cases k7
    | cons w as1 =>
      cases w with
      | ref q =>
        obtain ⟨q1, q2⟩ := aK_spec k7
        have how : ow z < 11 := ow_lt hz hs
        obtain ⟨rr, -, cellV, gv1, gv2, gv3, -⟩ := objP hH how q1 q2 0 _ rfl
        have hcls := (hE.1.1 (ow z) _ (cl_at (ow z) how)).2.1
        refine ⟨hz, k3, k4, (Value.ref (adr B b0 q) :: as1.map (trV B b0)).toArray, ?_⟩
        have hnl : ∀ sig, parseMethodDescriptor (mn z).desc = some sig → as1.length = sig.parameters.length := fun sig hsig => by
          rw [hsig] at hpar
          have h8 : sig.parameters.length + 1 = b := Option.some.inj hpar
          have h9 : as1.length + 1 = b := hlen
          omega
        have hini2 : (Cond.initialized (mn z).cls).before args s = true := by rw [m4]; exact hts _ m3
        have hcw : cwz z = .code (mn z) (bc z) (mL z) (rt z) := by unfold cwz; rw [hhz]
        rw [hcw] at m1
        exact vx_runV (n := as1.length) (C := cn (ow z)) (As := as1.map (trV B b0)) ⟨hx, hb, hml, hown, hts⟩ hM ⟨⟨rfl, rfl, hfr, hlo, fin9 hz, by rw [← hcw]; exact List.mem_cons_self, hts _ m1, hini2, m6, hnl, hts _ (wOK_spec hlink)⟩, hts _ m2, hts _ (wOK_spec hsel)⟩ ⟨PcG_blind, ⟨cellV, gv1, by rw [gv3]; rfl, by rw [gv2]; exact hcls⟩, hpre⟩ rfl (by rw [List.length_map]) (by show ls.size = mL y; exact hsz) (by show st.map (trV B b0) = _; rw [hst]; simp [trV]) hW hd hf
      | _ => cases k7
  | invokespecial i0 =>
    have hc9 : Nat.beq cc 9 = false := by
      cases h9 : Nat.beq cc 9 with
      | false => rfl
      | true => simp [aIsCall, h9] at hic
    simp only [opOK, Bool.and_eq_true] at ho
    rw [hc9, cond_false] at ho
    simp only [Bool.and_eq_true, Bool.not_eq_true', decide_eq_true_eq] at ho
    obtain ⟨hn, hz, hs, hI, hrz, hhz, hpar, hlink⟩ := ho
    have hn := beq1 hn
    subst hn
    have hz : z < 214 := Nat.le_of_ble_eq_true hz
    obtain ⟨m1, m2, m3, m4, m5, m6, m7⟩ := m_spec hz
    rw [hs, cond_false] at m2
    have hcw : cwz z = .code (mn z) (bc z) (mL z) (rt z) := by unfold cwz; rw [hhz]
    rw [hcw, hrz] at m1
    have hmem : Cond.code (mn z) (bc z) (mL z) none ∈ wsz z := by
      have h8 : cwz z ∈ wsz z := List.mem_cons_self
      rw [hcw, hrz] at h8
      exact h8
    have hini2 : (Cond.initialized (mn z).cls).before args s = true := by rw [m4]; exact hts _ m3
    have hfst : ∃ q as1, as = Value.ref q :: as1 := by
      have hc1 : Nat.beq cc 1 = false := by
        cases h9 : Nat.beq cc 1 with
        | false => rfl
        | true =>
          have h8 := beq1 h9
          subst h8
          simp [Nat.beq] at hlink
      rw [hc1, cond_false] at k7
      have hc24 : (Nat.beq cc 2 || Nat.beq cc 4) = true := by
        cases h9 : Nat.beq cc 2 with
        | true => rfl
        | false =>
          rw [h9, cond_false] at hlink
          simp only [Bool.and_eq_true] at hlink
          rw [hlink.1]
          rfl
      rw [hc24, cond_true] at k7
      cases as with
      | nil => cases k7
      | cons w as1 =>
        cases w with
        | ref q => exact ⟨q, as1, rfl⟩
        | _ => cases k7
    obtain ⟨q, as1, rfl⟩ := hfst
    have hnl : ∀ sig, parseMethodDescriptor (mn z).desc = some sig → as1.length = sig.parameters.length := fun sig hsig => by
      rw [hsig] at hpar
      have h8 : sig.parameters.length + 1 = b := Option.some.inj hpar
      have h9 : as1.length + 1 = b := hlen
      omega
    refine ⟨hz, k3, k4, (Value.ref (adr B b0 q) :: as1.map (trV B b0)).toArray, ?_⟩
    cases hc2 : Nat.beq cc 2 with
    | true =>
      rw [hc2, cond_true] at hlink
      exact vx_runI (n := as1.length) (As := as1.map (trV B b0)) ⟨hx, hb, hml, hown, hts⟩ hM ⟨⟨rfl, rfl, hfr, hlo, fin9 hz, hmem, hts _ m1, hini2, m6, hnl, hts _ (wOK_spec hlink)⟩, m7 hI, hts _ m2⟩ ⟨PcG_blind, hpre⟩ rfl (by rw [List.length_map]) (by show ls.size = mL y; exact hsz) (by show st.map (trV B b0) = _; rw [hst]; simp [trV]) hW hd hf
    | false =>
      rw [hc2, cond_false] at hlink
      simp only [Bool.and_eq_true, decide_eq_true_eq] at hlink
      have hnest : va_Nw (.methodLinkNest (cn (ow y)) i0 (mn z) RX9) s := hE.2.2.1 _ (nst_in hlink.2)
      exact vx_runIN (n := as1.length) (host := RX9) (As := as1.map (trV B b0)) ⟨hx, hb, hml, hown, hts⟩ hM ⟨⟨⟨rfl, rfl, hfr, hlo, fin9 hz, hmem⟩, hts _ m1, hini2, m6, hnl, va_Nw.use rfl hnest⟩, m7 hI, hts _ m2⟩ ⟨PcG_blind, hpre⟩ rfl (by rw [List.length_map]) (by show ls.size = mL y; exact hsz) (by show st.map (trV B b0) = _; rw [hst]; simp [trV]) hW hd hf
  | _ => simp [aIsCall] at hic
end CALL

