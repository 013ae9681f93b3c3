/-! A method's surroundings, and how they pass to a method that it calls -/
def nWs : List Cond := [.methodLinkNest RX9 31 yX8_init RX9, .methodLinkNest RX9 34 yX4_init RX9, .methodLinkNest RX9 48 yX3_init RX9, .methodLinkNest RX2 31 yX5_init RX9, .methodLinkNest RX1 58 yX9_hasBit RX9, .methodLinkNest RX2 53 yX9_hasBit RX9, .methodLinkNest RX3 54 yX9_hasBit RX9, .methodLinkNest RX6 67 yX9_hasBit RX9]
def xWs : List Cond := [.castable (xn 0) (xn 0), .castable (xn 1) (xn 1), .castable (xn 2) (xn 2)]
def dWs : List Cond := [.declares ⟨"java/lang/RuntimeException", "<init>", "()V"⟩, .declares ⟨"java/lang/RuntimeException", "<init>", "(Ljava/lang/String;)V"⟩, .declares ⟨"java/lang/Exception", "<init>", "()V"⟩, .declares ⟨"java/lang/Exception", "<init>", "(Ljava/lang/String;)V"⟩, .declares ⟨"java/lang/Throwable", "<init>", "()V"⟩, .declares ⟨"java/lang/Throwable", "<init>", "(Ljava/lang/String;)V"⟩]
def oWs : List FieldType := [.array .int, .object RX7, .object RX8, .object RX5]
def txT (k : Nat) : String := cond (Nat.beq k 0) "there is none of this number" (cond (Nat.beq k 1) "an argument is out of range" "this is not possible now")
def BIG : List Cond := lw_tbl.filter goodWord
def evP (D : va_G) (tc : Nat → ClassId) (B : Nat) (scr : Cell) (sa : Nat → Nat) (U : State) : Prop :=
  va_K D vwCl [] U ∧ (∀ k, k < 8 → ArrOfT U (tc k) (aty k) ∧ va_RA U (tc k) (aty k)) ∧ (∀ w ∈ nWs, va_Nw w U) ∧ (∀ w ∈ xWs, va_Nw w U) ∧ (∀ w ∈ dWs, va_Nw w U) ∧ (∀ t ∈ oWs, (Cond.arrayOver t).before #[] U = true) ∧
  (∀ k, k < 3 → vk_R RX9 (isT k) (txT k) (sa k) U) ∧ (vx_Zq Bundle.tN "UNASSIGNED_STACK" Bundle.steD (Aq B) U U.heap ∧ vx_Zq Bundle.tN "SUPPRESSED_SENTINEL" Bundle.listD (Aq B) U U.heap) ∧ U.isArrayOf scr .int ∧ scr.vm ≠ .unknown ∧
  (∀ j k, j ≠ k → j < 3 → k < 3 → va_Nc (xn k) (xn j) U)
theorem wOK_spec {d : Nat} {w : Cond} (h : wOK d w = true) : w ∈ BIG := by
  unfold wOK at h
  rw [Bool.and_eq_true, decide_eq_true_eq] at h
  exact List.mem_filter.mpr ⟨List.mem_of_getElem? h.1, h.2⟩
theorem nWs_warm {w : Cond} (hw : w ∈ nWs) {s U : State} (hW : s.WarmedH U.vm) (h : va_Nw w s) : va_Nw w U := by
  simp only [nWs, List.mem_cons, List.not_mem_nil, or_false] at hw
  rcases hw with rfl | rfl | rfl | rfl | rfl | rfl | rfl | rfl <;> exact va_Nw.warmM hW h
theorem xWs_warm {w : Cond} (hw : w ∈ xWs) {s U : State} (hW : s.WarmedH U.vm) (h : va_Nw w s) : va_Nw w U := by
  simp only [xWs, List.mem_cons, List.not_mem_nil, or_false] at hw
  rcases hw with rfl | rfl | rfl <;> exact va_Nw.warmC hW h
theorem dWs_warm {w : Cond} (hw : w ∈ dWs) {s U : State} (hW : s.WarmedH U.vm) (h : va_Nw w s) : va_Nw w U := by
  simp only [dWs, List.mem_cons, List.not_mem_nil, or_false] at hw
  rcases hw with rfl | rfl | rfl | rfl | rfl | rfl <;> exact va_Nw.warmD hW h
theorem evP.warm {D : va_G} {tc : Nat → ClassId} {B : Nat} {scr : Cell} {sa : Nat → Nat} {s U : State} (h : evP D tc B scr sa s) (hW : s.WarmedH U.vm) (hz : ∀ a : Nat, a < s.heap.size → ¬ Aq B a → U.heap[a]? = s.heap[a]?) : evP D tc B scr sa U := by
  obtain ⟨h1, h2, h3, h4, h5, h6, h7, h8, h9, h10, h11⟩ := h
  refine ⟨va_K.moved hW.alike h1, fun k hk => ⟨arrOfT_moved hW.alike (h2 k hk).1, (h2 k hk).2.moved hW.alike⟩, fun w hw => nWs_warm hw hW (h3 w hw), fun w hw => xWs_warm hw hW (h4 w hw), fun w hw => dWs_warm hw hW (h5 w hw), fun t ht => ?_, fun k hk => vk_R.warm hW (h7 k hk), ⟨(h8.1.moved hW.alike).kept hz, (h8.2.moved hW.alike).kept hz⟩, State.isArrayOf_alike hW.alike h9, h10, fun j k hn hj hk => va_Nc.moved hW.alike (h11 j k hn hj hk)⟩
  have h1 := h6 t ht
  rw [← Cond.arrayOver_setVmC (vm' := U.vm) hW.alike t] at h1
  exact h1
theorem evP.blind {D : va_G} {tc : Nat → ClassId} {B : Nat} {scr : Cell} {sa : Nat → Nat} {U : State} (g : JFrame) (mk : MethodId) (a : Array Value) (h : evP D tc B scr sa U) : evP D tc B scr sa (U.calling g mk a) := by
  obtain ⟨h1, h2, h3, h4, h5, h6, h7, h8, h9, h10, h11⟩ := h
  have hv : U.vm = (U.calling g mk a).vm := rfl
  have hal : U.vm.Alike (U.calling g mk a).vm := Vm.Alike.refl U.vm
  refine ⟨va_K.moved hal h1, fun k hk => ⟨arrOfT_moved hal (h2 k hk).1, (h2 k hk).2.moved hal⟩, fun w hw => ?_, fun w hw => ?_, fun w hw => ?_, fun t ht => h6 t ht, fun k hk => vk_R.same (u := U) rfl (h7 k hk), ⟨h8.1.moved hal, h8.2.moved hal⟩, State.isArrayOf_alike hal h9, h10, fun j k hn hj hk => va_Nc.moved hal (h11 j k hn hj hk)⟩
  · simp only [nWs, List.mem_cons, List.not_mem_nil, or_false] at hw
    have := h3 w (by simp only [nWs, List.mem_cons, List.not_mem_nil, or_false]; exact hw)
    rcases hw with rfl | rfl | rfl | rfl | rfl | rfl | rfl | rfl <;> exact va_Nw.same rfl hv this
  · simp only [xWs, List.mem_cons, List.not_mem_nil, or_false] at hw
    have := h4 w (by simp only [xWs, List.mem_cons, List.not_mem_nil, or_false]; exact hw)
    rcases hw with rfl | rfl | rfl <;> exact va_Nw.same rfl hv this
  · simp only [dWs, List.mem_cons, List.not_mem_nil, or_false] at hw
    have := h5 w (by simp only [dWs, List.mem_cons, List.not_mem_nil, or_false]; exact hw)
    rcases hw with rfl | rfl | rfl | rfl | rfl | rfl <;> exact va_Nw.same rfl hv this
/-- a method's walk: the machine, its code, its class, the words, the handlers, the surroundings, the room -/
def cxP (D : va_G) (tc : Nat → ClassId) (B : Nat) (scr : Cell) (sa : Nat → Nat) (p : Program) (R : Room) (s : State) (m : MethodId) (args : Array Value) (meth : Method) (c : Code) (y : Nat) : Prop :=
  p.tables.exec = Jvm.exec ∧ c.code = bc y ∧ c.maxLocals = mL y ∧ s.vm.findClass (cn (ow y)) = some m.cls ∧ (∀ w ∈ BIG, w.before args s = true) ∧ meth.locks = false ∧ meth.sig.returnType = rt y ∧ (isI y = true → meth.name = "<init>") ∧
  (y < 214 → hh y = none → ∀ x ∈ c.exceptionTable.toList, False) ∧ (∀ T, hh y = some T → c.exceptionTable.toList = tableOf T) ∧ evP D tc B scr sa s ∧ fr y ≤ R.frames ∧ lo y ≤ R.locals ∧ mcT y ≤ R.cells ∧ msT y ≤ R.slots
