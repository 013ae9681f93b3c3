/-! The law's surroundings at its start -/
def inT (w : Cond) : Bool := lw_tbl.any (fun x => decide (x = w))
theorem inT_spec {w : Cond} (h : inT w = true) : w ∈ lw_tbl := by
  obtain ⟨x, hx, e⟩ := List.any_eq_true.mp h
  rw [← of_decide_eq_true e]
  exact hx
def kN (k : Nat) : Bool := match vwCl[k]? with
  | some q => (List.range q.2.2).all (fun j => wOK (zf k j) (u_lay q.1 q.2.1 j)) && wOK (zk k) (.instantiable q.1 q.2.2)
  | none => true
theorem kN_ok : (List.range 11).all kN = true := by decide +kernel
theorem known {s : State} {A : Array Value} (hts : ∀ w ∈ lw_tbl, w.before A s = true) : ∃ D : va_G, ∀ (k : Nat) (q : vw_C), vwCl[k]? = some q → u_Kn s q.1 q.2.1 q.2.2 (D.1 k) (D.2 k) := by
  have h : ∀ k : Nat, ∃ (c : ClassId) (i : Nat → Nat), ∀ q : vw_C, vwCl[k]? = some q → u_Kn s q.1 q.2.1 q.2.2 c i := by
    intro k
    cases hq : vwCl[k]? with
    | none => exact ⟨0, fun _ => 0, fun q h => by cases h⟩
    | some q =>
      have hk : k < 11 := (List.getElem?_eq_some_iff.mp hq).1
      have h1 := List.all_eq_true.mp kN_ok k (List.mem_range.mpr hk)
      unfold kN at h1
      rw [hq] at h1
      dsimp only at h1
      rw [Bool.and_eq_true, List.all_eq_true] at h1
      have hin : ∀ w ∈ u_ws q.1 q.2.1 q.2.2, w ∈ lw_tbl := by
        intro w hw
        obtain ⟨j, hj, rfl⟩ := List.mem_map.mp hw
        exact (List.mem_filter.mp (wOK_spec (h1.1 j hj))).1
      obtain ⟨c, i, h2⟩ := u_known (n := q.2.2) hts hin (hts _ (List.mem_filter.mp (wOK_spec h1.2)).1)
      exact ⟨c, i, fun q' h => by cases h; exact h2⟩
  exact ⟨(fun k => (h k).choose, fun k => (h k).choose_spec.choose), fun k q hq => (h k).choose_spec.choose_spec q hq⟩
theorem arr_p {s : State} {A : Array Value} {ty : FieldType} (hp : ∀ C, ty ≠ .object C) (h : (Cond.arrayClass ty).before A s = true) : ∃ c : ClassId, ArrOfT s c ty ∧ va_RA s c ty := by
  obtain ⟨c, kA, comp, h1, h2, h3⟩ := Cond.arrayClass_spec h
  refine ⟨c, fun n z => ⟨fun k h => (by cases h), kA, h2, comp, h3⟩, ?_⟩
  cases ty with
  | object C => exact absurd rfl (hp C)
  | _ => exact h1
theorem arr_a {s : State} {A : Array Value} {t : FieldType} (h : (Cond.arrayOver (.array t)).before A s = true) : ∃ c : ClassId, ArrOfT s c (.array t) ∧ va_RA s c (.array t) := by
  obtain ⟨comp, c, kA, h1, h2, h3, h4⟩ := Cond.arrayOver_specA h
  exact ⟨c, fun n z => ⟨fun k h => (by cases h), kA, h2, comp, h3⟩, h4⟩
theorem arr_o {s : State} {A : Array Value} {C : String} (h : (Cond.arrayOver (.object C)).before A s = true) : ∃ c : ClassId, ArrOfT s c (.object C) ∧ va_RA s c (.object C) := by
  obtain ⟨comp, c, kA, h1, h0, h2, h3, h4⟩ := Cond.arrayOver_spec h
  exact ⟨c, fun n z => ⟨fun k h => (by cases h), kA, h2, comp, h3⟩, kA, comp, h2, h3, h1, h4⟩
theorem arrs {s : State} {A : Array Value} (hts : ∀ w ∈ lw_tbl, w.before A s = true) : ∃ tc : Nat → ClassId, ∀ k, k < 8 → ArrOfT s (tc k) (aty k) ∧ va_RA s (tc k) (aty k) := by
  have g : ∀ {d : Nat} {w : Cond}, wOK d w = true → w.before A s = true := fun h => hts _ (List.mem_filter.mp (wOK_spec h)).1
  have g2 : ∀ {w : Cond}, inT w = true → w.before A s = true := fun h => hts _ (inT_spec h)
  have h : ∀ k : Nat, ∃ c : ClassId, k < 8 → ArrOfT s c (aty k) ∧ va_RA s c (aty k) := by
    intro k
    match k with
    | 0 => obtain ⟨c, h⟩ := arr_p (ty := .int) (fun C h => by cases h) (g (d := 136) (by decide +kernel)); exact ⟨c, fun _ => h⟩
    | 1 => obtain ⟨c, h⟩ := arr_p (ty := .boolean) (fun C h => by cases h) (g (d := 137) (by decide +kernel)); exact ⟨c, fun _ => h⟩
    | 2 => obtain ⟨c, h⟩ := arr_p (ty := .long) (fun C h => by cases h) (g (d := 174) (by decide +kernel)); exact ⟨c, fun _ => h⟩
    | 3 => obtain ⟨c, h⟩ := arr_p (ty := .double) (fun C h => by cases h) (g (d := 1502) (by decide +kernel)); exact ⟨c, fun _ => h⟩
    | 4 => obtain ⟨c, h⟩ := arr_a (t := .int) (g2 (by decide +kernel)); exact ⟨c, fun _ => h⟩
    | 5 => obtain ⟨c, h⟩ := arr_o (C := RX7) (g2 (by decide +kernel)); exact ⟨c, fun _ => h⟩
    | 6 => obtain ⟨c, h⟩ := arr_o (C := RX8) (g2 (by decide +kernel)); exact ⟨c, fun _ => h⟩
    | 7 => obtain ⟨c, h⟩ := arr_o (C := RX5) (g2 (by decide +kernel)); exact ⟨c, fun _ => h⟩
    | k + 8 => exact ⟨0, fun h => by omega⟩
  exact ⟨fun k => (h k).choose, fun k hk => (h k).choose_spec hk⟩
theorem ws_in : (nWs ++ (xWs ++ (dWs ++ oWs.map Cond.arrayOver))).all inT = true := by decide +kernel
theorem ws_ot : (nWs ++ (xWs ++ dWs)).all Cond.onTables = true := by decide +kernel
theorem str_in : ∀ k, k < 3 → inT (.stringRef RX9 (isT k) (txT k)) = true := by decide +kernel
theorem thr_in : inT (.laysStatic Bundle.tN "UNASSIGNED_STACK" Bundle.steD) = true ∧ inT (.laysStatic Bundle.tN "SUPPRESSED_SENTINEL" Bundle.listD) = true ∧ inT (.initialized Bundle.tN) = true := by decide +kernel
theorem ev_start {p : Program} {s : State} {m : MethodId} {meth : Method} {c : Code} {b L : Nat} {xs : Nat → Int32} (C0 : lw_At p s m meth c b L xs) : ∃ (D : va_G) (tc : Nat → ClassId) (scr : Cell) (sa : Nat → Nat), evP D tc s.heap.size scr sa s ∧ s.heap[b]? = some scr ∧ scr.slots.size = L ∧ ∀ j, j < L → scr.slots[j]? = some (.int (xs j)) := by
  obtain ⟨hx, hb, hr, hml, hown, hts, hX, hbl, hlocks, hgv⟩ := C0
  obtain ⟨scr, x1, x2, x3, x4, x5⟩ := hX
  obtain ⟨D, hD⟩ := known hts
  obtain ⟨tc, htc⟩ := arrs hts
  have hall : ∀ w ∈ nWs ++ (xWs ++ dWs), va_Nw w s := fun w hw => va_Nw.of (List.all_eq_true.mp ws_ot w hw) (hts w (inT_spec (List.all_eq_true.mp ws_in w (by
    simp only [List.mem_append] at hw ⊢
    rcases hw with h | h | h
    · exact Or.inl h
    · exact Or.inr (Or.inl h)
    · exact Or.inr (Or.inr (Or.inl h))))))
  have hov : ∀ t ∈ oWs, (Cond.arrayOver t).before #[] s = true := fun t ht => (show (Cond.arrayOver t).before #[Value.ref b] s = true from hts _ (inT_spec (List.all_eq_true.mp ws_in _ (List.mem_append_right _ (List.mem_append_right _ (List.mem_append_right _ (List.mem_map.mpr ⟨t, ht, rfl⟩)))))))
  have hs := flat_of_before _ hgv
  have h9 : s.vm.findClass RX9 = some (D.1 9) := (hD 9 _ rfl).2.1
  have hstr : ∀ k, k < 3 → ∃ a : Nat, vk_R RX9 (isT k) (txT k) a s := by
    intro k hk
    have h1 := hts _ (inT_spec (str_in k hk))
    obtain ⟨-, -, -, a, -, -, -, -, -, h2⟩ := Cond.stringRef_spec h9 h1
    exact ⟨a, vk_R.of h1 h2⟩
  have hstr2 : ∀ k, ∃ a : Nat, k < 3 → vk_R RX9 (isT k) (txT k) a s := by
    intro k
    by_cases hk : k < 3
    · obtain ⟨a, h⟩ := hstr k hk
      exact ⟨a, fun _ => h⟩
    · exact ⟨0, fun h => absurd h hk⟩
  have hA : ∀ a : Nat, a < s.heap.size → ¬ Aq s.heap.size a := fun a h => Nat.not_le.mpr h
  have c01 := va_Nc.of (hs (Cond.not (.castable (xn 0) (xn 1))) (by decide +kernel))
  have c02 := va_Nc.of (hs (Cond.not (.castable (xn 0) (xn 2))) (by decide +kernel))
  have c10 := va_Nc.of (hs (Cond.not (.castable (xn 1) (xn 0))) (by decide +kernel))
  have c12 := va_Nc.of (hs (Cond.not (.castable (xn 1) (xn 2))) (by decide +kernel))
  have c20 := va_Nc.of (hs (Cond.not (.castable (xn 2) (xn 0))) (by decide +kernel))
  have c21 := va_Nc.of (hs (Cond.not (.castable (xn 2) (xn 1))) (by decide +kernel))
  refine ⟨D, tc, scr, fun k => (hstr2 k).choose, ⟨⟨hD, fun k q h => by simp at h⟩, htc, fun w hw => hall w (List.mem_append_left _ hw), fun w hw => hall w (List.mem_append_right _ (List.mem_append_left _ hw)), fun w hw => hall w (List.mem_append_right _ (List.mem_append_right _ hw)), hov, fun k hk => (hstr2 k).choose_spec hk, ⟨vx_Zqof (hts _ (inT_spec thr_in.1)) (hts _ (inT_spec thr_in.2.2)) (hs _ (by decide +kernel)) hA, vx_Zqof (hts _ (inT_spec thr_in.2.1)) (hts _ (inT_spec thr_in.2.2)) (hs _ (by decide +kernel)) hA⟩, x2, x3, fun j k hn hj hk => ?_⟩, x1, x4, x5⟩
  rcases (show j = 0 ∨ j = 1 ∨ j = 2 by omega) with rfl | rfl | rfl <;> rcases (show k = 0 ∨ k = 1 ∨ k = 2 by omega) with rfl | rfl | rfl
  · exact absurd rfl hn
  · exact c10
  · exact c20
  · exact c01
  · exact absurd rfl hn
  · exact c21
  · exact c02
  · exact c12
  · exact absurd rfl hn
/-- a heap that says the same, as far as the cells and their lengths go -/
def hSame (h h' : aHp) : Prop := h'.1.2 = h.1.2 ∧ ∀ a, a < h.1.2 → (h'.2.1 a).1 = (h.2.1 a).1 ∧ (h'.2.1 a).2.1 = (h.2.1 a).2.1 ∧ ∀ j, j < (h.2.1 a).2.1 → svl h' a j = svl h a j ∧ ((h.2.1 a).1 = 8 → h'.2.2.1 a j = h.2.2.1 a j)
theorem arrV_same {c : ClassId} {n : Nat} {f g : Nat → Value} (h : ∀ j, j < n → f j = g j) : arrV c n f = arrV c n g := by
  unfold arrV
  congr 1
  congr 1
  funext j
  exact h j.val j.isLt
/-- objects have as many fields as their class -/
def hLen (h : aHp) : Prop := ∀ a, a < h.1.2 → 100 ≤ (h.2.1 a).1 → ∀ r : vw_C, vwCl[(h.2.1 a).1 - 100]? = some r → r.2.2 = (h.2.1 a).2.1
theorem hRel.same {D : va_G} {tc : Nat → ClassId} {B b0 : Nat} {scr : Cell} {h h' : aHp} {H : Heap} (r : hRel D tc B b0 scr h H) (e : hSame h h') (hl : hLen h) (hm : h'.1.1 = 1) : hRel D tc B b0 scr h' H := by
  obtain ⟨r1, r2, r3, r4, r5, r6⟩ := r
  obtain ⟨e1, e2⟩ := e
  refine ⟨r1, by rw [e1]; exact r2, fun z => by omega, by rw [e1]; exact r4, by rw [(e2 0 r4).1]; exact r5, fun a ha => ?_⟩
  rw [e1] at ha
  obtain ⟨k1, k2, k3⟩ := e2 a ha
  obtain ⟨c1, c2, c3⟩ := r6 a ha
  refine ⟨fun k => ?_, fun k => ?_, fun k => ?_⟩
  · rw [k1] at k ⊢
    rw [k2, c1 k]
    exact congrArg some (arrV_same (fun j hj => by rw [(k3 j hj).1]))
  · rw [k1] at k
    rw [k2]
    obtain ⟨d1, d2, d3, d4⟩ := c2 k
    exact ⟨d1, d2, d3, fun j hj => by rw [d4 j hj, (k3 j hj).2 k]⟩
  · rw [k1] at k ⊢
    obtain ⟨q, d1, d2⟩ := c3 k
    refine ⟨q, d1, d2.to (fun j hj => ?_)⟩
    rw [(k3 j (by rw [← hl a ha k q d1]; exact hj)).1]
