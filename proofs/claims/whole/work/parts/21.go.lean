/-! A stretch of a body, its calls whole; the law's claim out of its run on the abstract machine -/
noncomputable def aGo (K : Nat) : Nat → Nat → Nat × Nat → aFr → aHp → Option aRes
  | 0, _, u, f, h => some (f, u, h)
  | n + 1, y, u, f, h => match cd y f.1 with
    | none => none
    | some e => cond (aIsEnd e) none (cond (aIsThrow e) none (cond (aIsCall e)
        (match aArgs e.2.2.2.2.1 f.2.2 with
          | none => none
          | some (as, r) => cond (aCallOK y e u as r h) (match aEx K e.2.2.2.1 (0, 0) (0, aPad as (mL e.2.2.2.1), []) h with
            | some (.inl v, h1) => aGo K n y (u.1 + mcT e.2.2.2.1, u.2 + msT e.2.2.2.1) (f.1 + 3, f.2.1, v.toList ++ r) h1
            | _ => none) none)
        (match aStep y e u f h with
          | none => none
          | some (f', u', h') => aGo K n y u' f' h')))
theorem aGo_add {K : Nat} : ∀ (n m : Nat) {y : Nat} {u u1 : Nat × Nat} {f f1 : aFr} {h h1 : aHp} {r : Option aRes}, aGo K n y u f h = some (f1, u1, h1) → aGo K m y u1 f1 h1 = r → aGo K (n + m) y u f h = r
  | 0, m, y, u, u1, f, f1, h, h1, r, hg, hr => by
    cases hg
    rw [Nat.zero_add]
    exact hr
  | n + 1, m, y, u, u1, f, f1, h, h1, r, hg, hr => by
    rw [show n + 1 + m = (n + m) + 1 by omega]
    unfold aGo at hg ⊢
    cases hc : cd y f.1 with
    | none => rw [hc] at hg; cases hg
    | some e =>
      rw [hc] at hg
      dsimp only at hg ⊢
      cases h1 : aIsEnd e with
      | true => rw [h1] at hg; cases hg
      | false =>
        rw [h1] at hg
        cases h2 : aIsThrow e with
        | true => rw [h2] at hg; cases hg
        | false =>
          rw [h2] at hg
          cases h3 : aIsCall e with
          | false =>
            rw [h3] at hg
            dsimp only [cond_false, cond_true] at hg ⊢
            cases hs : aStep y e u f h with
            | none => rw [hs] at hg; cases hg
            | some q =>
              rw [hs] at hg
              exact aGo_add n m hg hr
          | true =>
            rw [h3] at hg
            dsimp only [cond_false, cond_true] at hg ⊢
            cases ha : aArgs e.2.2.2.2.1 f.2.2 with
            | none => rw [ha] at hg; cases hg
            | some q =>
              obtain ⟨as, r0⟩ := q
              rw [ha] at hg
              dsimp only at hg ⊢
              cases hk : aCallOK y e u as r0 h with
              | false => rw [hk] at hg; cases hg
              | true =>
                rw [hk] at hg
                dsimp only [cond_false, cond_true] at hg ⊢
                cases hx : aEx K e.2.2.2.1 (0, 0) (0, aPad as (mL e.2.2.2.1), []) h with
                | none => rw [hx] at hg; cases hg
                | some w =>
                  obtain ⟨w1, w2⟩ := w
                  rw [hx] at hg
                  cases w1 with
                  | inl v => exact aGo_add n m hg hr
                  | inr x => cases hg
section GO
variable {l : Launch} {D : va_G} {tc : Nat → ClassId} {B b0 : Nat} {scr : Cell} {sa : Nat → Nat} {p : Program} {e : Env} {R : Room} {s : State} {m : MethodId} {args : Array Value} {below : List Frame} {meth : Method} {c : Code} {Q : State → Prop} {y : Nat}
theorem walk_go (hl : l.stackTraces = false) {K : Nat} (C0 : cxP D tc B scr sa p R s m args meth c y) : ∀ (n : Nat) {u u' : Nat × Nat} {f f' : aFr} {h h' : aHp} {H : Heap} {locs : List Loc} {ls : Array Slot}, aGo K n y u f h = some (f', u', h') → hRel D tc B b0 scr h H → va_S (Aq B) s.heap H locs → lRel B b0 ls (mL y) f.2.1 →
    (∀ (H1 : Heap) (locs1 : List Loc) (ls1 : Array Slot), hRel D tc B b0 scr h' H1 → va_S (Aq B) s.heap H1 locs1 → lRel B b0 ls1 (mL y) f'.2.1 → W p l e R s m args below meth c H1 locs1 u'.1 u'.2 Q (F0 m f'.1 ls1 (f'.2.2.map (trV B b0)))) → W p l e R s m args below meth c H locs u.1 u.2 Q (F0 m f.1 ls (f.2.2.map (trV B b0)))
  | 0, u, u', f, f', h, h', H, locs, ls, hex, hH, hS, hL, k => by
    cases hex
    exact k H locs ls hH hS hL
  | n + 1, u, u', f, f', h, h', H, locs, ls, hex, hH, hS, hL, kk => by
    unfold aGo at hex
    cases hcd : cd y f.1 with
    | none => rw [hcd] at hex; cases hex
    | some en =>
      rw [hcd] at hex
      dsimp only at hex
      obtain ⟨hd, ho⟩ := en_spec (en_ok hcd)
      cases hE : aIsEnd en with
      | true => rw [hE] at hex; cases hex
      | false =>
        rw [hE, cond_false] at hex
        cases hT : aIsThrow en with
        | true => rw [hT] at hex; cases hex
        | false =>
          rw [hT, cond_false] at hex
          cases hC : aIsCall en with
          | false =>
            rw [hC, cond_false] at hex
            cases hs : aStep y en u f h with
            | none => rw [hs] at hex; cases hex
            | some q =>
              obtain ⟨f1, u1, h1⟩ := q
              rw [hs] at hex
              exact st_all C0 ho hd hs hH hS hL (fun H1 locs1 ls1 a1 a2 a3 => walk_go hl C0 n hex a1 a2 a3 kk)
          | true =>
            rw [hC, cond_true] at hex
            cases hA : aArgs en.2.2.2.2.1 f.2.2 with
            | none => rw [hA] at hex; cases hex
            | some q =>
              obtain ⟨as, t⟩ := q
              rw [hA] at hex
              dsimp only at hex
              cases hok : aCallOK y en u as t h with
              | false => rw [hok] at hex; cases hex
              | true =>
                rw [hok, cond_true] at hex
                obtain ⟨hz, hlen⟩ := call_lt ho hC hok
                cases hx : aEx K en.2.2.2.1 (0, 0) (0, aPad as (mL en.2.2.2.1), []) h with
                | none => rw [hx] at hex; cases hex
                | some r1 =>
                  obtain ⟨-, c1, c2, a9, hr⟩ := call_run C0 ho hd hC hA hok hH hS hL.1 (con_of_walk hl (walk_all hl K) _ as h r1 hz hlen hx)
                  rw [hx] at hex
                  obtain ⟨r11, h1⟩ := r1
                  cases r11 with
                  | inr x => cases hex
                  | inl v =>
                    dsimp only at hex
                    intro T hT9 X
                    rcases hr T hT9 X with ⟨v', st0, t9, T', L9, g0, X', hL9, g1, g2, ⟨v9, hv9, hv, hR, hF⟩, stp⟩ | ⟨q, st0, t9, T', L9, E9, ce, g0, X', hL9, g1, g2, ⟨x9, hx9, -⟩, -⟩
                    · cases hv9
                      cases hv
                      obtain ⟨z1, z2, z3⟩ := vx_keep (A1 := Aq B) (free := Aq B) g0 g1 hS (fun q _ h => h) (fun q h => h) hL9 hF
                      obtain ⟨t2, a1, b1⟩ := walk_go hl C0 n (H := T'.heap) (locs := locs ++ L9) (ls := ls) hex (by rw [g1]; exact hR) z3 hL kk T' rfl X'
                      refine ⟨t2, stp t2 ?_, b1⟩
                      dsimp only at a1
                      rw [map_to] at a1
                      exact a1
                    · cases hx9
end GO
/-- the heap at the law's start: the script alone -/
def hp0 (L : Nat) (xs : Nat → Int32) : aHp := ((0, 1), (fun a => cond (Nat.beq a 0) (8, L, fun _ => none) (0, 0, fun _ => none)), (fun a j => cond (Nat.beq a 0) (xs j) 0), (fun _ _ => 0), (fun _ _ => 0))
theorem law_walk {p : Program} {e : Env} {s : State} {m : MethodId} {below : List Frame} {meth : Method} {c : Code} (l : Launch) (hflags : l.flags = flags0) {b L : Nat} {xs : Nat → Int32} (C0 : lw_At p s m meth c b L xs) {n K : Nat} {h1 h2 h3 : aHp} {f1 : aFr} {u1 : Nat × Nat} (hgo : aGo K n 214 (0, 0) (0, aPad [.ref 0] 8, []) (hp0 L xs) = some (f1, u1, h1)) (hsm : hSame h1 h2) (hln : hLen h1) (hm : h2.1.1 = 1) (hev : Ev 214 u1 f1 h2 (.inl (some (.int 1)), h3)) : W p l e room_1 s m #[Value.ref b] below meth c s.heap [] 0 0 (lw_Z below #[Value.ref b] s) (entryFrame m ([Value.ref b] : List Value).toArray 8) := by
  obtain ⟨hx, hb, hr, hml, hown, hts, hX, hbl, hlocks, hgv⟩ := id C0
  obtain ⟨D, tc, scr, sa, hE, x1, x2, x3⟩ := ev_start C0
  have hst : l.stackTraces = false := by
    unfold Launch.stackTraces
    rw [hflags]
    decide
  have hcx : cxP D tc s.heap.size scr sa p room_1 s m #[Value.ref b] meth c 214 := by
    refine ⟨hx, hb, hml, hown, fun w hw => hts w (List.mem_filter.mp hw).1, hlocks, hr, fun h => (by cases h), fun h => absurd h (by decide), fun T h => (by cases h), hE, ?_, ?_, ?_, ?_⟩ <;> exact Nat.le_of_ble_eq_true rfl
  have hH0 : hRel D tc s.heap.size b scr (hp0 L xs) s.heap := by
    refine ⟨hbl, Nat.le_refl _, fun _ => rfl, Nat.le_refl _, rfl, fun a ha => ?_⟩
    have ha : a = 0 := by
      have : a < 1 := ha
      omega
    subst ha
    exact ⟨fun h => absurd (show 8 < 8 from h) (by decide), fun _ => ⟨rfl, x1, x2, x3⟩, fun h => absurd (show 100 ≤ 8 from h) (by decide)⟩
  obtain ⟨k, hk⟩ := hev
  have hQ : qEnd D tc s.heap.size b scr p l e room_1 s m #[Value.ref b] below meth c (lw_Z below #[Value.ref b] s) 214 (.inl (some (.int 1)), h3) := by
    refine ⟨?_, ?_, ?_⟩
    · intro H locs ls u1 u2 pc L st h en hcd he hH hS hu1 hu2
      obtain ⟨hd, ho⟩ := en_spec (en_ok hcd)
      obtain ⟨i, n, v, a, b9, cc, d⟩ := en
      cases i with
      | ireturn =>
        have hn : n = 1 := beq1 ho
        subst hn
        simp only [aEnd] at he
        split at he
        · rename_i x heq
          have hx1 : x = 1 := by
            rw [show rt 214 = some .boolean from rfl] at he
            dsimp only at he
            cases hbt : aBit x with
            | false => rw [hbt] at he; cases he
            | true =>
              rw [hbt] at he
              cases he
              rfl
          subst hx1
          refine W.widen hu1 hu2 (va_forget (fun q hq => hS.2.2 q hq) ?_)
          exact lw_ret (d0 := s.drawn) (Drawn.sameBut.refl s.drawn lw_cs) hx hb hr hlocks hd
        · simp_all
        · simp_all
        · cases he
      | freturn =>
        simp only [aEnd] at he
        split at he
        · simp_all
        · rw [show rt 214 = some .boolean from rfl] at he; cases he
        · simp_all
        · cases he
      | return_ =>
        simp only [aEnd] at he
        split at he
        · simp_all
        · simp_all
        · rw [show rt 214 = some .boolean from rfl] at he; cases he
        · cases he
      | _ => simp [aEnd] at he
    · intro H locs ls u1 u2 pc st h en hcd hth hmd hf6 hsum hc1 hc2 hr9
      cases hr9
    · intro H locs ls u1 u2 pc rest q ce x hr9
      cases hr9
  rw [lg_entry_eq]
  refine walk_go (b0 := b) (u := (0, 0)) (f := (0, aPad [.ref 0] 8, [])) hst hcx n hgo hH0 va_S.rf (ent_rel (as := [.ref 0]) (n := 8) (by decide)) (fun H1 locs1 ls1 a1 a2 a3 => ?_)
  exact walk_all hst k p e room_1 s m _ below meth c _ 214 _ (by decide) hcx hQ u1 f1 h2 H1 locs1 ls1 hk (a1.same hsm hln hm) a2 a3
