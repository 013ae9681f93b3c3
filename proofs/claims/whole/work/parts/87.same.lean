theorem cell_eq {k : Nat} (hk : k < 188) : bK (k + 1) bAll = (SH 0 (k + 1)).1 ∧ bN (k + 1) bAll = (SH 0 (k + 1)).2.1 ∧ ∀ j, j < bN (k + 1) bAll → (rsl (bK (k + 1) bAll) j = true → bP (k + 1) j bAll = (SH 0 (k + 1)).2.2 j) ∧ bI (k + 1) j bAll = I0 (fun _ => 0) (k + 1) j := by
  have c1 := Bool.and_eq_true_iff.mp ((allF_0 _ _).mp chkK k hk)
  have c2 := Bool.or_eq_true_iff.mp ((allF_0 _ _).mp chkW k hk)
  have en : bN (k + 1) bAll = (SH 0 (k + 1)).2.1 := Nat.eq_of_beq_eq_true c1.2
  obtain ⟨tt, ht⟩ := cEx hk
  obtain ⟨g1, g2⟩ := Bool.and_eq_true_iff.mp ht
  have g1 := opsE_t g1
  refine ⟨Nat.eq_of_beq_eq_true c1.1, en, fun j hj => ?_⟩
  rcases Nat.lt_or_ge (bN (k + 1) bAll) 241 with w | w
  · have e := blt_t (en ▸ w)
    simp only [e, cond_true] at g2
    obtain ⟨g3, g4⟩ := Bool.and_eq_true_iff.mp ((allF_0 _ _).mp g2 j (en ▸ hj))
    have fo := fil_ok (k + 1) j bAll
    rw [g1] at fo
    exact ⟨fun _ => by rw [← fo.2]; exact oEq_t g3, by rw [← fo.1]; exact of_decide_eq_true g4⟩
  · have c5 := c2.resolve_left (by rw [blt_f (by omega)]; decide)
    obtain ⟨c5, c6⟩ := Bool.and_eq_true_iff.mp c5
    obtain ⟨c6, c7⟩ := Bool.and_eq_true_iff.mp c6
    have k0 := Nat.eq_of_beq_eq_true c6
    refine ⟨fun r => ?_, ?_⟩
    · rw [k0] at r
      exact absurd r (by intro w; cases w)
    · rw [noW_0 _ _ _ c7]
      have : k = 130 ∨ k = 131 ∨ k = 132 ∨ k = 133 ∨ k = 134 ∨ k = 181 ∨ k = 182 ∨ k = 183 ∨ k = 184 := by
        rcases Bool.or_eq_true_iff.mp c5 with q | q
        · obtain ⟨q1, q2⟩ := Bool.and_eq_true_iff.mp q
          have q1 := Nat.le_of_ble_eq_true q1
          have q2 := Nat.le_of_ble_eq_true q2
          omega
        · obtain ⟨q1, q2⟩ := Bool.and_eq_true_iff.mp q
          have q1 := Nat.le_of_ble_eq_true q1
          have q2 := Nat.le_of_ble_eq_true q2
          omega
      rcases this with rfl | rfl | rfl | rfl | rfl | rfl | rfl | rfl | rfl <;> rfl
theorem same_ok (L : Nat) (xs : Nat → Int32) : hSame (hb509 L xs) (hp L (x0 xs)) ∧ hLen (hb509 L xs) := by
  rw [bAll_eq]
  obtain ⟨⟨s1, _⟩, hr, ⟨c0, i0⟩, hj⟩ := bRel_ok L xs bAll bAll_ok
  generalize bRun bAll (hp0 L xs) = h at s1 hr c0 i0 hj
  rw [bAll_sz] at s1
  have s2 : h.1.2 = 189 := by rw [s1]
  refine ⟨⟨s2.symm, fun a ha => ?_⟩, fun a ha h100 r hr2 => ?_⟩
  · rw [s2] at ha
    by_cases w : a = 0
    · subst w
      rw [c0]
      refine ⟨rfl, rfl, fun j hj2 => ⟨?_, fun _ => ?_⟩⟩
      · unfold svl
        rw [c0]
        show Value.int (xs j) = Value.int (h.2.2.1 0 j)
        rw [i0]
      · rw [i0]; rfl
    · obtain ⟨k, rfl⟩ : ∃ k, a = k + 1 := ⟨a - 1, by omega⟩
      obtain ⟨q1, q2, q3⟩ := hr (k + 1) w
      obtain ⟨e1, e2, e3⟩ := cell_eq (k := k) (by omega)
      have d1 : ((hp L (x0 xs)).2.1 (k + 1)) = SH 0 (k + 1) := shL L (k + 1) w
      refine ⟨by rw [d1, q1, e1], by rw [d1, q2, e2], fun j hj2 => ?_⟩
      rw [q2] at hj2
      obtain ⟨f1, f2⟩ := e3 j hj2
      have gi : (hp L (x0 xs)).2.2.1 (k + 1) j = h.2.2.1 (k + 1) j := by
        rw [(q3 j).2, f2]
        exact i0L xs (k + 1) j w
      refine ⟨?_, fun _ => gi⟩
      have gj : (hp L (x0 xs)).2.2.2.1 (k + 1) j = h.2.2.2.1 (k + 1) j := by rw [(hj (k + 1) j).1]; rfl
      have ge : (hp L (x0 xs)).2.2.2.2 (k + 1) j = h.2.2.2.2 (k + 1) j := by rw [(hj (k + 1) j).2]; rfl
      unfold svl
      rw [gi, gj, ge, d1, q1, (q3 j).1, ← e1]
      cases g : rsl (bK (k + 1) bAll) j with
      | false => rfl
      | true => rw [f1 g]
  · rw [s2] at ha
    by_cases w : a = 0
    · subst w
      rw [c0] at h100
      exact absurd (show 100 ≤ 8 from h100) (by decide)
    · obtain ⟨k, rfl⟩ : ∃ k, a = k + 1 := ⟨a - 1, by omega⟩
      obtain ⟨q1, q2, q3⟩ := hr (k + 1) w
      have c := (allF_0 _ _).mp chkC k (by omega)
      rw [q1] at h100 hr2
      have e : Nat.ble 100 (bK (k + 1) bAll) = true := Nat.ble_eq_true_of_le h100
      simp only [e, cond_true, hr2] at c
      rw [q2]
      exact Nat.eq_of_beq_eq_true c
