theorem en_ok {y pc : Nat} {e : aEn} (h : cd y pc = some e) : enOK y pc e = true := by
  have h0 : y < 217 ∧ pc < pl y := by
    unfold cd at h
    cases hb : (Nat.blt y 217 && Nat.blt pc (pl y)) with
    | false => rw [hb] at h; cases h
    | true =>
      rw [Bool.and_eq_true] at hb
      exact ⟨Nat.le_of_ble_eq_true hb.1, Nat.le_of_ble_eq_true hb.2⟩
  have h1 : enC y pc = true := by
    obtain ⟨hy, hp⟩ := h0
    by_cases c0 : y < 30
    · exact ck_use ck_0 (by omega) (by omega) hp
    by_cases c1 : y < 60
    · exact ck_use ck_1 (by omega) (by omega) hp
    by_cases c2 : y < 90
    · exact ck_use ck_2 (by omega) (by omega) hp
    by_cases c3 : y < 100
    · exact ck_use ck_3 (by omega) (by omega) hp
    by_cases c4 : y < 110
    · exact ck_use ck_4 (by omega) (by omega) hp
    by_cases c5 : y < 120
    · exact ck_use ck_5 (by omega) (by omega) hp
    by_cases c6 : y < 130
    · exact ck_use ck_6 (by omega) (by omega) hp
    by_cases c7 : y < 140
    · exact ck_use ck_7 (by omega) (by omega) hp
    by_cases c8 : y < 150
    · exact ck_use ck_8 (by omega) (by omega) hp
    by_cases c9 : y < 160
    · exact ck_use ck_9 (by omega) (by omega) hp
    by_cases c10 : y < 170
    · exact ck_use ck_10 (by omega) (by omega) hp
    by_cases c11 : y < 180
    · exact ck_use ck_11 (by omega) (by omega) hp
    by_cases c12 : y < 214
    · exact ck_use ck_12 (by omega) (by omega) hp
    by_cases cm : 215 ≤ y
    · exact ck_use ck_mm cm (by omega) hp
    have e : y = 214 := by omega
    subst e
    have hp : pc < 2314 := hp
    by_cases q0 : pc < 58
    · exact ckB_use ckB_0 (by omega) (by omega)
    by_cases q58 : pc < 116
    · exact ckB_use ckB_58 (by omega) (by omega)
    by_cases q116 : pc < 174
    · exact ckB_use ckB_116 (by omega) (by omega)
    by_cases q174 : pc < 232
    · exact ckB_use ckB_174 (by omega) (by omega)
    by_cases q232 : pc < 290
    · exact ckB_use ckB_232 (by omega) (by omega)
    by_cases q290 : pc < 348
    · exact ckB_use ckB_290 (by omega) (by omega)
    by_cases q348 : pc < 406
    · exact ckB_use ckB_348 (by omega) (by omega)
    by_cases q406 : pc < 464
    · exact ckB_use ckB_406 (by omega) (by omega)
    by_cases q464 : pc < 522
    · exact ckB_use ckB_464 (by omega) (by omega)
    by_cases q522 : pc < 580
    · exact ckB_use ckB_522 (by omega) (by omega)
    by_cases q580 : pc < 638
    · exact ckB_use ckB_580 (by omega) (by omega)
    by_cases q638 : pc < 696
    · exact ckB_use ckB_638 (by omega) (by omega)
    by_cases q696 : pc < 754
    · exact ckB_use ckB_696 (by omega) (by omega)
    by_cases q754 : pc < 812
    · exact ckB_use ckB_754 (by omega) (by omega)
    by_cases q812 : pc < 870
    · exact ckB_use ckB_812 (by omega) (by omega)
    by_cases q870 : pc < 928
    · exact ckB_use ckB_870 (by omega) (by omega)
    by_cases q928 : pc < 986
    · exact ckB_use ckB_928 (by omega) (by omega)
    by_cases q986 : pc < 1044
    · exact ckB_use ckB_986 (by omega) (by omega)
    by_cases q1044 : pc < 1102
    · exact ckB_use ckB_1044 (by omega) (by omega)
    by_cases q1102 : pc < 1160
    · exact ckB_use ckB_1102 (by omega) (by omega)
    by_cases q1160 : pc < 1218
    · exact ckB_use ckB_1160 (by omega) (by omega)
    by_cases q1218 : pc < 1276
    · exact ckB_use ckB_1218 (by omega) (by omega)
    by_cases q1276 : pc < 1334
    · exact ckB_use ckB_1276 (by omega) (by omega)
    by_cases q1334 : pc < 1392
    · exact ckB_use ckB_1334 (by omega) (by omega)
    by_cases q1392 : pc < 1450
    · exact ckB_use ckB_1392 (by omega) (by omega)
    by_cases q1450 : pc < 1508
    · exact ckB_use ckB_1450 (by omega) (by omega)
    by_cases q1508 : pc < 1566
    · exact ckB_use ckB_1508 (by omega) (by omega)
    by_cases q1566 : pc < 1624
    · exact ckB_use ckB_1566 (by omega) (by omega)
    by_cases q1624 : pc < 1682
    · exact ckB_use ckB_1624 (by omega) (by omega)
    by_cases q1682 : pc < 1740
    · exact ckB_use ckB_1682 (by omega) (by omega)
    by_cases q1740 : pc < 1798
    · exact ckB_use ckB_1740 (by omega) (by omega)
    by_cases q1798 : pc < 1856
    · exact ckB_use ckB_1798 (by omega) (by omega)
    by_cases q1856 : pc < 1914
    · exact ckB_use ckB_1856 (by omega) (by omega)
    by_cases q1914 : pc < 1972
    · exact ckB_use ckB_1914 (by omega) (by omega)
    by_cases q1972 : pc < 2030
    · exact ckB_use ckB_1972 (by omega) (by omega)
    by_cases q2030 : pc < 2088
    · exact ckB_use ckB_2030 (by omega) (by omega)
    by_cases q2088 : pc < 2146
    · exact ckB_use ckB_2088 (by omega) (by omega)
    by_cases q2146 : pc < 2204
    · exact ckB_use ckB_2146 (by omega) (by omega)
    by_cases q2204 : pc < 2262
    · exact ckB_use ckB_2204 (by omega) (by omega)
    exact ckB_use ckB_2262 (by omega) (by omega)
  unfold enC at h1
  rw [h] at h1
  exact h1
