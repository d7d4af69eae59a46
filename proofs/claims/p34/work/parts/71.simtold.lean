/-! WHAT IS TOLD, both sides -/
theorem ans_coins {K t : Int} {h : HV} {r : Int → Int} (R : RG K h) (S : HS t h r) (m1 : r 1 ≤ 80) {w : Int} : xCoins h w = yCoins r w := by
  have T := S.2.2.2.1
  have e : sumI (gHeld h) (h 3 7) = sumI (mHeld r) (r 1) := by
    rw [S.1.2.2.1]
    exact sumI_cg fun i i0 i1 => by
      have z := S.2.1 i i0 (by omega) i1
      have q := R.how i0 (show i < 80 by omega)
      show (if gHold h i then h 9 i else 0) = if r (51 + 7 * i + 0) ≤ 1 then r (51 + 7 * i + 5) else 0
      rw [← z.1, ← z.2.2.1]
      by_cases c : h 4 i ≤ 1
      · rw [if_pos (show gHold h i by show h 4 i = 0 ∨ h 4 i = 1; omega), if_pos c]
      · rw [if_neg (show ¬ gHold h i by show ¬ (h 4 i = 0 ∨ h 4 i = 1); omega), if_neg c]
  unfold xCoins yCoins
  rw [e, T.2.2.1, T.2.2.2.1, T.2.2.2.2]
  by_cases c0 : w = 0
  · rw [if_pos c0, if_neg (by omega), if_pos c0]
  by_cases c1 : w = 1
  · rw [if_neg c0, if_pos c1, if_neg (by omega), if_neg c0, if_neg (by omega), if_neg (by omega)]
  by_cases c2 : w = 2
  · rw [if_neg c0, if_neg c1, if_pos c2, if_neg (by omega), if_neg c0, if_pos c2]
  by_cases c3 : w = 3
  · rw [if_neg c0, if_neg c1, if_neg c2, if_pos c3, if_neg (by omega), if_neg c0, if_neg c2, if_pos c3]
  rw [if_neg c0, if_neg c1, if_neg c2, if_neg c3, if_pos (by omega)]
theorem ans_day {K t : Int} {h : HV} {r : Int → Int} (R : RG K h) (S : HS t h r) (m1 : r 1 ≤ 80) {d w : Int} : xDay h d w = yDay r d w := by
  have eb : nBeds h d d = mTk r d := nBeds_eq (K' := K) R S.1 S.2.1 m1
  have s0 : h 1 0 = r 17 := S.1.1 0 (by decide) (by decide)
  have ea : sumI (gArr h d) (h 3 7) = sumI (mArr r d) (r 1) := by
    rw [S.1.2.2.1]
    exact sumI_cg fun i i0 i1 => by
      have z := S.2.1 i i0 (by omega) i1
      have y := S.1.2.2.2.2 i i0 (by omega) i1
      show (if h 4 i = 0 ∧ h 5 i = d then 1 else 0) = if r (51 + 7 * i + 0) = 0 ∧ r (51 + 7 * i + 1) = d then 1 else 0
      rw [z.1, y.1]
  have ee : sumI (gEnds h d) (h 3 7) = sumI (mEnds r d) (r 1) := by
    rw [S.1.2.2.1]
    exact sumI_cg fun i i0 i1 => by
      have z := S.2.1 i i0 (by omega) i1
      have y := S.1.2.2.2.2 i i0 (by omega) i1
      have q := R.how i0 (show i < 80 by omega)
      show (if (h 4 i = 0 ∨ h 4 i = 1) ∧ h 5 i + h 6 i = d then 1 else 0) = if r (51 + 7 * i + 0) ≤ 1 ∧ r (51 + 7 * i + 1) + r (51 + 7 * i + 2) = d then 1 else 0
      rw [← z.1, ← y.1, ← y.2.1]
      by_cases c : h 4 i ≤ 1 ∧ h 5 i + h 6 i = d
      · rw [if_pos (by omega), if_pos c]
      · rw [if_neg (by omega), if_neg c]
  unfold xDay yDay
  rw [eb, s0, ea, ee]
  by_cases c : d < 0 ∨ 999 < d
  · rw [if_pos c, if_pos (by omega)]
  rw [if_neg c]
  have ew : wOf h d = r (611 + d) := S.1.2.1 d (by omega) (by omega)
  rw [ew]
  by_cases c0 : w = 0
  · rw [if_pos c0, if_neg (by omega), if_pos c0]
  by_cases c1 : w = 1
  · rw [if_neg c0, if_pos c1, if_neg (by omega), if_neg c0, if_pos c1]
  by_cases c2 : w = 2
  · rw [if_neg c0, if_neg c1, if_pos c2, if_neg (by omega), if_neg c0, if_neg c1, if_pos c2]
  by_cases c3 : w = 3
  · rw [if_neg c0, if_neg c1, if_neg c2, if_pos c3, if_neg (by omega), if_neg c0, if_neg c1, if_neg c2, if_pos c3]
  by_cases c4 : w = 4
  · rw [if_neg c0, if_neg c1, if_neg c2, if_neg c3, if_pos c4, if_neg (by omega), if_neg c0, if_neg c1, if_neg c2, if_neg c3]
  rw [if_neg c0, if_neg c1, if_neg c2, if_neg c3, if_neg c4, if_pos (by omega)]
