theorem ans_waiting {t : Int} {h : HV} {r : Int → Int} (S : HS t h r) (m1 : r 3 ≤ 12) {k w : Int} : xWaiting h k w = yWaiting r k w := by
  have e3 : h 13 2 = r 3 := S.2.2.1.1
  unfold xWaiting yWaiting
  rw [e3]
  by_cases c : k < 0 ∨ w < 0 ∨ 1 < w
  · rw [if_pos c, if_pos (by omega)]
  rw [if_neg c, if_neg (show ¬ (k < 0 ∨ ¬ (0 ≤ w ∧ w ≤ 1)) by omega)]
  by_cases d : r 3 ≤ k
  · rw [if_pos d, if_pos d]
  have z := S.2.2.1.2 k (by omega) (by omega) (by omega)
  rw [if_neg d, if_neg d, z.1, z.2]
theorem ans_booking {K t : Int} {h : HV} {r : Int → Int} (R : RG K h) (S : HS t h r) (m1 : r 1 ≤ 80) (hd : r 0 < 1064) {b w : Int} : xBooking h b w = yBooking r b w := by
  have rd := R.day
  unfold xBooking yBooking
  rw [S.1.2.2.1]
  by_cases c : 0 ≤ b ∧ b < r 1
  · rw [if_neg (not_not_intro c), if_neg (show ¬ ¬ (0 ≤ b ∧ b ≤ r 1 - 1) by omega)]
    have z := S.2.1 b c.1 (by omega) c.2
    have y := S.1.2.2.2.2 b c.1 (by omega) c.2
    have e0 : h 0 6 = r 0 := S.1.2.2.2.1
    have ew : wOf h (h 0 6) = r (611 + r 0) := by rw [e0]; exact S.1.2.1 (r 0) (by omega) hd
    have e6 : (if gOver h b (h 0 6) ∧ ¬ dnO h then (1 : Int) else 0) = if r (51 + 7 * b + 0) = 1 ∧ r (51 + 7 * b + 1) + r (51 + 7 * b + 2) ≤ r 0 ∧ ¬ r (611 + r 0) / 2 % 2 = 0 then 1 else 0 := by
      show (if (h 4 b = 1 ∧ h 5 b + h 6 b ≤ h 0 6) ∧ ¬ wOf h (h 0 6) / 2 % 2 = 0 then (1 : Int) else 0) = _
      rw [ew, z.1, y.1, y.2.1, e0]
      by_cases q : r (51 + 7 * b + 0) = 1 ∧ r (51 + 7 * b + 1) + r (51 + 7 * b + 2) ≤ r 0 ∧ ¬ r (611 + r 0) / 2 % 2 = 0
      · rw [if_pos q, if_pos ⟨⟨q.1, q.2.1⟩, q.2.2⟩]
      · rw [if_neg q, if_neg (fun u => q ⟨u.1.1, u.1.2, u.2⟩)]
    have e8 : (if h 10 b = -1 then -1000005 else h 10 b) = r (51 + 7 * b + 6) := by
      rcases z.2.2.2 with u | u
      · rw [if_neg (by omega), u.1]
      · rw [if_pos u.1, u.2.1]
    rw [e6, e8, z.1, z.2.1, z.2.2.1, y.1, y.2.1, y.2.2]
  · rw [if_pos c, if_pos (by omega)]
