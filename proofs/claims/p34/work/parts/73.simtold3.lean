theorem ans_ref0 {K t : Int} {h : HV} {r : Int → Int} (S : HS t h r) (M : MR K r) {b : Int} (b0 : 0 ≤ b) (b1 : b < r 1) : hRef h b = mRef0 r b := by
  have m := M.came
  have z := S.2.1 b b0 (by omega) b1
  have y := S.1.2.2.2.2 b b0 (by omega) b1
  have ra := M.arr b0 (show b < 80 by omega)
  have e4 : h 1 4 = r 21 := S.1.1 4 (by decide) (by decide)
  have e0 : h 0 6 = r 0 := S.1.2.2.2.1
  have ew : wOf h (r (51 + 7 * b + 1)) = r (611 + r (51 + 7 * b + 1)) := S.1.2.1 _ ra.1 (by omega)
  show (if h 1 4 ≤ h 5 b - h 0 6 ∨ ¬ wOf h (h 5 b) % 2 = 0 then h 9 b else 0) = if r 21 ≤ r (51 + 7 * b + 1) - r 0 ∨ ¬ r (611 + r (51 + 7 * b + 1)) % 2 = 0 then r (51 + 7 * b + 5) else 0
  rw [e4, e0, y.1, ew, z.2.2.1]
theorem mFits_eq {K K' t : Int} {h : HV} {r : Int → Int} (R : RG K h) (M : MR K' r) (S : HS t h r) {a n p : Int} : hasB h a n p ↔ mFits r a (a + n) p := by
  have m := M.came
  have e0 : h 1 0 = r 17 := S.1.1 0 (by decide) (by decide)
  have e : (fun i => decide (nBeds h (a + i) (a + i) + p ≤ h 1 0)) = fun i => decide (mTk r (a + i) + p ≤ r 17) := by
    funext i
    rw [nBeds_eq (K' := K') R S.1 S.2.1 m.2, e0]
  show allI (fun i => decide (nBeds h (a + i) (a + i) + p ≤ h 1 0)) n = true ↔ allI (fun i => decide (mTk r (a + i) + p ≤ r 17)) (a + n - a) = true
  rw [e, show a + n - a = n by omega]
theorem ans_err {K K' t : Int} {h : HV} {r : Int → Int} (R : RG K h) (M : MR K' r) (S : HS t h r) {a n p : Int} : bErr h a n p = mErr r a n p := by
  have m := M.came
  have e0 : h 0 6 = r 0 := S.1.2.2.2.1
  have e1 : h 3 7 = r 1 := S.1.2.2.1
  have f := mFits_eq R M S (a := a) (n := n) (p := p)
  unfold bErr mErr
  rw [e0, e1]
  by_cases c : a < r 0 ∨ 899 < a ∨ ¬ (1 ≤ n ∧ n ≤ 9 ∧ 1 ≤ p ∧ p ≤ 9)
  · rw [if_pos c, if_pos (by omega)]
  rw [if_neg c, if_neg (show ¬ (¬ (r 0 ≤ a ∧ a ≤ 899) ∨ ¬ (1 ≤ n ∧ n ≤ 9) ∨ ¬ (1 ≤ p ∧ p ≤ 9)) by omega)]
  by_cases d : hasB h a n p
  · rw [if_neg (not_not_intro d), if_neg (not_not_intro (f.mp d))]
    by_cases q : r 1 = 80
    · rw [if_pos q, if_pos (by omega)]
    · rw [if_neg q, if_neg (by omega)]
  · rw [if_pos d, if_pos (fun w => d (f.mpr w))]
