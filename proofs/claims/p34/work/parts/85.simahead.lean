/-! WHAT WOULD BE, both sides -/
theorem PS.rg {t : Int} {h : HV} {r : Int → Int} (P : PS t h r) : RG 200000 h := P.2.2.1.mono (by have := P.1; omega)
theorem SIM.look {hs : Nat → HV} {tp md : HV} (S : SIM hs tp md) {g : HV} (R : RG 200000 g) {q : Int → Int} : SIM (putH hs 1 g) tp (mBk0 md (md 1) q) := by
  have e1 : ∀ i, 0 ≤ i → i < 2739 → mBk0 md (md 1) q 1 i = md 1 i := fun i i0 i1 => by
    show cpI (mLay md (md 1) 3) q 2739 i = md 1 i
    have e : mLay md (md 1) 3 = cpI (md 1) (md 3) 2739 := upr_same
    rw [e, cpI_in i0 i1, cpI_in i0 i1]
  exact S.oth (fun k hk => putH_ne hk) (by rw [putH_same]; exact R) ⟨rfl, rfl, rfl, rfl, rfl⟩ S.2.2.2.2.1 ⟨e1, rfl, rfl, rfl, rfl, rfl, rfl⟩ S.2.2.2.2.2.2.2
theorem sim_grow {hs : Nat → HV} {tp md : HV} (S : SIM hs tp md) {c n : Int} (c0 : 0 ≤ c ∧ c < 9) : AG (xGrowOp hs tp c n) (yGrows md (md 1) (5 + c) n) := by
  obtain ⟨t, t1, P⟩ := S.2.1
  unfold xGrowOp yGrows
  by_cases d : n < 1 ∨ 60 < n
  · rw [if_pos d, if_pos (by omega)]; exact S.no rfl
  rw [if_neg d, if_neg (show ¬ ¬ (1 ≤ n ∧ n ≤ 60) by omega)]
  have Q := (P.cp (S.1 1 (by decide))).days (n := n) (by omega) (by omega)
  refine ⟨?_, S.look Q.rg⟩
  show passI (trial hs) n 16 c - hs 0 16 c = mPasI (md 1) n (5 + c) - md 1 (5 + c)
  rw [Q.2.2.2.2.1.2.2.2.1.1 c c0.1 c0.2, P.2.2.2.2.1.2.2.2.1.1 c c0.1 c0.2]
theorem hung_eq {base : Int} : ∀ (n : Nat) (d t : Int) (g : HV) (q : Int → Int), PS t g q → t + n ≤ 1060 → q 10 = base →
    (srN (fun z => decide (base < z 16 5)) n (d + 1) g).1 = (if base < (mSr (fun z => decide (z 10 = base)) n d q).2 10 then (mSr (fun z => decide (z 10 = base)) n d q).1 else -1000005) ∧ RG 200000 (srN (fun z => decide (base < z 16 5)) n (d + 1) g).2
  | 0, d, t, g, q, P, ht, e => by
    refine ⟨?_, P.rg⟩
    show (-1000005 : Int) = if base < q 10 then d else -1000005
    rw [if_neg (by omega)]
  | n + 1, d, t, g, q, P, ht, e => by
    have Q := P.pass (by omega)
    have w : dPass g 16 5 = mPas q 10 := Q.2.2.2.2.1.2.2.2.1.1 5 (by decide) (by decide)
    have mono := (T2_mPas P.2.2.2.1 (by rw [P.day]; omega)).2.2
    rw [mSr_go (decide_eq_true e)]
    by_cases c : base < mPas q 10
    · rw [srN_t (decide_eq_true (by rw [w]; exact c)), mSr_stop (Or.inr (by rw [decide_eq_true_eq]; omega))]
      exact ⟨(if_pos c).symm, Q.rg⟩
    · rw [srN_f (by rw [decide_eq_true_eq, w]; exact c)]
      exact hung_eq n (d + 1) (t + 1) (dPass g) (mPas q) Q (by omega) (by omega)
theorem sim_hungry {hs : Nat → HV} {tp md : HV} (S : SIM hs tp md) : AG (xHungOp hs tp) (yHungry md (md 1)) := by
  obtain ⟨t, t1, P⟩ := S.2.1
  have e : hs 0 16 5 = md 1 10 := P.2.2.2.2.1.2.2.2.1.1 5 (by decide) (by decide)
  have z := hung_eq (base := md 1 10) 60 0 t (trial hs) (md 1) (P.cp (S.1 1 (by decide))) (by omega) rfl
  have ex : xHungry (hs 0) (hs 1) = srN (fun z => decide (md 1 10 < z 16 5)) 60 1 (trial hs) := by
    unfold xHungry; rw [e]
  unfold xHungOp yHungry
  rw [ex]
  exact ⟨z.1, S.look z.2⟩
theorem away_eq {b : Int} : ∀ (n : Nat) (d t : Int) (g : HV) (q : Int → Int), PS t g q → t + n ≤ 1060 → 1 < g 4 b → g 4 b ≠ 2 →
    (srN (fun z => decide (z 4 b = 2)) n d g).1 = -1000005 ∧ RG 200000 (srN (fun z => decide (z 4 b = 2)) n d g).2
  | 0, d, t, g, q, P, ht, e, e2 => ⟨rfl, P.rg⟩
  | n + 1, d, t, g, q, P, ht, e, e2 => by
    have Q := P.pass (by omega)
    have w := H4_pass (h := g) b e
    rw [srN_f (by rw [decide_eq_true_eq, w]; exact e2)]
    exact away_eq n (d + 1) (t + 1) (dPass g) (mPas q) Q (by omega) (by omega) (by omega)
theorem gone_eq {b : Int} (b0 : 0 ≤ b) : ∀ (n : Nat) (d t : Int) (g : HV) (q : Int → Int), PS t g q → t + n ≤ 1060 → b < q 1 → q (51 + 7 * b + 0) ≤ 1 →
    (srN (fun z => decide (z 4 b = 2)) n (d + 1) g).1 = (if (mSr (fun z => decide (z (51 + 7 * b + 0) ≤ 1)) n d q).2 (51 + 7 * b + 0) = 2 then (mSr (fun z => decide (z (51 + 7 * b + 0) ≤ 1)) n d q).1 else -1000005) ∧ RG 200000 (srN (fun z => decide (z 4 b = 2)) n (d + 1) g).2
  | 0, d, t, g, q, P, ht, hb, e => by
    refine ⟨?_, P.rg⟩
    show (-1000005 : Int) = if q (51 + 7 * b + 0) = 2 then d else -1000005
    rw [if_neg (by omega)]
  | n + 1, d, t, g, q, P, ht, hb, e => by
    have Q := P.pass (by omega)
    have m := P.2.2.2.1.came
    have k1 : mPas q 1 = q 1 := (MR_mPas P.2.2.2.1 (by rw [P.day]; omega)).2.2 1 (Or.inr (Or.inl rfl)) (by decide)
    have w : dPass g 4 b = mPas q (51 + 7 * b + 0) := (Q.2.2.2.2.1.2.1 b b0 (by omega) (by rw [k1]; exact hb)).1
    rw [mSr_go (decide_eq_true e)]
    by_cases c : mPas q (51 + 7 * b + 0) = 2
    · rw [srN_t (decide_eq_true (by rw [w]; exact c)), mSr_stop (Or.inr (by rw [decide_eq_true_eq]; omega))]
      exact ⟨(if_pos c).symm, Q.rg⟩
    · rw [srN_f (by rw [decide_eq_true_eq, w]; exact c)]
      by_cases u : mPas q (51 + 7 * b + 0) ≤ 1
      · exact gone_eq b0 n (d + 1) (t + 1) (dPass g) (mPas q) Q (by omega) (by rw [k1]; exact hb) u
      · rw [mSr_stop (Or.inr (by rw [decide_eq_true_eq]; exact u)), if_neg c]
        exact away_eq n (d + 1 + 1) (t + 1) (dPass g) (mPas q) Q (by omega) (by omega) (by omega)
theorem sim_gone {hs : Nat → HV} {tp md : HV} (S : SIM hs tp md) {b : Int} : AG (xGoneOp hs tp b) (yGone md (md 1) b) := by
  obtain ⟨t, t1, P⟩ := S.2.1
  have H := P.2.2.2.2.1
  have m := P.2.2.2.1.came
  have e1 : hs 0 3 7 = md 1 1 := H.1.2.2.1
  unfold xGoneOp yGone
  by_cases c : 0 ≤ b ∧ b < md 1 1
  · rw [if_neg (show ¬ ¬ (0 ≤ b ∧ b < hs 0 3 7) by omega), if_neg (show ¬ ¬ (0 ≤ b ∧ b ≤ md 1 1 - 1) by omega)]
    have z := H.2.1 b c.1 (by omega) c.2
    have hw := P.2.2.1.how c.1 (show b < 80 by omega)
    by_cases d : 1 < md 1 (51 + 7 * b + 0)
    · rw [if_pos (show ¬ gHold (hs 0) b by show ¬ (hs 0 4 b = 0 ∨ hs 0 4 b = 1); omega), if_pos d]; exact S.no rfl
    · rw [if_neg (show ¬ ¬ gHold (hs 0) b from not_not_intro (show hs 0 4 b = 0 ∨ hs 0 4 b = 1 by omega)), if_neg d]
      have y := gone_eq c.1 60 0 t (trial hs) (md 1) (P.cp (S.1 1 (by decide))) (by omega) c.2 (by omega)
      exact ⟨y.1, S.look y.2⟩
  · rw [if_pos (show ¬ (0 ≤ b ∧ b < hs 0 3 7) by omega), if_pos (show ¬ (0 ≤ b ∧ b ≤ md 1 1 - 1) by omega)]
    exact S.no rfl
