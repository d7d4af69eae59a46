/-! NUMBERS BEHIND THE LAW's CHECKS -/
section BKS
variable {r : Int → Int} {b : Int} (c : 0 ≤ b ∧ b ≤ r 1 - 1)
theorem yB0 (c : 0 ≤ b ∧ b ≤ r 1 - 1) : yBooking r b 0 = r (51 + 7 * b + 0) := (if_neg (not_not_intro c)).trans rfl
theorem yB1 (c : 0 ≤ b ∧ b ≤ r 1 - 1) : yBooking r b 1 = r (51 + 7 * b + 1) := (if_neg (not_not_intro c)).trans rfl
theorem yB2 (c : 0 ≤ b ∧ b ≤ r 1 - 1) : yBooking r b 2 = r (51 + 7 * b + 2) := (if_neg (not_not_intro c)).trans rfl
theorem yB3 (c : 0 ≤ b ∧ b ≤ r 1 - 1) : yBooking r b 3 = r (51 + 7 * b + 3) := (if_neg (not_not_intro c)).trans rfl
theorem yB4 (c : 0 ≤ b ∧ b ≤ r 1 - 1) : yBooking r b 4 = r (51 + 7 * b + 1) + r (51 + 7 * b + 2) := (if_neg (not_not_intro c)).trans rfl
theorem yB5 (c : 0 ≤ b ∧ b ≤ r 1 - 1) : yBooking r b 5 = r (51 + 7 * b + 4) := (if_neg (not_not_intro c)).trans rfl
theorem yB6 (c : 0 ≤ b ∧ b ≤ r 1 - 1) : yBooking r b 6 = if r (51 + 7 * b + 0) = 1 ∧ r (51 + 7 * b + 1) + r (51 + 7 * b + 2) ≤ r 0 ∧ ¬ r (611 + r 0) / 2 % 2 = 0 then 1 else 0 := (if_neg (not_not_intro c)).trans rfl
theorem yB7 (c : 0 ≤ b ∧ b ≤ r 1 - 1) : yBooking r b 7 = r (51 + 7 * b + 5) := (if_neg (not_not_intro c)).trans rfl
theorem yB8 (c : 0 ≤ b ∧ b ≤ r 1 - 1) : yBooking r b 8 = r (51 + 7 * b + 6) := (if_neg (not_not_intro c)).trans rfl
end BKS
theorem sum5 {r : Int → Int} : ∀ n : Nat, (∀ b : Int, 0 ≤ b → b < n → 0 ≤ r (51 + 7 * b + 0) ∧ r (51 + 7 * b + 0) ≤ 4) → sumI (mMany r 0) n + sumI (mMany r 1) n + sumI (mMany r 2) n + sumI (mMany r 3) n + sumI (mMany r 4) n = n
  | 0, _ => rfl
  | n + 1, h => by
    have ih := sum5 (r := r) n fun b b0 b1 => h b b0 (by omega)
    have e := h n (by omega) (by omega)
    rw [show ((n + 1 : Nat) : Int) = (n : Int) + 1 by omega]
    rw [sumI_s (by omega), sumI_s (by omega), sumI_s (by omega), sumI_s (by omega), sumI_s (by omega)]
    have f : mMany r 0 n + mMany r 1 n + mMany r 2 n + mMany r 3 n + mMany r 4 n = 1 := by
      show (if r (51 + 7 * (n : Int) + 0) = 0 then (1 : Int) else 0) + (if r (51 + 7 * (n : Int) + 0) = 1 then (1 : Int) else 0) + (if r (51 + 7 * (n : Int) + 0) = 2 then (1 : Int) else 0) + (if r (51 + 7 * (n : Int) + 0) = 3 then (1 : Int) else 0) + (if r (51 + 7 * (n : Int) + 0) = 4 then (1 : Int) else 0) = 1
      generalize r (51 + 7 * (n : Int) + 0) = z at e
      rcases (show z = 0 ∨ z = 1 ∨ z = 2 ∨ z = 3 ∨ z = 4 by omega) with rfl | rfl | rfl | rfl | rfl <;> rfl
    omega
theorem states_eq {K : Int} {r : Int → Int} (R : MR K r) : sumI (mMany r 0) (r 1) + sumI (mMany r 1) (r 1) + sumI (mMany r 2) (r 1) + sumI (mMany r 3) (r 1) + sumI (mMany r 4) (r 1) = r 1 := by
  have rc := R.came
  have h := sum5 (r := r) (r 1).toNat fun b b0 b1 => R.st b0 (by omega)
  rw [Int.toNat_of_nonneg rc.1] at h; exact h
theorem mFu_x {r : Int → Int} : ∀ (n : Nat) (d b m : Int), mFu r n d b m = b ∨ (d ≤ mFu r n d b m ∧ mFu r n d b m < d + n ∧ m < mTk r (mFu r n d b m) ∧ ∀ x, d ≤ x → x < mFu r n d b m → mTk r x < mTk r (mFu r n d b m))
  | 0, d, b, m => Or.inl rfl
  | n + 1, d, b, m => by
    unfold mFu; split
    · rename_i c
      rcases mFu_x (r := r) n (d + 1) d (mTk r d) with e | e
      · rw [e]; exact Or.inr ⟨by omega, by omega, c, fun x x0 x1 => by omega⟩
      · refine Or.inr ⟨by omega, by omega, by omega, fun x x0 x1 => ?_⟩
        by_cases q : x = d
        · subst q; exact e.2.2.1
        · exact e.2.2.2 x (by omega) x1
    · rename_i c
      rcases mFu_x (r := r) n (d + 1) b m with e | e
      · exact Or.inl e
      · refine Or.inr ⟨by omega, by omega, e.2.2.1, fun x x0 x1 => ?_⟩
        by_cases q : x = d
        · subst q; omega
        · exact e.2.2.2 x (by omega) x1
theorem full_x {r : Int → Int} (d0 : 0 ≤ r 0 ∧ r 0 ≤ 999) : yFull r = -1000005 ∨ (r 0 ≤ yFull r ∧ yFull r ≤ 999 ∧ 1 ≤ mTk r (yFull r) ∧ (r 0 < yFull r → mTk r (yFull r - 1) < mTk r (yFull r))) := by
  have h := mFu_x (r := r) (1000 - r 0).toNat (r 0) (-1000005) 0
  rcases h with e | e
  · exact Or.inl e
  · exact Or.inr ⟨e.1, by have := e.2.1; show mFu r _ _ _ _ ≤ 999; omega, by have := e.2.2.1; show 1 ≤ mTk r (mFu r _ _ _ _); omega, fun q => e.2.2.2 _ (by show r 0 ≤ mFu r _ _ _ _ - 1; have q : r 0 < mFu r (1000 - r 0).toNat (r 0) (-1000005) 0 := q; omega) (by show mFu r _ _ _ _ - 1 < mFu r _ _ _ _; omega)⟩
theorem mFf_x {r : Int → Int} {n p : Int} : ∀ (k : Nat) (d : Int), mFf r n p k d = -1000005 ∨ (d ≤ mFf r n p k d ∧ mFf r n p k d < d + k ∧ mFits r (mFf r n p k d) (mFf r n p k d + n) p ∧ (d < mFf r n p k d → ¬ mFits r (mFf r n p k d - 1) (mFf r n p k d - 1 + n) p))
  | 0, d => Or.inl rfl
  | k + 1, d => by
    unfold mFf; split
    · rename_i c; exact Or.inr ⟨Int.le_refl _, by omega, c, fun q => by omega⟩
    · rename_i c
      rcases mFf_x (r := r) (n := n) (p := p) k (d + 1) with e | e
      · exact Or.inl e
      · refine Or.inr ⟨by omega, by omega, e.2.2.1, fun q => ?_⟩
        by_cases z : mFf r n p k (d + 1) = d + 1
        · rw [z, show d + 1 - 1 = d by omega]; exact c
        · exact e.2.2.2 (by omega)
theorem first_x {r : Int → Int} {n p : Int} (n0 : 1 ≤ n ∧ n ≤ 9) (p0 : 1 ≤ p ∧ p ≤ 9) (d0 : 0 ≤ r 0 ∧ r 0 ≤ 999) : yFirst r n p = -1000005 ∨ (r 0 ≤ yFirst r n p ∧ yFirst r n p ≤ 899 ∧ mFits r (yFirst r n p) (yFirst r n p + n) p ∧ (r 0 < yFirst r n p → ¬ mFits r (yFirst r n p - 1) (yFirst r n p - 1 + n) p)) := by
  have e0 : yFirst r n p = mFf r n p (900 - r 0).toNat (r 0) := if_neg (by omega)
  rw [e0]
  have h := mFf_x (r := r) (n := n) (p := p) (900 - r 0).toNat (r 0)
  rcases h with e | e
  · exact Or.inl e
  · exact Or.inr ⟨e.1, by omega, e.2.2⟩
/-- booking on the first free day goes well, unless the house's book is full -/
theorem book_free {K : Int} {r : Int → Int} (R : MR K r) {a n p : Int} (n0 : 1 ≤ n ∧ n ≤ 9) (p0 : 1 ≤ p ∧ p ≤ 9) (a0 : r 0 ≤ a ∧ a ≤ 899) (h : mFits r a (a + n) p) : (zBook r a n p = (-1000003, none) ∧ r 1 = 80) ∨ (zBook r a n p = (r 1, some (mAdd r a n p)) ∧ r 1 < 80) := by
  have rc := R.came
  have e : mErr r a n p = if r 1 = 80 then -1000003 else 0 := by
    unfold mErr; rw [if_neg (by omega), if_neg (not_not_intro h)]
  unfold zBook; rw [e]
  by_cases c : r 1 = 80
  · rw [if_pos c]; exact Or.inl ⟨if_pos (by decide), c⟩
  · rw [if_neg c]; exact Or.inr ⟨if_neg (by decide), by omega⟩
theorem book_not {r : Int → Int} {a n p : Int} (n0 : 1 ≤ n ∧ n ≤ 9) (p0 : 1 ≤ p ∧ p ≤ 9) (a0 : r 0 ≤ a ∧ a ≤ 899) (h : ¬ mFits r a (a + n) p) : zBook r a n p = (-1000004, none) := by
  have e : mErr r a n p = -1000004 := by
    unfold mErr; rw [if_neg (by omega), if_pos h]
  unfold zBook; rw [e]; exact if_pos (by decide)
theorem mAdd_arr {r : Int → Int} {a n p : Int} (m0 : 0 ≤ r 1) : mAdd r a n p 1 = r 1 + 1 ∧ mAdd r a n p (51 + 7 * r 1 + 1) = a := by
  constructor
  · show up1 (up1 (up1 (up1 (up1 (up1 (up1 (up1 (up1 r 1 (r 1 + 1)) (51 + 7 * r 1 + 0) _) (51 + 7 * r 1 + 1) _) (51 + 7 * r 1 + 2) _) (51 + 7 * r 1 + 3) _) (51 + 7 * r 1 + 4) _) (51 + 7 * r 1 + 5) _) (51 + 7 * r 1 + 6) _) 14 _ 1 = _
    rw [up1_ne (by omega), up1_ne (by omega), up1_ne (by omega), up1_ne (by omega), up1_ne (by omega), up1_ne (by omega), up1_ne (by omega), up1_ne (by omega), up1_same]
  · show up1 (up1 (up1 (up1 (up1 (up1 (up1 (up1 (up1 r 1 (r 1 + 1)) (51 + 7 * r 1 + 0) _) (51 + 7 * r 1 + 1) a) (51 + 7 * r 1 + 2) _) (51 + 7 * r 1 + 3) _) (51 + 7 * r 1 + 4) _) (51 + 7 * r 1 + 5) _) (51 + 7 * r 1 + 6) _) 14 _ (51 + 7 * r 1 + 1) = _
    rw [up1_ne (by omega), up1_ne (by omega), up1_ne (by omega), up1_ne (by omega), up1_ne (by omega), up1_ne (by omega), up1_same]
/-! looking ahead -/
theorem mSr_x {r : Int → Int} {p : (Int → Int) → Bool} : ∀ (n : Nat) (d : Int), 0 ≤ d → d ≤ (mSr p n d (mPasI r d)).1 ∧ (mSr p n d (mPasI r d)).1 ≤ d + n ∧ (mSr p n d (mPasI r d)).2 = mPasI r (mSr p n d (mPasI r d)).1 ∧ (∀ j, d ≤ j → j < (mSr p n d (mPasI r d)).1 → p (mPasI r j) = true) ∧ ((mSr p n d (mPasI r d)).1 = d + n ∨ ¬ p (mPasI r (mSr p n d (mPasI r d)).1) = true)
  | 0, d, d0 => ⟨Int.le_refl _, by show d ≤ d + ((0 : Nat) : Int); omega, rfl, fun j j0 j1 => by have j1 : j < d := j1; omega, Or.inl (by show d = d + ((0 : Nat) : Int); omega)⟩
  | n + 1, d, d0 => by
    by_cases c : p (mPasI r d) = true
    · rw [mSr_go c, ← mPasI_s d0]
      have h := mSr_x (r := r) (p := p) n (d + 1) (by omega)
      refine ⟨by omega, by omega, h.2.2.1, fun j j0 j1 => ?_, ?_⟩
      · by_cases q : j = d
        · subst q; exact c
        · exact h.2.2.2.1 j (by omega) j1
      · rcases h.2.2.2.2 with e | e
        · exact Or.inl (by omega)
        · exact Or.inr e
    · rw [mSr_stop (Or.inr c)]
      exact ⟨Int.le_refl _, by show d ≤ d + ((n + 1 : Nat) : Int); omega, rfl, fun j j0 j1 => by have j1 : j < d := j1; omega, Or.inr c⟩
theorem hun_step {K : Int} {r : Int → Int} (R : MR K r) {n : Int} (n0 : 0 ≤ n) (hd : r 0 + n ≤ 1059) : mPasI r n 10 ≤ mPasI r (n + 1) 10 ∧ mPasI r (n + 1) 10 ≤ mPasI r n 10 + 720 := by
  have a := MR_pasI R n0 (by omega)
  have t := T2_mPas a.1 (by omega)
  rw [mPasI_s n0]
  exact t.2.2
theorem hun_mono {K : Int} {r : Int → Int} (R : MR K r) {a : Int} (a0 : 0 ≤ a) : ∀ k : Nat, r 0 + a + k ≤ 1060 → mPasI r a 10 ≤ mPasI r (a + k) 10 ∧ mPasI r (a + k) 10 ≤ mPasI r a 10 + 720 * k
  | 0, _ => by rw [show a + ((0 : Nat) : Int) = a by omega]; omega
  | k + 1, h => by
    have ih := hun_mono R a0 k (by omega)
    have s := hun_step R (n := a + k) (by omega) (by omega)
    rw [show a + ((k + 1 : Nat) : Int) = a + k + 1 by omega]
    omega
theorem hun_le {K : Int} {r : Int → Int} (R : MR K r) {a b : Int} (a0 : 0 ≤ a) (ab : a ≤ b) (h : r 0 + b ≤ 1060) : mPasI r a 10 ≤ mPasI r b 10 ∧ mPasI r b 10 ≤ mPasI r a 10 + 720 * (b - a) := by
  have z := hun_mono R a0 (b - a).toNat (by omega)
  rw [show a + ((b - a).toNat : Int) = b by omega] at z
  omega
abbrev hV (r : Int → Int) : Int := if r 10 < (mHu r).2 10 then (mHu r).1 else -1000005
theorem hungry_x {K : Int} {r : Int → Int} (R : MR K r) (d0 : 0 ≤ r 0 ∧ r 0 ≤ 999) {n : Int} (n0 : 1 ≤ n ∧ n ≤ 60) : gV r 10 n = mPasI r n 10 - r 10 ∧ 0 ≤ gV r 10 n ∧ gV r 10 n ≤ 43200 ∧ -1000005 ≤ hV r ∧ hV r ≤ 60 ∧ (0 < hV r → hV r ≤ n → gV r 10 n ≠ 0) ∧ (¬ (0 < hV r ∧ hV r ≤ n) → gV r 10 n = 0) := by
  have e : gV r 10 n = mPasI r n 10 - r 10 := if_neg (by omega)
  have h0 := hun_le R (a := 0) (b := n) (by decide) (by omega) (by omega)
  have e0 : mPasI r 0 10 = r 10 := rfl
  have s : _ := mSr_x (r := r) (p := fun g => decide (g 10 = r 10)) 60 0 (by decide)
  have s : 0 ≤ (mHu r).1 ∧ (mHu r).1 ≤ 0 + ((60 : Nat) : Int) ∧ (mHu r).2 = mPasI r (mHu r).1 ∧ (∀ j, 0 ≤ j → j < (mHu r).1 → decide (mPasI r j 10 = r 10) = true) ∧ ((mHu r).1 = 0 + ((60 : Nat) : Int) ∨ ¬ decide (mPasI r (mHu r).1 10 = r 10) = true) := s
  obtain ⟨s1, s2, s3, s4, s5⟩ := s
  unfold hV
  generalize (mHu r).1 = m at *
  rw [s3]
  by_cases c : r 10 < mPasI r m 10
  · rw [if_pos c]
    refine ⟨e, by omega, by omega, by omega, by omega, fun _ hm => ?_, fun hm => ?_⟩
    · have := hun_le R (a := m) (b := n) s1 hm (by omega)
      omega
    · have m0 : m ≠ 0 := fun z => by rw [z] at c; have : mPasI r 0 10 = r 10 := rfl; omega
      have := of_decide_eq_true (s4 n (by omega) (by omega))
      omega
  · rw [if_neg c]
    refine ⟨e, by omega, by omega, by omega, by omega, fun z => absurd z (by decide), fun _ => ?_⟩
    have z := hun_le R (a := 0) (b := m) (by decide) s1 (by omega)
    rcases s5 with q | q
    · have y := hun_le R (a := n) (b := m) (by omega) (by omega) (by omega)
      omega
    · rw [decide_eq_true_eq] at q; omega
theorem H4_passK {h : HV} {a : Int} (a0 : 0 ≤ a) : ∀ k : Nat, H4 (passI h a) (passI h (a + k))
  | 0 => by rw [show a + ((0 : Nat) : Int) = a by omega]; exact H4.of
  | k + 1 => by
    rw [show a + ((k + 1 : Nat) : Int) = a + k + 1 by omega, passI_s (by omega)]
    exact (H4_passK a0 k).tr H4_pass
theorem H4_passI {h : HV} {a b : Int} (a0 : 0 ≤ a) (ab : a ≤ b) : H4 (passI h a) (passI h b) := by
  have z := H4_passK (h := h) a0 (b - a).toNat
  rwa [show a + ((b - a).toNat : Int) = b by omega] at z
theorem gone_x {hs : Nat → HV} {tp : HV} {r : Int → Int} {k : Int} (S : HLS hs tp r k) {b : Int} : -1000005 ≤ nV r b ∧ nV r b ≤ 60 ∧ (0 < nV r b → 0 ≤ b ∧ b ≤ r 1 - 1 ∧ ∀ n, 1 ≤ n → n ≤ 60 → (mPasI r n (51 + 7 * b + 0) = 2 ↔ nV r b ≤ n)) := by
  obtain ⟨t, t1, P⟩ := S.ps
  have pd := P.day
  have R := P.2.2.2.1
  have rc := R.came
  unfold nV
  by_cases c1 : ¬ (0 ≤ b ∧ b ≤ r 1 - 1)
  · rw [if_pos c1]; exact ⟨by decide, by decide, fun z => absurd z (by decide)⟩
  rw [if_neg c1]
  by_cases c2 : 1 < r (51 + 7 * b + 0)
  · rw [if_pos c2]; exact ⟨by decide, by decide, fun z => absurd z (by decide)⟩
  rw [if_neg c2]
  have s : _ := mSr_x (r := r) (p := fun g => decide (g (51 + 7 * b + 0) ≤ 1)) 60 0 (by decide)
  have s : 0 ≤ (mGn r b).1 ∧ (mGn r b).1 ≤ 0 + ((60 : Nat) : Int) ∧ (mGn r b).2 = mPasI r (mGn r b).1 ∧ (∀ j, 0 ≤ j → j < (mGn r b).1 → decide (mPasI r j (51 + 7 * b + 0) ≤ 1) = true) ∧ ((mGn r b).1 = 0 + ((60 : Nat) : Int) ∨ ¬ decide (mPasI r (mGn r b).1 (51 + 7 * b + 0) ≤ 1) = true) := s
  obtain ⟨s1, s2, s3, s4, s5⟩ := s
  generalize (mGn r b).1 = m at *
  rw [s3]
  by_cases c : mPasI r m (51 + 7 * b + 0) = 2
  · rw [if_pos c]
    refine ⟨by omega, by omega, fun _ => ⟨by omega, by omega, fun n n0 n1 => ⟨fun q => ?_, fun q => ?_⟩⟩⟩
    · by_cases z : m ≤ n
      · exact z
      · have := of_decide_eq_true (s4 n (by omega) (by omega)); omega
    · -- who is gone stays so
      have Qm := P.days (n := m) s1 (by omega)
      have Qn := P.days (n := n) (by omega) (by omega)
      have hm := (Qm.2.2.2.2.1.2.1 b (by omega) (by omega) (by rw [(MR_pasI R s1 (by omega)).2.2 1 (Or.inr (Or.inl rfl)) (by decide)]; omega)).1
      have hn := (Qn.2.2.2.2.1.2.1 b (by omega) (by omega) (by rw [(MR_pasI R (n := n) (by omega) (by omega)).2.2 1 (Or.inr (Or.inl rfl)) (by decide)]; omega)).1
      have st := H4_passI (h := hs 0) s1 q b (by rw [hm, c]; decide)
      rw [← hn, st, hm]; exact c
  · rw [if_neg c]; exact ⟨by decide, by decide, fun z => absurd z (by decide)⟩
