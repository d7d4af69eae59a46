/-! OBJECT AND REFERENCE: when a hut and a row say the same -/
/-- settings, weather, how many bookings, and when and how many each of them is; the day -/
def HK (h : HV) (r : Int → Int) : Prop :=
  (∀ i, 0 ≤ i → i < 10 → h 1 i = r (17 + i)) ∧ (∀ d, 0 ≤ d → d < 1064 → wOf h d = r (611 + d)) ∧ h 3 7 = r 1 ∧ h 0 6 = r 0 ∧
  (∀ b, 0 ≤ b → b < 80 → b < r 1 → h 5 b = r (51 + 7 * b + 1) ∧ h 6 b = r (51 + 7 * b + 2) ∧ h 7 b = r (51 + 7 * b + 3))
/-- the state of each booking, its nights, its deposit, its coming -/
def HB (h : HV) (r : Int → Int) : Prop :=
  ∀ b, 0 ≤ b → b < 80 → b < r 1 → h 4 b = r (51 + 7 * b + 0) ∧ h 8 b = r (51 + 7 * b + 4) ∧ h 9 b = r (51 + 7 * b + 5) ∧
    ((h 10 b = r (51 + 7 * b + 6) ∧ 0 ≤ h 10 b) ∨ (h 10 b = -1 ∧ r (51 + 7 * b + 6) = -1000005 ∧ h 4 b ≠ 1))
/-- what waits for being brought -/
def HO (h : HV) (r : Int → Int) : Prop := h 13 2 = r 3 ∧ ∀ k, 0 ≤ k → k < 12 → k < r 3 → h 14 k = r (27 + k) ∧ h 15 k = r (39 + k)
/-- the counts and the coins -/
def HT (h : HV) (r : Int → Int) : Prop := (∀ c, 0 ≤ c → c < 9 → h 16 c = r (5 + c)) ∧ h 0 7 = r 4 ∧ h 0 8 = r 14 ∧ h 0 9 = r 15 ∧ h 0 10 = r 16
abbrev rF (r : Int → Int) (d : Int) : Int := if 0 ≤ d then r (1675 + d) else 0
/-- the food; fresh food of the thirty days from t on, and none of others -/
def HF (t : Int) (h : HV) (r : Int → Int) : Prop :=
  h 11 1 = r 2 ∧ (∀ d, t ≤ d → d < t + 30 → h 12 (d % 30) = rF r d) ∧ ∀ d, 0 ≤ d → d < 1064 → (d < t ∨ t + 30 ≤ d) → r (1675 + d) = 0
theorem HK.of {h g : HV} {r q : Int → Int} (a : HK h r) (e1 : g 1 = h 1) (e2 : g 2 = h 2) (e3 : g 3 = h 3) (e5 : g 5 = h 5) (e6 : g 6 = h 6) (e7 : g 7 = h 7) (e0 : g 0 6 = h 0 6) (k : ∀ i, kept i → q i = r i) : HK g q := by
  have k1 : q 1 = r 1 := k 1 (Or.inr (Or.inl rfl))
  refine ⟨fun i i0 i1 => ?_, fun d d0 d1 => ?_, ?_, ?_, fun b b0 b1 b2 => ?_⟩
  · rw [e1, k (17 + i) (by unfold kept; omega)]; exact a.1 i i0 i1
  · rw [k (611 + d) (by unfold kept; omega)]
    have := a.2.1 d d0 d1
    unfold wOf at this ⊢; rw [e2]; exact this
  · rw [e3, k1]; exact a.2.2.1
  · rw [e0, k 0 (Or.inl rfl)]; exact a.2.2.2.1
  · have z := a.2.2.2.2 b b0 b1 (by omega)
    rw [e5, e6, e7, k (51 + 7 * b + 1) (by unfold kept; omega), k (51 + 7 * b + 2) (by unfold kept; omega), k (51 + 7 * b + 3) (by unfold kept; omega)]
    exact z
theorem HK.ofS {K K' : Int} {h g : HV} {r q : Int → Int} (a : HK h r) (s : RS K h g) (m : MS K' r q) : HK g q := a.of s.2.1 s.2.2.1 s.2.2.2.1 s.2.2.2.2.1 s.2.2.2.2.2.1 s.2.2.2.2.2.2.1 s.2.2.2.2.2.2.2 m.2
theorem HB.of {h g : HV} {r q : Int → Int} (a : HB h r) (e4 : g 4 = h 4) (e8 : g 8 = h 8) (e9 : g 9 = h 9) (e10 : g 10 = h 10) (k1 : q 1 = r 1) (k : ∀ i, 51 ≤ i → i < 611 → q i = r i) : HB g q := by
  intro b b0 b1 b2
  have z := a b b0 b1 (by omega)
  rw [e4, e8, e9, e10, k _ (by omega) (by omega), k (51 + 7 * b + 4) (by omega) (by omega), k (51 + 7 * b + 5) (by omega) (by omega), k (51 + 7 * b + 6) (by omega) (by omega)]
  exact z
theorem HO.of {h g : HV} {r q : Int → Int} (a : HO h r) (e13 : g 13 2 = h 13 2) (e14 : g 14 = h 14) (e15 : g 15 = h 15) (k3 : q 3 = r 3) (k : ∀ i, 27 ≤ i → i < 51 → q i = r i) : HO g q := by
  refine ⟨by rw [e13, k3]; exact a.1, fun i i0 i1 i2 => ?_⟩
  rw [e14, e15, k (27 + i) (by omega) (by omega), k (39 + i) (by omega) (by omega)]
  exact a.2 i i0 i1 (by omega)
theorem HT.of {h g : HV} {r q : Int → Int} (a : HT h r) (e16 : g 16 = h 16) (e7 : g 0 7 = h 0 7) (e8 : g 0 8 = h 0 8) (e9 : g 0 9 = h 0 9) (e10 : g 0 10 = h 0 10) (k : ∀ i, 4 ≤ i → i < 17 → q i = r i) : HT g q := by
  refine ⟨fun c c0 c1 => ?_, ?_, ?_, ?_, ?_⟩
  · rw [e16, k (5 + c) (by omega) (by omega)]; exact a.1 c c0 c1
  · rw [e7, k 4 (by decide) (by decide)]; exact a.2.1
  · rw [e8, k 14 (by decide) (by decide)]; exact a.2.2.1
  · rw [e9, k 15 (by decide) (by decide)]; exact a.2.2.2.1
  · rw [e10, k 16 (by decide) (by decide)]; exact a.2.2.2.2
theorem HF.of {t : Int} {h g : HV} {r q : Int → Int} (a : HF t h r) (e11 : g 11 1 = h 11 1) (e12 : g 12 = h 12) (k2 : q 2 = r 2) (k : ∀ i, 1675 ≤ i → i < 2739 → q i = r i) (ht : t ≤ 1034) : HF t g q := by
  refine ⟨by rw [e11, k2]; exact a.1, fun d d0 d1 => ?_, fun d d0 d1 d2 => ?_⟩
  · rw [e12, a.2.1 d d0 d1]
    show (if 0 ≤ d then r (1675 + d) else 0) = if 0 ≤ d then q (1675 + d) else 0
    split
    · rw [k (1675 + d) (by omega) (by omega)]
    · rfl
  · rw [k (1675 + d) (by omega) (by omega)]; exact a.2.2 d d0 d1 d2
/-- all of it -/
def HS (t : Int) (h : HV) (r : Int → Int) : Prop := HK h r ∧ HB h r ∧ HO h r ∧ HT h r ∧ HF t h r
theorem nThere_eq {h : HV} {r : Int → Int} (k : HK h r) (b : HB h r) (m1 : r 1 ≤ 80) : nThere h = nPer r := by
  unfold nPer; show sumI (gThere h) (h 3 7) = _
  rw [k.2.2.1]
  exact sumI_cg fun i i0 i1 => by
    have z := b i i0 (by omega) i1
    have y := k.2.2.2.2 i i0 (by omega) i1
    show (if h 4 i = 1 then h 7 i else 0) = if r (51 + 7 * i + 0) = 1 then r (51 + 7 * i + 3) else 0
    rw [z.1, y.2.2]
theorem nBeds_eq {K K' : Int} {h : HV} {r : Int → Int} (R : RG K h) (k : HK h r) (b : HB h r) (m1 : r 1 ≤ 80) {d : Int} : nBeds h d d = mTk r d := by
  unfold mTk; show sumI (gBeds h d d) (h 3 7) = _
  rw [k.2.2.1]
  exact sumI_cg fun i i0 i1 => by
    have z := b i i0 (by omega) i1
    have y := k.2.2.2.2 i i0 (by omega) i1
    have hw := R.how i0 (show i < 80 by omega)
    have hg : gShared h d d i = if h 5 i ≤ d ∧ d ≤ h 5 i + h 6 i - 1 then 1 else gShared h d d i := by
      split
      · rename_i q
        show (if h 5 i + h 6 i ≤ d + 1 then h 5 i + h 6 i else d + 1) - (if h 5 i < d then d else h 5 i) = 1
        split <;> split <;> omega
      · rfl
    have hn : ¬ (h 5 i ≤ d ∧ d ≤ h 5 i + h 6 i - 1) → ¬ 0 < gShared h d d i := fun q => by
      show ¬ 0 < (if h 5 i + h 6 i ≤ d + 1 then h 5 i + h 6 i else d + 1) - (if h 5 i < d then d else h 5 i)
      split <;> split <;> omega
    show (if gHold h i ∧ 0 < gShared h d d i then gShared h d d i * h 7 i else 0) = if mHas r d i then r (51 + 7 * i + 3) else 0
    unfold mHas gHold
    rw [← z.1, ← y.1, ← y.2.1, ← y.2.2]
    by_cases q : h 5 i ≤ d ∧ d ≤ h 5 i + h 6 i - 1
    · rw [if_pos q] at hg
      by_cases w : h 4 i ≤ 1
      · rw [if_pos ⟨by omega, by rw [hg]; decide⟩, if_pos ⟨w, q⟩, hg, Int.one_mul]
      · rw [if_neg (fun e => by have := e.1; omega), if_neg (fun e => w e.1)]
    · rw [if_neg (fun e => hn q e.2), if_neg (fun e => q e.2)]
