/-! THE REFERENCE's TEXT -/
abbrev mPl (md : HV) (p : Int) : HV := upr md 0 (up1 (md 0) 5 p)
theorem upr_ww {h : HV} {c : Nat} {f : Int → Int} {i v w : Int} : upr (upr h c (up1 f i v)) c (up1 (upr h c (up1 f i v) c) i w) = upr h c (up1 f i w) := by
  rw [upr_w, up1_up1]
def TX (f : Int → Int) (L : Int) : Prop := (0 ≤ L ∧ L ≤ 60) ∧ ∀ i, 0 ≤ i → i < 60 → 0 ≤ f i ∧ f i ≤ 65535
abbrev nx (f : Int → Int) (L p l m : Int) : Prop := p < L ∧ l ≤ f p ∧ f p ≤ m
def rdD (f : Int → Int) (L : Int) : Nat → Int → Int → Int × Int
  | 0, v, p => (v, p)
  | n + 1, v, p => if 0 < v ∧ nx f L p 48 57 ∧ 10 * v + f p - 48 ≤ 899 then rdD f L n (10 * v + f p - 48) (p + 1) else (v, p)
theorem rdD_go {f : Int → Int} {L v p : Int} {n : Nat} (h : 0 < v ∧ nx f L p 48 57 ∧ 10 * v + f p - 48 ≤ 899) : rdD f L (n + 1) v p = rdD f L n (10 * v + f p - 48) (p + 1) := if_pos h
theorem rdD_stop {f : Int → Int} {L v p : Int} {n : Nat} (h : ¬ (0 < v ∧ nx f L p 48 57 ∧ 10 * v + f p - 48 ≤ 899)) : rdD f L n v p = (v, p) := by
  cases n with
  | zero => rfl
  | succ n => exact if_neg h
def rdE (f : Int → Int) (L v p : Int) : Int × Int := if ¬ nx f L p 43 43 then (-100 - p, p) else if ¬ nx f L (p + 1) 49 57 then (-100 - (p + 1), p + 1) else if ¬ nx f L (p + 1 + 1) 120 120 then (-100 - (p + 1 + 1), p + 1 + 1) else
  if ¬ nx f L (p + 1 + 1 + 1) 49 57 then (-100 - (p + 1 + 1 + 1), p + 1 + 1 + 1) else (100 * v + 10 * (f (p + 1) - 48) + (f (p + 1 + 1 + 1) - 48), p + 1 + 1 + 1 + 1)
abbrev rdQ (f : Int → Int) (L p : Int) : Int × Int := rdD f L 60 (f p - 48) (p + 1)
def rdB (f : Int → Int) (L p : Int) : Int × Int := if ¬ nx f L p 48 57 then (-100 - p, p) else rdE f L (rdQ f L p).1 (rdQ f L p).2
theorem rdE_r {f : Int → Int} {L v p : Int} (hL : L ≤ 60) (v0 : 0 ≤ v ∧ v ≤ 899) (p0 : 0 ≤ p ∧ p ≤ 61) : (rdE f L v p).2 ≤ 61 ∧ p ≤ (rdE f L v p).2 ∧ -161 ≤ (rdE f L v p).1 ∧ (rdE f L v p).1 ≤ 89999 ∧ (0 ≤ (rdE f L v p).1 → p + 4 ≤ (rdE f L v p).2 ∧ (rdE f L v p).2 ≤ L ∧ (rdE f L v p).1 / 100 ≤ 899 ∧ 1 ≤ (rdE f L v p).1 / 10 % 10 ∧ 1 ≤ (rdE f L v p).1 % 10) := by
  unfold rdE nx
  by_cases c1 : ¬ (p < L ∧ 43 ≤ f p ∧ f p ≤ 43)
  · rw [if_pos c1]; refine ⟨?_, ?_, ?_, ?_, fun h => ?_⟩ <;> dsimp only at * <;> omega
  rw [if_neg c1]
  by_cases c2 : ¬ (p + 1 < L ∧ 49 ≤ f (p + 1) ∧ f (p + 1) ≤ 57)
  · rw [if_pos c2]; refine ⟨?_, ?_, ?_, ?_, fun h => ?_⟩ <;> dsimp only at * <;> omega
  rw [if_neg c2]
  by_cases c3 : ¬ (p + 1 + 1 < L ∧ 120 ≤ f (p + 1 + 1) ∧ f (p + 1 + 1) ≤ 120)
  · rw [if_pos c3]; refine ⟨?_, ?_, ?_, ?_, fun h => ?_⟩ <;> dsimp only at * <;> omega
  rw [if_neg c3]
  by_cases c4 : ¬ (p + 1 + 1 + 1 < L ∧ 49 ≤ f (p + 1 + 1 + 1) ∧ f (p + 1 + 1 + 1) ≤ 57)
  · rw [if_pos c4]; refine ⟨?_, ?_, ?_, ?_, fun h => ?_⟩ <;> dsimp only at * <;> omega
  rw [if_neg c4]; refine ⟨?_, ?_, ?_, ?_, fun h => ?_⟩ <;> dsimp only at * <;> omega
theorem rdD_r {f : Int → Int} {L : Int} (hL : L ≤ 60) : ∀ (n : Nat) (v p : Int), 0 ≤ v ∧ v ≤ 899 → 0 ≤ p ∧ p ≤ 61 → (0 ≤ (rdD f L n v p).1 ∧ (rdD f L n v p).1 ≤ 899) ∧ p ≤ (rdD f L n v p).2 ∧ (rdD f L n v p).2 ≤ 61
  | 0, v, p, v0, p0 => ⟨v0, Int.le_refl _, p0.2⟩
  | n + 1, v, p, v0, p0 => by
    by_cases h : 0 < v ∧ nx f L p 48 57 ∧ 10 * v + f p - 48 ≤ 899
    · rw [rdD_go h]
      have h2 : p < L ∧ 48 ≤ f p ∧ f p ≤ 57 := h.2.1
      have h3 := h.2.2
      have a := rdD_r (f := f) hL n (10 * v + f p - 48) (p + 1) ⟨by omega, by omega⟩ ⟨by omega, by omega⟩
      exact ⟨a.1, by omega, a.2.2⟩
    · rw [rdD_stop h]; exact ⟨v0, Int.le_refl _, p0.2⟩
theorem rdB_r {f : Int → Int} {L p : Int} (hL : L ≤ 60) (p0 : 0 ≤ p ∧ p ≤ 61) : (rdB f L p).2 ≤ 61 ∧ p ≤ (rdB f L p).2 ∧ -161 ≤ (rdB f L p).1 ∧ (rdB f L p).1 ≤ 89999 ∧ (0 ≤ (rdB f L p).1 → p + 5 ≤ (rdB f L p).2 ∧ (rdB f L p).2 ≤ L ∧ (rdB f L p).1 / 100 ≤ 899 ∧ 1 ≤ (rdB f L p).1 / 10 % 10 ∧ 1 ≤ (rdB f L p).1 % 10) := by
  unfold rdB
  by_cases c : ¬ nx f L p 48 57
  · rw [if_pos c]; refine ⟨?_, ?_, ?_, ?_, fun h => ?_⟩ <;> dsimp only at * <;> omega
  rw [if_neg c]
  have c2 : p < L ∧ 48 ≤ f p ∧ f p ≤ 57 := Classical.not_not.mp c
  have q := rdD_r (f := f) hL 60 (f p - 48) (p + 1) ⟨by omega, by omega⟩ ⟨by omega, by omega⟩
  have e := rdE_r (f := f) (v := (rdQ f L p).1) (p := (rdQ f L p).2) hL q.1 ⟨by have := q.2.1; show 0 ≤ (rdD f L 60 (f p - 48) (p + 1)).2; omega, q.2.2⟩
  have q2 : p + 1 ≤ (rdQ f L p).2 := q.2.1
  refine ⟨e.1, by omega, e.2.2.1, e.2.2.2.1, fun h => ?_⟩
  have e5 := e.2.2.2.2 h
  exact ⟨by omega, e5.2⟩
def rdA (f : Int → Int) (L : Int) : Nat → Int → Int → Int × Int
  | 0, p, c => (c, p)
  | n + 1, p, c => if (rdB f L p).1 < 0 then rdB f L p else if nx f L (rdB f L p).2 59 59 then rdA f L n ((rdB f L p).2 + 1) (c + 1) else (if (rdB f L p).2 < L then -100 - (rdB f L p).2 else c + 1, (rdB f L p).2)
abbrev rdAll (f : Int → Int) (L : Int) : Int × Int := rdA f L 61 0 0
