/-! THE TEXT, both sides: the object reads sign by sign, the reference booking by booking -/
/-- what the object's reading leaves as it was -/
def TK (L : Int) (f : Int → Int) (t : HV) : Prop := t 4 1 = L ∧ ∀ i, 0 ≤ i → i < 60 → t 5 i = f i
theorem TK.mv {L : Int} {f : Int → Int} {t : HV} (T : TK L f t) {c : Int} : TK L f (xA t c) := by
  have a := xA_len (t := t) (c := c)
  exact ⟨a.1.trans T.1, fun i i0 i1 => by rw [a.2]; exact T.2 i i0 i1⟩
theorem xA_old {t : HV} {c j : Int} (h : j < t 4 5) : xA t c 6 j = t 6 j ∧ xA t c 7 j = t 7 j ∧ xA t c 8 j = t 8 j ∧ t 4 5 ≤ xA t c 4 5 := by
  unfold xA xDB xDD xNi xPe
  have e : ∀ f : Int → Int, ∀ v, up1 f (t 4 5) v j = f j := fun f v => up1_ne (by omega)
  have w : t 4 5 ≤ up1 (up1 (t 4) 5 (t 4 5 + 1)) 6 5 5 := by rw [up1_ne (by decide), up1_same]; omega
  repeat' split
  all_goals first
    | exact ⟨rfl, rfl, rfl, Int.le_refl _⟩
    | exact ⟨e _ _, e _ _, e _ _, w⟩
theorem ffN_old : ∀ (n : Nat) (i : Int) {t : HV} {j : Int}, j < t 4 5 → (ffN n i t).2 6 j = t 6 j ∧ (ffN n i t).2 7 j = t 7 j ∧ (ffN n i t).2 8 j = t 8 j
  | 0, _, t, j, h => ⟨rfl, rfl, rfl⟩
  | n + 1, i, t, j, h => by
    have a := xA_old (c := t 5 i) h
    unfold ffN; split
    · have b := ffN_old n (i + 1) (t := xA t (t 5 i)) (j := j) (by omega)
      exact ⟨b.1.trans a.1, b.2.1.trans a.2.1, b.2.2.trans a.2.2.1⟩
    · exact ⟨a.1, a.2.1, a.2.2.1⟩
/-- one sign, and where the text ends -/
theorem ff_go {L p : Int} {f : Int → Int} {t : HV} (T : TK L f t) (p0 : 0 ≤ p) (hL : L ≤ 60) (h : p < L) (q : kA t (f p)) : ffN (L - p).toNat p t = ffN (L - (p + 1)).toNat (p + 1) (xA t (f p)) := by
  have e : t 5 p = f p := T.2 p p0 (by omega)
  rw [show (L - p).toNat = (L - (p + 1)).toNat + 1 by omega, ffN_t (by rw [e]; exact q), e]
theorem ff_no {L p : Int} {f : Int → Int} {t : HV} (T : TK L f t) (p0 : 0 ≤ p) (hL : L ≤ 60) (h : p ≤ L) (k5 : t 4 6 ≠ 5) (q : p < L → ¬ kA t (f p)) : (ffN (L - p).toNat p t).1 = p := by
  by_cases c : p < L
  · have e : t 5 p = f p := T.2 p p0 (by omega)
    rw [show (L - p).toNat = (L - (p + 1)).toNat + 1 by omega, ffN_f (by rw [e]; exact q c)]
  · rw [ffN_0 (by omega), if_neg k5]
    show t 4 1 = p
    rw [T.1]; omega
/-- from the end of the day's number on -/
theorem ff_E {L p v c : Int} {f : Int → Int} {t : HV} (T : TK L f t) (p0 : 0 ≤ p) (hL : L ≤ 60) (h : p ≤ L) (e6 : t 4 6 = 1) (e7 : t 4 7 = v) (e5 : t 4 5 = c) (c0 : 0 ≤ c) (c1 : c < 10) (v0 : 0 ≤ v) (hs : ¬ (0 < v ∧ nx f L p 48 57 ∧ 10 * v + f p - 48 ≤ 899)) :
    ((rdE f L v p).1 < 0 → (ffN (L - p).toNat p t).1 = -100 - (rdE f L v p).1) ∧
    (0 ≤ (rdE f L v p).1 → ∃ u : HV, ffN (L - p).toNat p t = ffN (L - (rdE f L v p).2).toNat (rdE f L v p).2 u ∧ TK L f u ∧ u 4 6 = 5 ∧ u 4 5 = c + 1 ∧ u 6 c = (rdE f L v p).1 / 100 ∧ u 7 c = (rdE f L v p).1 / 10 % 10 ∧ u 8 c = (rdE f L v p).1 % 10 ∧ (rdE f L v p).2 ≤ L) := by
  unfold rdE nx
  by_cases h1 : p < L ∧ 43 ≤ f p ∧ f p ≤ 43
  · rw [if_neg (not_not_intro h1)]
    have k1 : f p = 43 := by omega
    have x1 : xA t (f p) = xMv t 2 := by rw [xA_1 e6, if_pos k1]
    rw [ff_go T p0 hL h1.1 (Or.inr (Or.inl ⟨e6, Or.inl k1⟩)), x1]
    have T1 : TK L f (xMv t 2) := by rw [← x1]; exact T.mv
    have f6 : xMv t 2 4 6 = 2 := by show up1 (t 4) 6 2 6 = 2; exact up1_same
    by_cases h2 : p + 1 < L ∧ 49 ≤ f (p + 1) ∧ f (p + 1) ≤ 57
    · rw [if_neg (not_not_intro h2)]
      have x2 : xA (xMv t 2) (f (p + 1)) = xMv (upr (xMv t 2) 4 (up1 (xMv t 2 4) 8 (f (p + 1) - 48))) 3 := by rw [xA_2 f6]; exact if_pos h2.2
      rw [ff_go T1 (by omega) hL h2.1 (Or.inr (Or.inr (Or.inl ⟨f6, h2.2⟩))), x2]
      generalize hu : xMv (upr (xMv t 2) 4 (up1 (xMv t 2 4) 8 (f (p + 1) - 48))) 3 = u at x2
      have T2 : TK L f u := by rw [← x2]; exact T1.mv
      have u6 : u 4 6 = 3 := by
        rw [← hu]; show up1 (up1 (up1 (t 4) 6 2) 8 (f (p + 1) - 48)) 6 3 6 = 3; exact up1_same
      have u7 : u 4 7 = v := by
        rw [← hu, ← e7]; show up1 (up1 (up1 (t 4) 6 2) 8 (f (p + 1) - 48)) 6 3 7 = t 4 7
        rw [up1_ne (by decide), up1_ne (by decide), up1_ne (by decide)]
      have u8 : u 4 8 = f (p + 1) - 48 := by
        rw [← hu]; show up1 (up1 (up1 (t 4) 6 2) 8 (f (p + 1) - 48)) 6 3 8 = _
        rw [up1_ne (by decide), up1_same]
      have u5 : u 4 5 = c := by
        rw [← hu, ← e5]; show up1 (up1 (up1 (t 4) 6 2) 8 (f (p + 1) - 48)) 6 3 5 = t 4 5
        rw [up1_ne (by decide), up1_ne (by decide), up1_ne (by decide)]
      by_cases h3 : p + 1 + 1 < L ∧ 120 ≤ f (p + 1 + 1) ∧ f (p + 1 + 1) ≤ 120
      · rw [if_neg (not_not_intro h3)]
        have k3 : f (p + 1 + 1) = 120 := by omega
        have x3 : xA u (f (p + 1 + 1)) = xMv u 4 := by rw [xA_3 u6, if_pos k3]
        rw [ff_go T2 (by omega) hL h3.1 (Or.inr (Or.inr (Or.inr (Or.inl ⟨u6, k3⟩)))), x3]
        have T3 : TK L f (xMv u 4) := by rw [← x3]; exact T2.mv
        have g6 : xMv u 4 4 6 = 4 := by show up1 (u 4) 6 4 6 = 4; exact up1_same
        have g5 : xMv u 4 4 5 = c := by show up1 (u 4) 6 4 5 = c; rw [up1_ne (by decide)]; exact u5
        have g7 : xMv u 4 4 7 = v := by show up1 (u 4) 6 4 7 = v; rw [up1_ne (by decide)]; exact u7
        have g8 : xMv u 4 4 8 = f (p + 1) - 48 := by show up1 (u 4) 6 4 8 = _; rw [up1_ne (by decide)]; exact u8
        by_cases h4 : p + 1 + 1 + 1 < L ∧ 49 ≤ f (p + 1 + 1 + 1) ∧ f (p + 1 + 1 + 1) ≤ 57
        · rw [if_neg (not_not_intro h4)]
          refine ⟨fun z => ?_, fun _ => ?_⟩
          · dsimp only at z; omega
          have kp : kPe (xMv u 4) (f (p + 1 + 1 + 1)) := ⟨h4.2, by rw [g5]; exact c1⟩
          rw [ff_go T3 (by omega) hL h4.1 (Or.inr (Or.inr (Or.inr (Or.inr (Or.inl ⟨g6, kp⟩)))))]
          refine ⟨xA (xMv u 4) (f (p + 1 + 1 + 1)), rfl, T3.mv, ?_, ?_, ?_, ?_, ?_, ?_⟩
          · rw [xA_4 g6]; unfold xPe; rw [if_pos kp]
            exact up1_same (f := up1 (xMv u 4 4) 5 (xMv u 4 4 5 + 1)) (i := 6) (v := 5)
          · rw [xA_4 g6]; unfold xPe; rw [if_pos kp]
            show up1 (up1 (xMv u 4 4) 5 (xMv u 4 4 5 + 1)) 6 5 5 = c + 1
            rw [up1_ne (by decide), up1_same, g5]
          · rw [xA_4 g6]; unfold xPe; rw [if_pos kp]
            show up1 (xMv u 4 6) (xMv u 4 4 5) (xMv u 4 4 7) c = (100 * v + 10 * (f (p + 1) - 48) + (f (p + 1 + 1 + 1) - 48)) / 100
            rw [g5, up1_same, g7]; omega
          · rw [xA_4 g6]; unfold xPe; rw [if_pos kp]
            show up1 (xMv u 4 7) (xMv u 4 4 5) (xMv u 4 4 8) c = (100 * v + 10 * (f (p + 1) - 48) + (f (p + 1 + 1 + 1) - 48)) / 10 % 10
            rw [g5, up1_same, g8]; omega
          · rw [xA_4 g6]; unfold xPe; rw [if_pos kp]
            show up1 (xMv u 4 8) (xMv u 4 4 5) (f (p + 1 + 1 + 1) - 48) c = (100 * v + 10 * (f (p + 1) - 48) + (f (p + 1 + 1 + 1) - 48)) % 10
            rw [g5, up1_same]; omega
          · show p + 1 + 1 + 1 + 1 ≤ L; omega
        · rw [if_pos h4]
          refine ⟨fun _ => ?_, fun z => by dsimp only at z; omega⟩
          rw [ff_no T3 (by omega) hL (by omega) (by rw [g6]; decide) fun w q => ?_]
          · show p + 1 + 1 + 1 = -100 - (-100 - (p + 1 + 1 + 1)); omega
          · rcases q with q | q | q | q | q | q
            · have := q.1; omega
            · have := q.1; omega
            · have := q.1; omega
            · have := q.1; omega
            · exact h4 ⟨w, q.2.1⟩
            · have := q.1; omega
      · rw [if_pos h3]
        refine ⟨fun _ => ?_, fun z => by dsimp only at z; omega⟩
        rw [ff_no T2 (by omega) hL (by omega) (by rw [u6]; decide) fun w q => ?_]
        · show p + 1 + 1 = -100 - (-100 - (p + 1 + 1)); omega
        · rcases q with q | q | q | q | q | q
          · have := q.1; omega
          · have := q.1; omega
          · have := q.1; omega
          · exact h3 ⟨w, by omega, by omega⟩
          · have := q.1; omega
          · have := q.1; omega
    · rw [if_pos h2]
      refine ⟨fun _ => ?_, fun z => by dsimp only at z; omega⟩
      rw [ff_no T1 (by omega) hL (by omega) (by rw [f6]; decide) fun w q => ?_]
      · show p + 1 = -100 - (-100 - (p + 1)); omega
      · rcases q with q | q | q | q | q | q
        · have := q.1; omega
        · have := q.1; omega
        · exact h2 ⟨w, q.2⟩
        · have := q.1; omega
        · have := q.1; omega
        · have := q.1; omega
  · rw [if_pos h1]
    refine ⟨fun _ => ?_, fun z => by dsimp only at z; omega⟩
    rw [ff_no T p0 hL h (by rw [e6]; decide) fun w q => ?_]
    · show p = -100 - (-100 - p); omega
    · rcases q with q | q | q | q | q | q
      · have := q.1; omega
      · rcases q.2 with z | z
        · exact h1 ⟨w, by omega, by omega⟩
        · exact hs ⟨by have := z.2.1; omega, ⟨w, z.1⟩, by have := z.2.2; omega⟩
      · have := q.1; omega
      · have := q.1; omega
      · have := q.1; omega
      · have := q.1; omega
