/-! EATING, both sides -/
abbrev eT (g : Int → Int) (d j : Int) : Int := sumI (fun q => g (1675 + (d + q))) j
abbrev eM (l x : Int) : Int := if l ≤ x then l else x
theorem sumI_front {f : Int → Int} {n : Int} (n0 : 0 ≤ n) : sumI f (n + 1) = f 0 + sumI (fun q => f (1 + q)) n := by
  have e := sumI_add (f := f) (a := 1) (n := n) (by decide) n0
  rw [show n + 1 = 1 + n by omega, e]
  have e1 : sumI f 1 = f 0 := by
    have q := sumI_s (f := f) (i := 0) (by decide)
    rw [sumI_0, Int.zero_add, Int.zero_add] at q; exact q
  rw [e1]
theorem mEt_c : ∀ (n : Nat) (d : Int) (g : Int → Int) (l : Int), 0 ≤ d → 0 ≤ l → (∀ q : Int, 0 ≤ q → q < n → 0 ≤ g (1675 + (d + q))) →
    (mEt n d g l).2 = l - eM l (eT g d n) ∧ (mEt n d g l).1 8 = g 8 + eM l (eT g d n) ∧ (∀ j : Int, 0 ≤ j → j < n → (mEt n d g l).1 (1675 + (d + j)) = g (1675 + (d + j)) - (eM l (eT g d (j + 1)) - eM l (eT g d j))) ∧
    (∀ i : Int, i ≠ 8 → ¬ (1675 + d ≤ i ∧ i < 1675 + d + n) → (mEt n d g l).1 i = g i)
  | 0, d, g, l, _, l0, _ => by
    have e : eM l (eT g d ((0 : Nat) : Int)) = 0 := by
      show (if l ≤ sumI _ 0 then l else sumI _ 0) = 0
      rw [sumI_0]; split <;> omega
    rw [e]
    exact ⟨by show l = l - 0; omega, by show g 8 = g 8 + 0; omega, fun j j0 j1 => absurd j1 (by omega), fun i _ _ => rfl⟩
  | n + 1, d, g, l, d0, l0, hg => by
    have pos : ∀ j : Int, 0 ≤ j → j ≤ n + 1 → 0 ≤ eT g d j := fun j j0 j1 => sumI_sign j0 fun k k0 k1 => hg k k0 (by omega)
    by_cases h : 0 < l
    · rw [mEt_go h]
      have a0 : 0 ≤ g (1675 + d) := by have := hg 0 (by decide) (by omega); rwa [Int.add_zero] at this
      have ep : mEp g d l = if g (1675 + d) < l then g (1675 + d) else l := rfl
      have hp := mEp_r a0 h
      have gk : ∀ i : Int, i ≠ 8 → i ≠ 1675 + d → mE1 g d l i = g i := fun i n1 n2 => by
        show up1 (up1 g (1675 + d) _) 8 _ i = g i
        rw [up1_ne n1, up1_ne n2]
      have g8 : mE1 g d l 8 = g 8 + mEp g d l := up1_same
      have gd : mE1 g d l (1675 + d) = g (1675 + d) - mEp g d l := by
        show up1 (up1 g (1675 + d) (g (1675 + d) - mEp g d l)) 8 _ (1675 + d) = _
        rw [up1_ne (by omega), up1_same]
      have ih := mEt_c n (d + 1) (mE1 g d l) (l - mEp g d l) (by omega) (by omega) (fun q q0 q1 => by
        rw [gk _ (by omega) (by omega), show 1675 + (d + 1 + q) = 1675 + (d + (1 + q)) by omega]; exact hg (1 + q) (by omega) (by omega))
      -- the sums on
      have eT1 : ∀ j : Int, 0 ≤ j → j ≤ n → eT g d (j + 1) = g (1675 + d) + eT (mE1 g d l) (d + 1) j := fun j j0 j1 => by
        show sumI (fun q => g (1675 + (d + q))) (j + 1) = _
        rw [sumI_front j0, Int.add_zero]
        congr 1
        exact sumI_cg fun k k0 k1 => by rw [gk _ (by omega) (by omega), show 1675 + (d + 1 + k) = 1675 + (d + (1 + k)) by omega]
      have eE : ∀ j : Int, 0 ≤ j → j ≤ n → eM l (eT g d (j + 1)) = mEp g d l + eM (l - mEp g d l) (eT (mE1 g d l) (d + 1) j) := fun j j0 j1 => by
        have e := eT1 j j0 j1
        have p0 : 0 ≤ eT (mE1 g d l) (d + 1) j := sumI_sign j0 fun k k0 k1 => by
          rw [gk _ (by omega) (by omega), show 1675 + (d + 1 + k) = 1675 + (d + (1 + k)) by omega]; exact hg (1 + k) (by omega) (by omega)
        show (if l ≤ eT g d (j + 1) then l else eT g d (j + 1)) = mEp g d l + (if l - mEp g d l ≤ eT (mE1 g d l) (d + 1) j then l - mEp g d l else eT (mE1 g d l) (d + 1) j)
        by_cases c : g (1675 + d) < l
        · rw [if_pos c] at ep
          rw [ep, e]; split <;> split <;> omega
        · rw [if_neg c] at ep
          rw [ep, e]; split <;> split <;> omega
      have e0 : eM l (eT g d 0) = 0 := by
        show (if l ≤ sumI _ 0 then l else sumI _ 0) = 0
        rw [sumI_0]; split <;> omega
      have e00 : eM (l - mEp g d l) (eT (mE1 g d l) (d + 1) 0) = 0 := by
        show (if l - mEp g d l ≤ sumI _ 0 then l - mEp g d l else sumI _ 0) = 0
        rw [sumI_0]; split <;> omega
      have en := eE n (by omega) (Int.le_refl _)
      have cast : (((n + 1 : Nat) : Int)) = (n : Int) + 1 := by omega
      refine ⟨?_, ?_, fun j j0 j1 => ?_, fun i n8 ni => ?_⟩
      · rw [ih.1, cast, en]; omega
      · rw [ih.2.1, cast, en, g8]; omega
      · by_cases q : j = 0
        · subst q
          rw [Int.add_zero, ih.2.2.2 (1675 + d) (by omega) (by omega), gd, eE 0 (by decide) (by omega), e0, e00]; omega
        · have z := ih.2.2.1 (j - 1) (by omega) (by omega)
          rw [show 1675 + (d + 1 + (j - 1)) = 1675 + (d + j) by omega, gk _ (by omega) (by omega), show j - 1 + 1 = j by omega] at z
          have w := eE (j - 1) (by omega) (by omega)
          rw [show j - 1 + 1 = j by omega] at w
          rw [z, eE j j0 (by omega), w]; omega
      · rw [ih.2.2.2 i n8 (by omega), gk i n8 (by omega)]
    · rw [mEt_stop (Or.inl h)]
      have e : ∀ j : Int, 0 ≤ j → j ≤ n + 1 → eM l (eT g d j) = 0 := fun j j0 j1 => by
        have := pos j j0 j1
        show (if l ≤ eT g d j then l else eT g d j) = 0
        split <;> omega
      refine ⟨?_, ?_, fun j j0 j1 => ?_, fun i _ _ => rfl⟩
      · rw [e _ (by omega) (by omega)]; show l = l - 0; omega
      · rw [e _ (by omega) (by omega)]; show g 8 = g 8 + 0; omega
      · rw [e _ (by omega) (by omega), e _ (by omega) (by omega)]; show g (1675 + (d + j)) = g (1675 + (d + j)) - (0 - 0); omega
