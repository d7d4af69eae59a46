/-! THE START, both sides -/
theorem m0_z {i : Int} (h : i < 17 ∨ 27 ≤ i) : m0 i = 0 := by
  unfold m0
  rw [up1_ne (by omega), up1_ne (by omega), up1_ne (by omega), up1_ne (by omega), up1_ne (by omega), up1_ne (by omega), up1_ne (by omega), up1_ne (by omega), up1_ne (by omega), up1_ne (by omega)]
theorem m0_s {i : Int} (h0 : 0 ≤ i) (h1 : i < 10) : m0 (17 + i) = stV 0 i.toNat := by
  have k : i = 0 ∨ i = 1 ∨ i = 2 ∨ i = 3 ∨ i = 4 ∨ i = 5 ∨ i = 6 ∨ i = 7 ∨ i = 8 ∨ i = 9 := by omega
  rcases k with rfl | rfl | rfl | rfl | rfl | rfl | rfl | rfl | rfl | rfl <;> rfl
theorem stV_0 {i : Int} (h0 : 0 ≤ i) (h1 : i < 10) : stV 1 i.toNat ≤ stV 0 i.toNat ∧ stV 0 i.toNat ≤ stV 2 i.toNat := by
  have k : i = 0 ∨ i = 1 ∨ i = 2 ∨ i = 3 ∨ i = 4 ∨ i = 5 ∨ i = 6 ∨ i = 7 ∨ i = 8 ∨ i = 9 := by omega
  rcases k with rfl | rfl | rfl | rfl | rfl | rfl | rfl | rfl | rfl | rfl <;> decide
theorem RG_z {K : Int} (hK : 0 ≤ K) : RG K zH := by
  refine ⟨fun i h0 h1 => ?_, fun i h0 h1 => ?_, ?_, fun b b0 b1 => ⟨?_, ?_, ?_, ?_, ?_⟩, ?_, fun i h0 h1 => ?_, ?_, fun i h0 h1 => ⟨?_, ?_⟩, ?_, ?_⟩
  · have e : zH 1 i = stV 0 i.toNat := if_pos ⟨h0, h1⟩
    rw [e]; exact stV_0 h0 h1
  · show (0 : Int) ≤ 0 ∧ (0 : Int) ≤ 7; decide
  · show (0 : Int) ≤ 0 ∧ (0 : Int) ≤ 80; decide
  · show (0 : Int) ≤ 0 ∧ (0 : Int) ≤ 4; decide
  · show (0 : Int) ≤ 0 ∧ (0 : Int) ≤ 899; decide
  · show (0 : Int) ≤ 0 ∧ (0 : Int) ≤ 9; decide
  · show (0 : Int) ≤ 0 ∧ (0 : Int) ≤ 9; decide
  · show (-1 : Int) ≤ 0 ∧ (0 : Int) ≤ 1060; decide
  · show (0 : Int) ≤ 0 ∧ (0 : Int) ≤ K; exact ⟨Int.le_refl _, hK⟩
  · show (0 : Int) ≤ 0 ∧ (0 : Int) ≤ K; exact ⟨Int.le_refl _, hK⟩
  · show (0 : Int) ≤ 0 ∧ (0 : Int) ≤ 12; decide
  · show (0 : Int) ≤ 0 ∧ (0 : Int) ≤ 1; decide
  · show (0 : Int) ≤ 0 ∧ (0 : Int) ≤ 99; decide
  · show (0 : Int) ≤ 0 ∧ (0 : Int) ≤ 1060; decide
  · exact Or.inl rfl
theorem mB_0 {K i : Int} (hK : 0 ≤ K) (h : i < 17 ∨ 27 ≤ i) : mB K i 0 := by
  unfold mB
  split
  · decide
  split
  · decide
  split
  · exact ⟨Int.le_refl _, hK⟩
  split
  · decide
  split
  · exact Or.inl rfl
  split
  · trivial
  split
  · omega
  split
  · decide
  split
  · decide
  split
  · unfold mBk; repeat' split
    all_goals first | decide | trivial
  split
  · decide
  · exact ⟨Int.le_refl _, hK⟩
theorem MR_z {K : Int} (hK : 0 ≤ K) : MR K m0 := fun i i0 i1 => by
  by_cases h : 17 ≤ i ∧ i < 27
  · have e := m0_s (i := i - 17) (by omega) (by omega)
    have q := (mB_set (K := K) (i := i - 17) (v := m0 i) (by omega) (by omega)).mpr (by
      rw [show 17 + (i - 17) = i by omega] at e
      rw [e]; exact stV_0 (by omega) (by omega))
    rwa [show 17 + (i - 17) = i by omega] at q
  · rw [m0_z (by omega)]; exact mB_0 hK (by omega)
theorem HS_z : HS (0 - 30) zH m0 := by
  have z1 : m0 1 = 0 := m0_z (by decide)
  have z3 : m0 3 = 0 := m0_z (by decide)
  refine ⟨⟨fun i h0 h1 => ?_, fun d d0 d1 => ?_, z1.symm, (m0_z (i := 0) (by decide)).symm, fun b b0 b1 b2 => ?_⟩, fun b b0 b1 b2 => ?_, ⟨z3.symm, fun k k0 k1 k2 => ?_⟩, ⟨fun c c0 c1 => ?_, (m0_z (i := 4) (by decide)).symm, (m0_z (i := 14) (by decide)).symm, (m0_z (i := 15) (by decide)).symm, (m0_z (i := 16) (by decide)).symm⟩, (m0_z (i := 2) (by decide)).symm, fun d d0 d1 => ?_, fun d d0 d1 d2 => m0_z (by omega)⟩
  · have e : zH 1 i = stV 0 i.toNat := if_pos ⟨h0, h1⟩
    rw [e, m0_s h0 h1]
  · rw [m0_z (by omega)]
    unfold wOf; split
    · rfl
    · rfl
  · omega
  · omega
  · omega
  · rw [m0_z (by omega)]; rfl
  · show (0 : Int) = if 0 ≤ d then m0 (1675 + d) else 0
    rw [if_neg (by omega)]
theorem SIM_z : SIM zHs zT zM := by
  have p : PS 0 zH m0 := by
    refine ⟨by decide, rfl, RG_z (by decide), MR_z (by decide), HS_z, ?_, ?_, fun d d0 d1 => ?_⟩
    · rw [m0_z (by decide)]; decide
    · rw [m0_z (by decide)]; decide
    · show (0 : Int) ≤ 10; decide
  refine ⟨fun k hk => RG_z (by decide), ⟨0, by decide, p⟩, ⟨⟨by show (0 : Int) ≤ 0 ∧ (0 : Int) ≤ 4; decide, fun i i0 i1 => ?_⟩, fun i j i0 i1 j0 j1 e => ?_, rfl, fun k k0 k1 => ?_⟩, ⟨Or.inl rfl, rfl, fun h => ?_⟩, ⟨?_, ?_, ?_, ?_, ?_, fun i i0 i1 => ?_, fun i i0 i1 => ?_⟩, rfl, fun i i0 i1 => rfl, ?_⟩
  · have k : i = 0 ∨ i = 1 ∨ i = 2 ∨ i = 3 := by omega
    rcases k with rfl | rfl | rfl | rfl <;> decide
  · have k : i = 0 ∨ i = 1 ∨ i = 2 ∨ i = 3 := by omega
    have k2 : j = 0 ∨ j = 1 ∨ j = 2 ∨ j = 3 := by omega
    rcases k with rfl | rfl | rfl | rfl <;> rcases k2 with rfl | rfl | rfl | rfl <;> first | rfl | (exact absurd e (by decide))
  · have k1 : k < 0 := k1
    omega
  · have h : (0 : Int) = 1 := h
    omega
  · show (0 : Int) ≤ 0 ∧ (0 : Int) ≤ 60; decide
  · show (0 : Int) ≤ 0 ∧ (0 : Int) ≤ 10; decide
  · show (0 : Int) ≤ 0 ∧ (0 : Int) ≤ 5; decide
  · show (0 : Int) ≤ 0 ∧ (0 : Int) ≤ 899; decide
  · show (0 : Int) ≤ 0 ∧ (0 : Int) ≤ 9; decide
  · show (0 : Int) ≤ 0 ∧ (0 : Int) ≤ 65535; decide
  · show ((0 : Int) ≤ 0 ∧ (0 : Int) ≤ 899) ∧ ((0 : Int) ≤ 0 ∧ (0 : Int) ≤ 9) ∧ ((0 : Int) ≤ 0 ∧ (0 : Int) ≤ 9); decide
  · show (0 : Int) ≤ 0 ∧ (0 : Int) ≤ 61; decide
