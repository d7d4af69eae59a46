/-! A BOOKING IS ADDED, both sides -/
theorem mAdd_at {r : Int → Int} {a n p i : Int} (n1 : i ≠ 1) (n2 : i ≠ 14) (n3 : i < 51 + 7 * r 1 ∨ 58 + 7 * r 1 ≤ i) : mAdd r a n p i = r i := by
  show up1 (up1 (up1 (up1 (up1 (up1 (up1 (up1 (up1 r 1 (r 1 + 1)) (51 + 7 * (r 1) + 0) 0) (51 + 7 * (r 1) + 1) a) (51 + 7 * (r 1) + 2) n) (51 + 7 * (r 1) + 3) p) (51 + 7 * (r 1) + 4) 0) (51 + 7 * (r 1) + 5) (p * n * r 20)) (51 + 7 * (r 1) + 6) (-1000005)) 14 (r 14 + p * n * r 20) i = _
  rw [up1_ne n2, up1_ne (by omega), up1_ne (by omega), up1_ne (by omega), up1_ne (by omega), up1_ne (by omega), up1_ne (by omega), up1_ne (by omega), up1_ne n1]
theorem mAdd_x {r : Int → Int} {a n p : Int} (m0 : 0 ≤ r 1) : mAdd r a n p 1 = r 1 + 1 ∧ mAdd r a n p 14 = r 14 + p * n * r 20 ∧ mAdd r a n p (51 + 7 * r 1 + 0) = 0 ∧ mAdd r a n p (51 + 7 * r 1 + 1) = a ∧ mAdd r a n p (51 + 7 * r 1 + 2) = n ∧ mAdd r a n p (51 + 7 * r 1 + 3) = p ∧ mAdd r a n p (51 + 7 * r 1 + 4) = 0 ∧ mAdd r a n p (51 + 7 * r 1 + 5) = p * n * r 20 ∧ mAdd r a n p (51 + 7 * r 1 + 6) = -1000005 := by
  have u : ∀ i, mAdd r a n p i = up1 (up1 (up1 (up1 (up1 (up1 (up1 (up1 (up1 r 1 (r 1 + 1)) (51 + 7 * (r 1) + 0) 0) (51 + 7 * (r 1) + 1) a) (51 + 7 * (r 1) + 2) n) (51 + 7 * (r 1) + 3) p) (51 + 7 * (r 1) + 4) 0) (51 + 7 * (r 1) + 5) (p * n * r 20)) (51 + 7 * (r 1) + 6) (-1000005)) 14 (r 14 + p * n * r 20) i := fun _ => rfl
  refine ⟨?_, ?_, ?_, ?_, ?_, ?_, ?_, ?_, ?_⟩
  · rw [u, up1_ne (by decide), up1_ne (by omega), up1_ne (by omega), up1_ne (by omega), up1_ne (by omega), up1_ne (by omega), up1_ne (by omega), up1_ne (by omega), up1_same]
  · rw [u, up1_same]
  · rw [u, up1_ne (by omega), up1_ne (by omega), up1_ne (by omega), up1_ne (by omega), up1_ne (by omega), up1_ne (by omega), up1_ne (by omega), up1_same]
  · rw [u, up1_ne (by omega), up1_ne (by omega), up1_ne (by omega), up1_ne (by omega), up1_ne (by omega), up1_ne (by omega), up1_same]
  · rw [u, up1_ne (by omega), up1_ne (by omega), up1_ne (by omega), up1_ne (by omega), up1_ne (by omega), up1_same]
  · rw [u, up1_ne (by omega), up1_ne (by omega), up1_ne (by omega), up1_ne (by omega), up1_same]
  · rw [u, up1_ne (by omega), up1_ne (by omega), up1_ne (by omega), up1_same]
  · rw [u, up1_ne (by omega), up1_ne (by omega), up1_same]
  · rw [u, up1_ne (by omega), up1_same]
theorem HS_add {K t : Int} {h : HV} {r : Int → Int} (M : MR K r) (S : HS t h r) (ht : t ≤ 1034) (m1 : r 1 < 80) {a n p : Int} : HS t (hAdd h a n p) (mAdd r a n p) := by
  have m := M.came
  have x := mAdd_x (r := r) (a := a) (n := n) (p := p) m.1
  have e3 : h 3 7 = r 1 := S.1.2.2.1
  have e20 : h 1 3 = r 20 := S.1.1 3 (by decide) (by decide)
  have T := S.2.2.2.1
  have h5 : ∀ b, hAdd h a n p 5 b = up1 (h 5) (r 1) a b := fun b => by rw [← e3]; rfl
  have h6 : ∀ b, hAdd h a n p 6 b = up1 (h 6) (r 1) n b := fun b => by rw [← e3]; rfl
  have h7 : ∀ b, hAdd h a n p 7 b = up1 (h 7) (r 1) p b := fun b => by rw [← e3]; rfl
  have h4 : ∀ b, hAdd h a n p 4 b = up1 (h 4) (r 1) 0 b := fun b => by rw [← e3]; rfl
  have h8 : ∀ b, hAdd h a n p 8 b = up1 (h 8) (r 1) 0 b := fun b => by rw [← e3]; rfl
  have h9 : ∀ b, hAdd h a n p 9 b = up1 (h 9) (r 1) (p * n * r 20) b := fun b => by rw [← e3, ← e20]; rfl
  have h10 : ∀ b, hAdd h a n p 10 b = up1 (h 10) (r 1) (-1) b := fun b => by rw [← e3]; rfl
  have h37 : hAdd h a n p 3 7 = r 1 + 1 := by
    rw [← e3]
    show up1 (h 3) 7 (h 3 7 + 1) 7 = _
    rw [up1_same]
  have h0 : ∀ i, i ≠ 8 → hAdd h a n p 0 i = h 0 i := fun i q => up1_ne q
  have h08 : hAdd h a n p 0 8 = h 0 8 + p * n * r 20 := by
    rw [← e20]
    show up1 (h 0) 8 (h 0 8 + p * n * h 1 3) 8 = _
    rw [up1_same]
  refine ⟨⟨fun i i0 i1 => ?_, fun d d0 d1 => ?_, by rw [h37, x.1], ?_, fun b b0 b1 b2 => ?_⟩, fun b b0 b1 b2 => ?_, S.2.2.1.of rfl rfl rfl (mAdd_at (by decide) (by decide) (by omega)) (fun i i0 i1 => mAdd_at (by omega) (by omega) (by omega)), ⟨fun c c0 c1 => ?_, ?_, ?_, ?_, ?_⟩, S.2.2.2.2.of rfl rfl (mAdd_at (by decide) (by decide) (by omega)) (fun i i0 i1 => mAdd_at (by omega) (by omega) (by omega)) ht⟩
  · rw [mAdd_at (by omega) (by omega) (by omega)]; exact S.1.1 i i0 i1
  · rw [mAdd_at (by omega) (by omega) (by omega)]; exact S.1.2.1 d d0 d1
  · rw [h0 6 (by decide), mAdd_at (by decide) (by decide) (by omega)]; exact S.1.2.2.2.1
  · rw [x.1] at b2
    rw [h5, h6, h7]
    by_cases q : b = r 1
    · rw [q, up1_same, up1_same, up1_same]
      exact ⟨x.2.2.2.1.symm, x.2.2.2.2.1.symm, x.2.2.2.2.2.1.symm⟩
    · rw [up1_ne q, up1_ne q, up1_ne q, mAdd_at (by omega) (by omega) (by omega), mAdd_at (by omega) (by omega) (by omega), mAdd_at (by omega) (by omega) (by omega)]
      exact S.1.2.2.2.2 b b0 b1 (by omega)
  · rw [x.1] at b2
    rw [h4, h8, h9, h10]
    by_cases q : b = r 1
    · rw [q, up1_same, up1_same, up1_same, up1_same]
      exact ⟨x.2.2.1.symm, x.2.2.2.2.2.2.1.symm, x.2.2.2.2.2.2.2.1.symm, Or.inr ⟨rfl, x.2.2.2.2.2.2.2.2, by decide⟩⟩
    · rw [up1_ne q, up1_ne q, up1_ne q, up1_ne q, mAdd_at (by omega) (by omega) (by omega), mAdd_at (by omega) (by omega) (by omega), mAdd_at (by omega) (by omega) (by omega), mAdd_at (by omega) (by omega) (by omega)]
      exact S.2.1 b b0 b1 (by omega)
  · rw [mAdd_at (by omega) (by omega) (by omega)]; exact T.1 c c0 c1
  · rw [h0 7 (by decide), mAdd_at (by decide) (by decide) (by omega)]; exact T.2.1
  · rw [h08, x.2.1, T.2.2.1]
  · rw [h0 9 (by decide), mAdd_at (by decide) (by decide) (by omega)]; exact T.2.2.2.1
  · rw [h0 10 (by decide), mAdd_at (by decide) (by decide) (by omega)]; exact T.2.2.2.2
