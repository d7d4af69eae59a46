theorem HS_recall {K t : Int} {h : HV} {r : Int → Int} (M : MR K r) (S : HS t h r) (ht : t ≤ 1034) (m1 : 1 ≤ r 3) : HS t (oLast h) (mDrop r (r 3 - 1)) := by
  have rw0 := M.wait
  have e3 : h 13 2 = r 3 := S.2.2.1.1
  have at' : ∀ i, i ≠ 3 → i ≠ 27 + (r 3 - 1) → i ≠ 39 + (r 3 - 1) → mDrop r (r 3 - 1) i = r i := fun i n1 n2 n3 => by
    show up1 (up1 (mSh (up1 r 3 (r 3 - 1)) (r 3 - 1) (r 3 - 1)) (27 + (r 3 - 1)) 0) (39 + (r 3 - 1)) 0 i = r i
    rw [up1_ne n3, up1_ne n2, mSh_0, up1_ne n1]
  have x3 : mDrop r (r 3 - 1) 3 = r 3 - 1 := by
    show up1 (up1 (mSh (up1 r 3 (r 3 - 1)) (r 3 - 1) (r 3 - 1)) (27 + (r 3 - 1)) 0) (39 + (r 3 - 1)) 0 3 = _
    rw [up1_ne (by omega), up1_ne (by omega), mSh_0, up1_same]
  have y13 : oLast h 13 2 = r 3 - 1 := by
    rw [← e3]
    show up1 (h 13) 2 (h 13 2 - 1) 2 = _
    rw [up1_same]
  refine ⟨S.1.of rfl rfl rfl rfl rfl rfl rfl (fun i q => at' i (by unfold kept at q; omega) (by unfold kept at q; omega) (by unfold kept at q; omega)), S.2.1.of rfl rfl rfl rfl (at' 1 (by decide) (by omega) (by omega)) (fun i i0 i1 => at' i (by omega) (by omega) (by omega)), ⟨by rw [y13, x3], fun c c0 c1 c2 => ?_⟩, S.2.2.2.1.of rfl rfl rfl rfl rfl (fun i i0 i1 => at' i (by omega) (by omega) (by omega)), S.2.2.2.2.of rfl rfl (at' 2 (by decide) (by omega) (by omega)) (fun i i0 i1 => at' i (by omega) (by omega) (by omega)) ht⟩
  rw [x3] at c2
  rw [at' _ (by omega) (by omega) (by omega), at' _ (by omega) (by omega) (by omega)]
  exact S.2.2.1.2 c c0 c1 (by omega)
theorem HS_ext {K t : Int} {h : HV} {r : Int → Int} (M : MR K r) (S : HS t h r) (ht : t ≤ 1034) {b n : Int} (b0 : 0 ≤ b) (b1 : b < r 1) : HS t (hExt h b n) (up1 r (51 + 7 * b + 2) (r (51 + 7 * b + 2) + n)) := by
  have m := M.came
  have y := S.1.2.2.2.2 b b0 (by omega) b1
  have y6 : ∀ i, hExt h b n 6 i = up1 (h 6) b (h 6 b + n) i := fun _ => rfl
  refine ⟨⟨fun i i0 i1 => ?_, fun d d0 d1 => ?_, ?_, ?_, fun c c0 c1 c2 => ?_⟩, fun c c0 c1 c2 => ?_, S.2.2.1.of rfl rfl rfl (up1_ne (by omega)) (fun i i0 i1 => up1_ne (by omega)), S.2.2.2.1.of rfl rfl rfl rfl rfl (fun i i0 i1 => up1_ne (by omega)), S.2.2.2.2.of rfl rfl (up1_ne (by omega)) (fun i i0 i1 => up1_ne (by omega)) ht⟩
  · rw [up1_ne (by omega)]; exact S.1.1 i i0 i1
  · rw [up1_ne (by omega)]; exact S.1.2.1 d d0 d1
  · rw [up1_ne (by omega)]; exact S.1.2.2.1
  · rw [up1_ne (by omega)]; exact S.1.2.2.2.1
  · rw [up1_ne (by omega)] at c2
    have z := S.1.2.2.2.2 c c0 c1 c2
    rw [y6, up1_ne (show (51 + 7 * c + 1 : Int) ≠ 51 + 7 * b + 2 by omega), up1_ne (show (51 + 7 * c + 3 : Int) ≠ 51 + 7 * b + 2 by omega)]
    refine ⟨z.1, ?_, z.2.2⟩
    by_cases q : c = b
    · subst q; rw [up1_same, up1_same, y.2.1]
    · rw [up1_ne q, up1_ne (by omega)]; exact z.2.1
  · rw [up1_ne (by omega)] at c2
    rw [up1_ne (show (51 + 7 * c + 0 : Int) ≠ 51 + 7 * b + 2 by omega), up1_ne (show (51 + 7 * c + 4 : Int) ≠ 51 + 7 * b + 2 by omega), up1_ne (show (51 + 7 * c + 5 : Int) ≠ 51 + 7 * b + 2 by omega), up1_ne (show (51 + 7 * c + 6 : Int) ≠ 51 + 7 * b + 2 by omega)]
    exact S.2.1 c c0 c1 c2
