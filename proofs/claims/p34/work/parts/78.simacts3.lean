theorem HS_weather {t : Int} {h : HV} {r : Int → Int} (S : HS t h r) (ht : t ≤ 1034) {x y w : Int} (x0 : 0 ≤ x) (y1 : y ≤ 1000) : HS t (upr h 2 (wSet (h 2) x y w)) (mWs r x y w) := by
  have at' : ∀ i, ¬ (611 + x ≤ i ∧ i < 611 + y) → mWs r x y w i = r i := fun i n => if_neg n
  refine ⟨⟨fun i i0 i1 => ?_, fun d d0 d1 => ?_, ?_, ?_, fun c c0 c1 c2 => ?_⟩, S.2.1.of rfl rfl rfl rfl (at' 1 (by omega)) (fun i i0 i1 => at' i (by omega)), S.2.2.1.of rfl rfl rfl (at' 3 (by omega)) (fun i i0 i1 => at' i (by omega)), S.2.2.2.1.of rfl rfl rfl rfl rfl (fun i i0 i1 => at' i (by omega)), S.2.2.2.2.of rfl rfl (at' 2 (by omega)) (fun i i0 i1 => at' i (by omega)) ht⟩
  · rw [at' _ (by omega)]; exact S.1.1 i i0 i1
  · have z := S.1.2.1 d d0 d1
    show (if d < 0 ∨ 999 < d then 0 else wSet (h 2) x y w d) = mWs r x y w (611 + d)
    unfold wOf at z
    by_cases q : d < 0 ∨ 999 < d
    · rw [if_pos q] at z ⊢; rw [at' _ (by omega)]; exact z
    · rw [if_neg q] at z ⊢
      unfold wSet mWs
      by_cases c : x ≤ d ∧ d < y
      · rw [if_pos c, if_pos (by omega)]
      · rw [if_neg c, if_neg (by omega)]; exact z
  · rw [at' _ (by omega)]; exact S.1.2.2.1
  · rw [at' _ (by omega)]; exact S.1.2.2.2.1
  · rw [at' 1 (by omega)] at c2
    rw [at' _ (by omega), at' _ (by omega), at' _ (by omega)]; exact S.1.2.2.2.2 c c0 c1 c2
theorem HS_set {t : Int} {h : HV} {r : Int → Int} (S : HS t h r) (ht : t ≤ 1034) {k w : Int} (k0 : 0 ≤ k) (k1 : k < 10) : HS t (upr h 1 (up1 (h 1) k w)) (up1 r (17 + k) w) := by
  refine ⟨⟨fun i i0 i1 => ?_, fun d d0 d1 => ?_, ?_, ?_, fun c c0 c1 c2 => ?_⟩, S.2.1.of rfl rfl rfl rfl (up1_ne (by omega)) (fun i i0 i1 => up1_ne (by omega)), S.2.2.1.of rfl rfl rfl (up1_ne (by omega)) (fun i i0 i1 => up1_ne (by omega)), S.2.2.2.1.of rfl rfl rfl rfl rfl (fun i i0 i1 => up1_ne (by omega)), S.2.2.2.2.of rfl rfl (up1_ne (by omega)) (fun i i0 i1 => up1_ne (by omega)) ht⟩
  · show up1 (h 1) k w i = _
    by_cases q : i = k
    · subst q; rw [up1_same, up1_same]
    · rw [up1_ne q, up1_ne (by omega)]; exact S.1.1 i i0 i1
  · rw [up1_ne (by omega)]; exact S.1.2.1 d d0 d1
  · rw [up1_ne (by omega)]; exact S.1.2.2.1
  · rw [up1_ne (by omega)]; exact S.1.2.2.2.1
  · rw [up1_ne (by omega)] at c2
    rw [up1_ne (by omega), up1_ne (by omega), up1_ne (by omega)]; exact S.1.2.2.2.2 c c0 c1 c2
