theorem HS_flight {t : Int} {h : HV} {r : Int → Int} (S : HS t h r) (ht : t ≤ 1034) {x : Int} : HS t (upr h 0 (up1 (h 0) 7 x)) (up1 r 4 x) := by
  have T := S.2.2.2.1
  have h0 : ∀ i, i ≠ 7 → up1 (h 0) 7 x i = h 0 i := fun i n => up1_ne n
  refine ⟨S.1.of rfl rfl rfl rfl rfl rfl (h0 6 (by decide)) (fun i k => up1_ne (by unfold kept at k; omega)), S.2.1.of rfl rfl rfl rfl (up1_ne (by decide)) (fun i i0 i1 => up1_ne (by omega)), S.2.2.1.of rfl rfl rfl (up1_ne (by decide)) (fun i i0 i1 => up1_ne (by omega)), ⟨fun c c0 c1 => ?_, ?_, ?_, ?_, ?_⟩, S.2.2.2.2.of rfl rfl (up1_ne (by decide)) (fun i i0 i1 => up1_ne (by omega)) ht⟩
  · rw [up1_ne (by omega)]; exact T.1 c c0 c1
  · show up1 (h 0) 7 x 7 = _
    rw [up1_same, up1_same]
  · rw [up1_ne (by decide)]; exact (h0 8 (by decide)).trans T.2.2.1
  · rw [up1_ne (by decide)]; exact (h0 9 (by decide)).trans T.2.2.2.1
  · rw [up1_ne (by decide)]; exact (h0 10 (by decide)).trans T.2.2.2.2
theorem HS_order {K t : Int} {h : HV} {r : Int → Int} (M : MR K r) (S : HS t h r) (ht : t ≤ 1034) (m1 : r 3 < 12) {k w : Int} : HS t (oApp h k w) (mOrd r k w) := by
  have rw0 := M.wait
  have e3 : h 13 2 = r 3 := S.2.2.1.1
  have at' : ∀ i, i ≠ 3 → i ≠ 27 + r 3 → i ≠ 39 + r 3 → mOrd r k w i = r i := fun i n1 n2 n3 => by
    show up1 (up1 (up1 r (27 + r 3) k) (39 + r 3) w) 3 (r 3 + 1) i = r i
    rw [up1_ne n1, up1_ne n3, up1_ne n2]
  have x3 : mOrd r k w 3 = r 3 + 1 := up1_same
  have x27 : mOrd r k w (27 + r 3) = k := by
    show up1 (up1 (up1 r (27 + r 3) k) (39 + r 3) w) 3 (r 3 + 1) (27 + r 3) = k
    rw [up1_ne (by omega), up1_ne (by omega), up1_same]
  have x39 : mOrd r k w (39 + r 3) = w := by
    show up1 (up1 (up1 r (27 + r 3) k) (39 + r 3) w) 3 (r 3 + 1) (39 + r 3) = w
    rw [up1_ne (by omega), up1_same]
  have y14 : ∀ i, oApp h k w 14 i = up1 (h 14) (r 3) k i := fun i => by rw [← e3]; rfl
  have y15 : ∀ i, oApp h k w 15 i = up1 (h 15) (r 3) w i := fun i => by rw [← e3]; rfl
  have y13 : oApp h k w 13 2 = r 3 + 1 := by
    rw [← e3]
    show up1 (h 13) 2 (h 13 2 + 1) 2 = _
    rw [up1_same]
  refine ⟨S.1.of rfl rfl rfl rfl rfl rfl rfl (fun i q => at' i (by unfold kept at q; omega) (by unfold kept at q; omega) (by unfold kept at q; omega)), S.2.1.of rfl rfl rfl rfl (at' 1 (by decide) (by omega) (by omega)) (fun i i0 i1 => at' i (by omega) (by omega) (by omega)), ⟨by rw [y13, x3], fun c c0 c1 c2 => ?_⟩, S.2.2.2.1.of rfl rfl rfl rfl rfl (fun i i0 i1 => at' i (by omega) (by omega) (by omega)), S.2.2.2.2.of rfl rfl (at' 2 (by decide) (by omega) (by omega)) (fun i i0 i1 => at' i (by omega) (by omega) (by omega)) ht⟩
  rw [x3] at c2
  rw [y14, y15]
  by_cases q : c = r 3
  · rw [q, up1_same, up1_same, x27, x39]; exact ⟨rfl, rfl⟩
  · rw [up1_ne q, up1_ne q, at' _ (by omega) (by omega) (by omega), at' _ (by omega) (by omega) (by omega)]
    exact S.2.2.1.2 c c0 c1 (by omega)
