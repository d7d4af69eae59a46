theorem mFl2_at {q : Int → Int} {i : Int} (n1 : i ≠ 14) (n2 : i ≠ 16) (n3 : i ≠ 4) (n4 : i ≠ 5) : mFl2 q i = q i := by
  show up1 (up1 (up1 (up1 q 14 _) 16 _) 4 0) 5 _ i = q i
  rw [up1_ne n4, up1_ne n3, up1_ne n2, up1_ne n1]
theorem mFl2_x {q : Int → Int} : mFl2 q 14 = q 14 - q 26 ∧ mFl2 q 16 = q 16 + q 26 ∧ mFl2 q 4 = 0 ∧ mFl2 q 5 = q 5 + 1 := by
  refine ⟨?_, ?_, ?_, up1_same⟩
  · show up1 (up1 (up1 (up1 q 14 (q 14 - q 26)) 16 (q 16 + q 26)) 4 0) 5 (q 5 + 1) 14 = _
    rw [up1_ne (by decide), up1_ne (by decide), up1_ne (by decide), up1_same]
  · show up1 (up1 (up1 (up1 q 14 (q 14 - q 26)) 16 (q 16 + q 26)) 4 0) 5 (q 5 + 1) 16 = _
    rw [up1_ne (by decide), up1_ne (by decide), up1_same]
  · show up1 (up1 (up1 (up1 q 14 (q 14 - q 26)) 16 (q 16 + q 26)) 4 0) 5 (q 5 + 1) 4 = _
    rw [up1_ne (by decide), up1_same]
theorem HS_fly {K t : Int} {h : HV} {r : Int → Int} (R : RG K h) (M : MR K r) (et : h 0 6 = t) (hd : t ≤ 1059) (S : HS (t - 29) h r) {d : Int} (ed : d = t) : HS (t - 29) (dFly h) (mFly r d) := by
  subst ed
  have rd := R.day
  have rz := M.sets
  have e7 : h 1 7 = r 24 := S.1.1 7 (by decide) (by decide)
  have a1 : HS (d - 29) (dBring h (h 1 7)) (mBr 12 r (r 24) d) := by
    rw [e7]; exact HS_brN ⟨by omega, hd⟩ 12 K K h r (r 24) R M et (by omega) S
  have r1 : RS (K + 99) h (dBring h (h 1 7)) := by
    have q := RS_bring R (m := h 1 7) (by rw [e7]; omega)
    exact ⟨q.1.mono (by rw [e7]; omega), q.2⟩
  have m1 : MS (K + 99) r (mBr 12 r (r 24) d) := by
    have q := MS_mBr (d := d) (by omega) (by omega) 12 K r (r 24) M (by omega)
    exact ⟨q.1.mono (by omega), q.2⟩
  have t1 : dBring h (h 1 7) 0 6 = d := r1.2.2.2.2.2.2.2.trans et
  obtain ⟨r2, f, e16, ef, S2, m2⟩ := HS_fold r1.1 m1.1 a1 (by omega) t1
  have eb : mBr 12 r (r 24) d 1 = r 1 := m1.2 1 (Or.inr (Or.inl rfl))
  rw [eb] at S2
  have S2 : HS (d - 29) (upr (dFly1 h) 16 (up1 (dBring h (h 1 7) 16) 1 (dBring h (h 1 7) 16 1 + f))) (mFl1 r d) := S2
  have e16 : dFly1 h 16 = dBring h (h 1 7) 16 := e16
  have hT := S2.2.2.2.1
  have x := mFl2_x (q := mFl1 r d)
  have at' : ∀ i, i ≠ 14 → i ≠ 16 → i ≠ 4 → i ≠ 5 → mFly r d i = mFl1 r d i := fun i a b c e => mFl2_at a b c e
  have e9 : dFly1 h 1 9 = mFl1 r d 26 := S2.1.1 9 (by decide) (by decide)
  have p8 : dFly1 h 0 8 = mFl1 r d 14 := hT.2.2.1
  have p9 : dFly1 h 0 9 = mFl1 r d 15 := hT.2.2.2.1
  have p10 : dFly1 h 0 10 = mFl1 r d 16 := hT.2.2.2.2
  refine ⟨S2.1.of rfl rfl rfl rfl rfl rfl ?_ fun i k => at' i (by unfold kept at k; omega) (by unfold kept at k; omega) (by unfold kept at k; omega) (by unfold kept at k; omega), S2.2.1.of rfl rfl rfl rfl (at' 1 (by decide) (by decide) (by decide) (by decide)) (fun i i0 i1 => at' i (by omega) (by omega) (by omega) (by omega)), S2.2.2.1.of rfl rfl rfl (at' 3 (by decide) (by decide) (by decide) (by decide)) (fun i i0 i1 => at' i (by omega) (by omega) (by omega) (by omega)), ⟨fun c c0 c1 => ?_, ?_, ?_, ?_, ?_⟩, S2.2.2.2.2.of rfl rfl (at' 2 (by decide) (by decide) (by decide) (by decide)) (fun i i0 i1 => at' i (by omega) (by omega) (by omega) (by omega)) (by omega)⟩
  · show up1 (up1 (up1 (dFly1 h 0) 8 (dFly1 h 0 8 - dFly1 h 1 9)) 10 (dFly1 h 0 10 + dFly1 h 1 9)) 7 0 6 = dFly1 h 0 6
    rw [up1_ne (by decide), up1_ne (by decide), up1_ne (by decide)]
  · show up1 (up1 (dFly1 h 16) 1 (dBring h (h 1 7) 16 1 + (dFill (dBring h (h 1 7)) 1).2)) 0 (dFly1 h 16 0 + 1) c = _
    have w := hT.1 c c0 c1
    have w2 : up1 (dBring h (h 1 7) 16) 1 (dBring h (h 1 7) 16 1 + f) c = mFl1 r d (5 + c) := w
    by_cases q : c = 0
    · subst q
      rw [up1_ne (by decide)] at w2
      have x5 : mFly r d 5 = mFl1 r d 5 + 1 := x.2.2.2
      rw [up1_same, e16, w2, show (5 + 0 : Int) = 5 by decide, x5]
    · rw [up1_ne q, at' (5 + c) (by omega) (by omega) (by omega) (by omega), ← w2, e16, ef]
  · have x4 : mFly r d 4 = 0 := x.2.2.1
    rw [x4]
    show up1 (up1 (up1 (dFly1 h 0) 8 (dFly1 h 0 8 - dFly1 h 1 9)) 10 (dFly1 h 0 10 + dFly1 h 1 9)) 7 0 7 = 0
    rw [up1_same]
  · have x14 : mFly r d 14 = mFl1 r d 14 - mFl1 r d 26 := x.1
    rw [x14]
    show up1 (up1 (up1 (dFly1 h 0) 8 (dFly1 h 0 8 - dFly1 h 1 9)) 10 (dFly1 h 0 10 + dFly1 h 1 9)) 7 0 8 = _
    rw [up1_ne (by decide), up1_ne (by decide), up1_same, p8, e9]
  · rw [at' 15 (by decide) (by decide) (by decide) (by decide)]
    show up1 (up1 (up1 (dFly1 h 0) 8 (dFly1 h 0 8 - dFly1 h 1 9)) 10 (dFly1 h 0 10 + dFly1 h 1 9)) 7 0 9 = _
    rw [up1_ne (by decide), up1_ne (by decide), up1_ne (by decide), p9]
  · have x16 : mFly r d 16 = mFl1 r d 16 + mFl1 r d 26 := x.2.1
    rw [x16]
    show up1 (up1 (up1 (dFly1 h 0) 8 (dFly1 h 0 8 - dFly1 h 1 9)) 10 (dFly1 h 0 10 + dFly1 h 1 9)) 7 0 10 = _
    rw [up1_ne (by decide), up1_same, p10, e9]
