theorem RS_lvIf {K : Int} {h : HV} (R : RG K h) : RS K h (if dnO h then dLeave h else h) := by
  split
  · exact RS_leave R
  · exact RS.of R
theorem HS_begin {K t : Int} {h : HV} {r : Int → Int} (R : RG K h) (M : MR K r) (et : h 0 6 = t) (hd : t ≤ 1059) (S : HS (t - 30) h r) : HS (t - 29) (dBegin h) (mBeg r) := by
  have rd := R.day
  have e0 : r 0 = t := by rw [← S.1.2.2.2.1]; exact et
  have a1 := HS_spoil R M et hd S
  have r1 := RS_spoil R
  have m1 := MS_mSpo M
  have t1 : dSpoil h 0 6 = t := r1.2.2.2.2.2.2.2.trans et
  have a2 := HS_leave r1.1 m1.1 a1 (by omega) (d := r 0) (t1.trans e0.symm) ⟨by omega, by omega⟩
  have r2 := r1.tr (RS_lvIf r1.1)
  have m2 := m1.tr (MS_leaI m1.1 (d := r 0) m1.1.came.1 m1.1.came.2)
  have t2 := r2.2.2.2.2.2.2.2.trans et
  have a3 := HS_late r2.1 m2.1 a2 (by omega) (d := r 0) (t2.trans e0.symm)
  have r3 : RS K h (dBeg1 h) := r2.tr (RS_late r2.1)
  have m3 := MS_mBeg1 M
  have a3 : HS (t - 29) (dBeg1 h) (mBeg1 r) := a3
  have t3 : dBeg1 h 0 6 = t := r3.2.2.2.2.2.2.2.trans et
  have w3 : wOf (dBeg1 h) (dBeg1 h 0 6) = mBeg1 r (611 + r 0) := by
    rw [t3, e0]; exact a3.1.2.1 t (by omega) (by omega)
  unfold dBegin mBeg
  by_cases c : upO (dBeg1 h) (dBeg1 h 0 6)
  · have c2 : mBeg1 r (611 + r 0) % 2 = 0 := by rw [← w3]; exact c
    rw [if_pos c, if_pos c2]
    have a4 := HS_come r3.1 m3.1 a3 (by omega) (d := r 0) (t3.trans e0.symm)
    have r4 := RS_come r3.1
    have m4 : MS K (mBeg1 r) (mCom (mBeg1 r) (r 0)) := MS_comI m3.1 (d := r 0) (by omega) (by omega) m3.1.came.1 m3.1.came.2
    have t4 : dCome (dBeg1 h) 0 6 = t := r4.2.2.2.2.2.2.2.trans t3
    have e6 : dCome (dBeg1 h) 1 6 = mCom (mBeg1 r) (r 0) 23 := a4.1.1 6 (by decide) (by decide)
    have z4 := m4.1.sets
    rw [e6, e0]
    rw [e0] at a4 m4 z4
    exact HS_brN ⟨by omega, hd⟩ 12 K K _ _ _ r4.1 m4.1 t4 z4.2.2.2.2.1.1 a4
  · have c2 : ¬ mBeg1 r (611 + r 0) % 2 = 0 := by rw [← w3]; exact c
    rw [if_neg c, if_neg c2]; exact a3
/-! a flight, both sides: the object counts persons up and adds them once, the reference counts seats down -/
theorem HS_set6 {t : Int} {h : HV} {r : Int → Int} (S : HS t h r) (ht : t ≤ 1034) {v : Int} (f : Int → Int) (e1 : f 1 = v) (e : ∀ c, c ≠ 1 → f c = h 16 c) : HS t (upr h 16 f) (up1 r 6 v) := by
  refine ⟨S.1.of rfl rfl rfl rfl rfl rfl rfl fun i k => up1_ne (by unfold kept at k; omega), S.2.1.of rfl rfl rfl rfl (up1_ne (by decide)) (fun i i0 i1 => up1_ne (by omega)), S.2.2.1.of rfl rfl rfl (up1_ne (by decide)) (fun i i0 i1 => up1_ne (by omega)), ⟨fun c c0 c1 => ?_, ?_, ?_, ?_, ?_⟩, S.2.2.2.2.of rfl rfl (up1_ne (by decide)) (fun i i0 i1 => up1_ne (by omega)) ht⟩
  · show f c = up1 r 6 v (5 + c)
    by_cases q : c = 1
    · subst q; rw [e1, show (5 + 1 : Int) = 6 by decide, up1_same]
    · rw [e c q, up1_ne (by omega)]; exact S.2.2.2.1.1 c c0 c1
  · rw [up1_ne (by decide)]; exact S.2.2.2.1.2.1
  · rw [up1_ne (by decide)]; exact S.2.2.2.1.2.2.1
  · rw [up1_ne (by decide)]; exact S.2.2.2.1.2.2.2.1
  · rw [up1_ne (by decide)]; exact S.2.2.2.1.2.2.2.2
theorem HS_fold {K t : Int} {h : HV} {r : Int → Int} (R : RG K h) (M : MR K r) (S : HS t h r) (ht : t ≤ 1034) {d : Int} (ed : h 0 6 = d) :
    RS K h (dFill h 1).1 ∧ (∃ f, (dFill h 1).1 16 = h 16 ∧ f = (dFill h 1).2 ∧ HS t (upr (dFill h 1).1 16 (up1 (h 16) 1 (h 16 1 + f))) (foldI (sFm d) (r, r 25) (r 1)).1 ∧ MS K r (foldI (sFm d) (r, r 25) (r 1)).1) := by
  have m := M.came
  have e1 : h 3 7 = r 1 := S.1.2.2.1
  have s8 : h 1 8 = r 25 := S.1.1 8 (by decide) (by decide)
  have key : RS K h (dFill h 1).1 ∧ MS K r (foldI (sFm d) (r, r 25) (r 1)).1 ∧ (dFill h 1).1 16 = h 16 ∧ (foldI (sFm d) (r, r 25) (r 1)).2 = r 25 - (dFill h 1).2 ∧ HS t (upr (dFill h 1).1 16 (up1 (h 16) 1 (h 16 1 + (dFill h 1).2))) (foldI (sFm d) (r, r 25) (r 1)).1 := by
    unfold dFill
    rw [e1]
    refine fold2 (P := fun (a : HV × Int) (b : (Int → Int) × Int) => RS K h a.1 ∧ MS K r b.1 ∧ a.1 16 = h 16 ∧ b.2 = r 25 - a.2 ∧ HS t (upr a.1 16 (up1 (h 16) 1 (h 16 1 + a.2))) b.1) ⟨RS.of R, MS.of M, rfl, by show r 25 = r 25 - 0; omega, ?_⟩ fun k a b k0 k1 p => ?_
    · show HS t (upr h 16 (up1 (h 16) 1 (h 16 1 + 0))) r
      rw [Int.add_zero, up1_id, upr_id]; exact S
    · have hS := p.2.2.2.2
      have m1 : b.1 1 = r 1 := p.2.1.2 1 (Or.inr (Or.inl rfl))
      have y := hS.1.2.2.2.2 k k0 (by omega) (by omega)
      have z := hS.2.1 k k0 (by omega) (by omega)
      have y0 : a.1 5 k = b.1 (51 + 7 * k + 1) := y.1
      have y1 : a.1 6 k = b.1 (51 + 7 * k + 2) := y.2.1
      have y2 : a.1 7 k = b.1 (51 + 7 * k + 3) := y.2.2
      have z0 : a.1 4 k = b.1 (51 + 7 * k + 0) := z.1
      have e6 : a.1 0 6 = d := p.1.2.2.2.2.2.2.2.trans ed
      have e18 : a.1 1 8 = r 25 := by rw [p.1.2.1]; exact s8
      have p4 := p.2.2.2.1
      have hR := p.1.tr (RS_sFl p.1.1 1 k)
      have hM := p.2.1.tr (MS_sFm p.2.1.1 (d := d) k0 (show k < 80 by omega))
      by_cases q : (a.1 4 k = 1 ∧ a.1 5 k + a.1 6 k ≤ d) ∧ a.2 + a.1 7 k ≤ r 25
      · have f1 : sFl 1 k a = (dLv a.1 k, a.2 + a.1 7 k) := by
          have e : sFl 1 k a = (if (1 : Int) = 0 then a.1 else dLv a.1 k, a.2 + a.1 7 k) := if_pos ⟨⟨q.1.1, by rw [e6]; exact q.1.2⟩, by rw [e18]; exact q.2⟩
          rw [e, if_neg (by decide)]
        have f2 : sFm d k b = (mLv (up1 b.1 6 (b.1 6 + b.1 (51 + 7 * k + 3))) k, b.2 - b.1 (51 + 7 * k + 3)) := if_pos ⟨by rw [← z0]; exact q.1.1, by rw [← y0, ← y1]; exact q.1.2, by omega⟩
        rw [f1] at hR ⊢; rw [f2] at hM ⊢
        refine ⟨hR, hM, p.2.2.1, by show b.2 - b.1 (51 + 7 * k + 3) = r 25 - (a.2 + a.1 7 k); omega, ?_⟩
        have g6 : b.1 6 = h 16 1 + a.2 := by
          have w := hS.2.2.2.1.1 1 (by decide) (by decide)
          have w2 : up1 (h 16) 1 (h 16 1 + a.2) 1 = b.1 6 := w
          rw [up1_same] at w2; exact w2.symm
        have S2 := HS_set6 (v := b.1 6 + b.1 (51 + 7 * k + 3)) hS ht (up1 (h 16) 1 (h 16 1 + (a.2 + a.1 7 k))) (by rw [up1_same, g6, y2]; omega) fun c n => by
          show _ = up1 (h 16) 1 (h 16 1 + a.2) c
          rw [up1_ne n, up1_ne n]
        rw [upr_upr] at S2
        have R2 : RG K (upr a.1 16 (up1 (h 16) 1 (h 16 1 + (a.2 + a.1 7 k)))) := p.1.1.w16
        have M2 : MR K (up1 b.1 6 (b.1 6 + b.1 (51 + 7 * k + 3))) := p.2.1.1.free (by decide) (by decide)
        have L := HS_lv (b := k) R2 M2 S2 ht k0 (by rw [up1_ne (by decide)]; omega) q.1.1
        have eL : dLv (upr a.1 16 (up1 (h 16) 1 (h 16 1 + (a.2 + a.1 7 k)))) k = upr (dLv a.1 k) 16 (up1 (h 16) 1 (h 16 1 + (a.2 + a.1 7 k))) := by
          show upr (upr (upr a.1 16 _) 0 _) 4 _ = upr (upr (upr a.1 0 _) 4 _) 16 _
          rw [upr_cm (c := 16) (k := 0) (by decide), upr_cm (c := 16) (k := 4) (by decide)]
          rfl
        rw [eL] at L; exact L
      · have f1 : sFl 1 k a = a := if_neg fun w => q ⟨⟨w.1.1, by rw [← e6]; exact w.1.2⟩, by rw [← e18]; exact w.2⟩
        have f2 : sFm d k b = b := if_neg fun w => q ⟨⟨by rw [z0]; exact w.1, by rw [y0, y1]; exact w.2.1⟩, by have := w.2.2; omega⟩
        rw [f1, f2]; exact p
  exact ⟨key.1, (dFill h 1).2, key.2.2.1, rfl, key.2.2.2.2, key.2.1⟩
