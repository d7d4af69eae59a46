/-! THE ACTS, both sides: the states behind them -/
theorem PS.add {t : Int} {h : HV} {r : Int → Int} (P : PS t h r) (ht : t ≤ 999) {a n p : Int} (e : bErr h a n p = 0) : PS t (hAdd h a n p) (mAdd r a n p) := by
  obtain ⟨p0, p1, p2, p3, p4, p5, p6, p7⟩ := P
  obtain ⟨a0, n0, q0, hb, m1⟩ := bErr_0 e
  have m := p3.came
  have e1 : h 3 7 = r 1 := p4.1.2.2.1
  have rd := p2.day
  have R2 : RG (149 * t) (hAdd h a n p) := RG_add p2 (by omega) (by omega) (by omega) m1
  have h0 : ∀ i, i ≠ 8 → hAdd h a n p 0 i = h 0 i := fun i q => up1_ne q
  refine ⟨p0, (h0 6 (by decide)).trans p1, R2, MR_mAdd p3 (by omega) (by omega) n0 q0, HS_add p3 p4 (by omega) (by omega), ?_, ?_, fun d d0 d1 => ?_⟩
  · rw [mAdd_at (by decide) (by decide) (by omega)]; exact p5
  · rw [mAdd_at (by decide) (by decide) (by omega)]; exact p6
  · show sumI (gBeds (hAdd h a n p) d d) (hAdd h a n p 3 7) ≤ h 1 0
    have e37 : hAdd h a n p 3 7 = h 3 7 + 1 := by
      show up1 (h 3) 7 (h 3 7 + 1) 7 = _; exact up1_same
    have g4 : ∀ b, hAdd h a n p 4 b = up1 (h 4) (h 3 7) 0 b := fun _ => rfl
    have g5 : ∀ b, hAdd h a n p 5 b = up1 (h 5) (h 3 7) a b := fun _ => rfl
    have g6 : ∀ b, hAdd h a n p 6 b = up1 (h 6) (h 3 7) n b := fun _ => rfl
    have g7 : ∀ b, hAdd h a n p 7 b = up1 (h 7) (h 3 7) p b := fun _ => rfl
    rw [e37, sumI_s (by omega), gBeds_r R2 (by omega) m1, g4, g5, g6, g7, up1_same, up1_same, up1_same, up1_same]
    have ec : sumI (gBeds (hAdd h a n p) d d) (h 3 7) = nBeds h d d := by
      refine sumI_cg fun b b0 b1 => ?_
      rw [gBeds_r R2 b0 (by omega), gBeds_r p2 b0 (by omega), g4, g5, g6, g7, up1_ne (by omega), up1_ne (by omega), up1_ne (by omega), up1_ne (by omega)]
    rw [ec]
    have z := p7 d d0 d1
    by_cases q : (0 : Int) ≤ 1 ∧ a ≤ d ∧ d < a + n
    · rw [if_pos q]
      have w := (allI_iff (by omega)).mp hb (d - a) (by omega) (by omega)
      have w2 := of_decide_eq_true w
      rw [show a + (d - a) = d by omega] at w2
      exact w2
    · rw [if_neg q]; omega
/-- rows that no bed sees -/
theorem PS.acts {t : Int} {h g : HV} {r q : Int → Int} (P : PS t h r) (R : RG (149 * t) g) (M : MR (149 * t) q) (S : HS (t - 30) g q) (a : H4 h g) (e3 : g 3 7 = h 3 7) (e5 : g 5 = h 5) (e6 : g 6 = h 6) (e7 : g 7 = h 7) (e0 : g 0 6 = h 0 6) (e1 : g 1 0 = h 1 0) (k5 : q 5 = r 5) (k10 : q 10 = r 10) : PS t g q := by
  obtain ⟨p0, p1, p2, p3, p4, p5, p6, p7⟩ := P
  refine ⟨p0, e0.trans p1, R, M, S, by rw [k5]; exact p5, by rw [k10]; exact p6, fun d d0 d1 => ?_⟩
  rw [e1]
  exact Int.le_trans (beds_mono p2 R a e3 e5 e6 e7) (p7 d d0 d1)
theorem PS.cancel {t : Int} {h : HV} {r : Int → Int} (P : PS t h r) (ht : t ≤ 999) {b : Int} (b0 : 0 ≤ b) (b1 : b < r 1) (e4 : h 4 b = 0) : PS t (hCan h b) (mCan r b (mRef0 r b)) := by
  have m := P.2.2.2.1.came
  have h0 : hCan h b 0 6 = h 0 6 := by
    show up1 (up1 (h 0) 8 (h 0 8 - hRef h b)) 9 (h 0 9 + (h 9 b - hRef h b)) 6 = h 0 6
    rw [up1_ne (by decide), up1_ne (by decide)]
  refine P.acts ?_ ?_ (HS_cancel P.2.2.2.1 P.2.2.2.2.1 (by omega) b0 b1) (H4.up (b := b) (v := 3) rfl (by omega)) rfl rfl rfl rfl h0 rfl (mCan_at (by decide) (by decide) (by omega)) (mCan_at (by decide) (by decide) (by omega))
  · have w := ((P.2.2.1.w4 (k := b) (v := 3) (by decide)).w0 (k := 8) (v := h 0 8 - hRef h b) (by decide) (by decide)).w0 (k := 9) (v := h 0 9 + (h 9 b - hRef h b)) (by decide) (by decide)
    rw [upr_upr] at w
    exact w
  · exact ((P.2.2.2.1.uSt b0 (by omega) (by decide)).free (by decide) (by decide)).free (by decide) (by decide)
theorem PS.ext {t : Int} {h : HV} {r : Int → Int} (P : PS t h r) (ht : t ≤ 999) {b n : Int} (b0 : 0 ≤ b) (b1 : b < r 1) (n0 : 1 ≤ n ∧ n ≤ 9) (c : cStay h b n) : PS t (hExt h b n) (up1 r (51 + 7 * b + 2) (r (51 + 7 * b + 2) + n)) := by
  obtain ⟨p0, p1, p2, p3, p4, p5, p6, p7⟩ := P
  have m := p3.came
  have e1 : h 3 7 = r 1 := p4.1.2.2.1
  have y := p4.1.2.2.2.2 b b0 (by omega) b1
  have rn := p2.nig b0 (show b < 80 by omega)
  have R2 : RG (149 * t) (hExt h b n) := p2.w6 (by have := c.2.2.1; omega)
  refine ⟨p0, p1, R2, p3.uNig b0 (by omega) (by have := c.2.2.1; rw [← y.2.1]; omega), HS_ext p3 p4 (by omega) b0 b1, ?_, ?_, fun d d0 d1 => ?_⟩
  · rw [up1_ne (by omega)]; exact p5
  · rw [up1_ne (by omega)]; exact p6
  · show sumI (gBeds (hExt h b n) d d) (h 3 7) ≤ h 1 0
    have g6 : ∀ i, hExt h b n 6 i = up1 (h 6) b (h 6 b + n) i := fun _ => rfl
    have g4 : ∀ i, hExt h b n 4 i = h 4 i := fun _ => rfl
    have g5 : ∀ i, hExt h b n 5 i = h 5 i := fun _ => rfl
    have g7 : ∀ i, hExt h b n 7 i = h 7 i := fun _ => rfl
    have gg : gBeds (hExt h b n) d d b = if h 4 b ≤ 1 ∧ h 5 b ≤ d ∧ d < h 5 b + (h 6 b + n) then h 7 b else 0 := by
      rw [gBeds_r R2 b0 (by omega), g4, g5, g6, g7, up1_same]
    have gh := gBeds_r p2 (d := d) b0 (show b < 80 by omega)
    have su : sumI (gBeds (hExt h b n) d d) (h 3 7) = nBeds h d d + (gBeds (hExt h b n) d d b - gBeds h d d b) := by
      refine sumI_up (fun i hi => ?_) b0 (by omega)
      show (if gHold h i ∧ 0 < gShared (hExt h b n) d d i then gShared (hExt h b n) d d i * h 7 i else 0) = (if gHold h i ∧ 0 < gShared h d d i then gShared h d d i * h 7 i else 0)
      have es : gShared (hExt h b n) d d i = gShared h d d i := by
        show (if h 5 i + up1 (h 6) b (h 6 b + n) i ≤ d + 1 then h 5 i + up1 (h 6) b (h 6 b + n) i else d + 1) - (if h 5 i < d then d else h 5 i) = _
        rw [up1_ne hi]
      rw [es]
    rw [su, gg, gh]
    have z := p7 d d0 d1
    have rp := p2.per b0 (show b < 80 by omega)
    by_cases q : h 5 b + h 6 b ≤ d ∧ d < h 5 b + h 6 b + n
    · have w := (allI_iff (by omega)).mp c.2.2.2 (d - (h 5 b + h 6 b)) (by omega) (by omega)
      have w2 := of_decide_eq_true w
      rw [show h 5 b + h 6 b + (d - (h 5 b + h 6 b)) = d by omega] at w2
      split <;> split <;> omega
    · by_cases w : h 4 b ≤ 1 ∧ h 5 b ≤ d ∧ d < h 5 b + h 6 b
      · rw [if_pos w, if_pos ⟨w.1, w.2.1, by omega⟩]; omega
      · rw [if_neg w, if_neg (fun u => w ⟨u.1, u.2.1, by omega⟩)]; omega
theorem wSet_r {K : Int} {h : HV} (R : RG K h) {x y w : Int} (w0 : 0 ≤ w ∧ w ≤ 7) : RG K (upr h 2 (wSet (h 2) x y w)) := R.w2 fun i a b => by
  unfold wSet; split
  · exact w0
  · exact R.wea a b
theorem mWs_r {K : Int} {r : Int → Int} (M : MR K r) {x y w : Int} (x0 : 0 ≤ x) (y1 : y ≤ 1000) (w0 : 0 ≤ w ∧ w ≤ 7) : MR K (mWs r x y w) := fun i i0 i1 => by
  unfold mWs; split
  · next c =>
    have z := (mB_wea (K := K) (d := i - 611) (v := w) (by omega) (by omega)).mpr w0
    rwa [show 611 + (i - 611) = i by omega] at z
  · exact M i i0 i1
theorem PS.wea {t : Int} {h : HV} {r : Int → Int} (P : PS t h r) (ht : t ≤ 999) {x y w : Int} (x0 : 0 ≤ x) (y1 : y ≤ 1000) (w0 : 0 ≤ w ∧ w ≤ 7) : PS t (upr h 2 (wSet (h 2) x y w)) (mWs r x y w) :=
  P.acts (wSet_r P.2.2.1 w0) (mWs_r P.2.2.2.1 x0 y1 w0) (HS_weather P.2.2.2.2.1 (by omega) x0 y1) (H4.eq rfl) rfl rfl rfl rfl rfl rfl (if_neg (by omega)) (if_neg (by omega))
theorem PS.order {t : Int} {h : HV} {r : Int → Int} (P : PS t h r) (ht : t ≤ 999) {k w : Int} (m1 : r 3 < 12) (k0 : 0 ≤ k ∧ k ≤ 1) (w0 : 1 ≤ w ∧ w ≤ 99) : PS t (oApp h k w) (mOrd r k w) := by
  have rw0 := P.2.2.2.1.wait
  have e3 : h 13 2 = r 3 := P.2.2.2.2.1.2.2.1.1
  have R := P.2.2.1
  have M := P.2.2.2.1
  refine P.acts ?_ ?_ (HS_order M P.2.2.2.2.1 (by omega) m1) (H4.eq rfl) rfl rfl rfl rfl rfl rfl ?_ ?_
  · have a := R.w14 (f := up1 (h 14) (h 13 2) k) fun i a b => by
      unfold up1; split
      · exact k0
      · exact R.kin a b
    have b := a.w15 (f := up1 (h 15) (h 13 2) w) fun i a b => by
      unfold up1; split
      · omega
      · exact R.por a b
    exact b.w13 (v := h 13 2 + 1) ⟨by omega, by omega⟩
  · exact ((M.uKin rw0.1 m1 k0).uPor rw0.1 m1 (by omega)).uWait (by omega)
  · show up1 (up1 (up1 r (27 + r 3) k) (39 + r 3) w) 3 (r 3 + 1) 5 = r 5
    rw [up1_ne (by decide), up1_ne (by omega), up1_ne (by omega)]
  · show up1 (up1 (up1 r (27 + r 3) k) (39 + r 3) w) 3 (r 3 + 1) 10 = r 10
    rw [up1_ne (by decide), up1_ne (by omega), up1_ne (by omega)]
theorem PS.recall {t : Int} {h : HV} {r : Int → Int} (P : PS t h r) (ht : t ≤ 999) (m1 : 1 ≤ r 3) : PS t (oLast h) (mDrop r (r 3 - 1)) := by
  have rw0 := P.2.2.2.1.wait
  have e3 : h 13 2 = r 3 := P.2.2.2.2.1.2.2.1.1
  have tt := T3_mDrop (r := r) (x := r 3 - 1) (by omega) (by omega)
  exact P.acts (P.2.2.1.w13 (v := h 13 2 - 1) ⟨by omega, by omega⟩) (MS_mDrop P.2.2.2.1 (by omega) (by omega)).1.1 (HS_recall P.2.2.2.1 P.2.2.2.2.1 (by omega) m1) (H4.eq rfl) rfl rfl rfl rfl rfl rfl tt.1 tt.2.2
theorem PS.flight {t : Int} {h : HV} {r : Int → Int} (P : PS t h r) (ht : t ≤ 1060) {x : Int} (x0 : x = 0 ∨ x = 1) : PS t (upr h 0 (up1 (h 0) 7 x)) (up1 r 4 x) :=
  P.acts (P.2.2.1.w07 x0) (P.2.2.2.1.uCal x0) (HS_flight P.2.2.2.2.1 (by omega)) (H4.eq rfl) rfl rfl rfl rfl (show up1 (h 0) 7 x 6 = h 0 6 from up1_ne (by decide)) rfl (up1_ne (by decide)) (up1_ne (by decide))
theorem PS.pass {t : Int} {h : HV} {r : Int → Int} (P : PS t h r) (ht : t ≤ 1059) : PS (t + 1) (dPass h) (mPas r) := by
  obtain ⟨p0, p1, p2, p3, p4, p5, p6, p7⟩ := P
  have a := RG_pass p2 (by omega)
  have d0 : r 0 = t := p4.1.2.2.2.1.symm.trans p1
  have b := MR_mPas p3 (by omega)
  have c := T2_mPas p3 (by omega)
  have x5 := c.1; have x10 := c.2.2
  refine ⟨by omega, by rw [a.2.2.2.2.2.2.2, p1], by rw [show 149 * (t + 1) = 149 * t + 149 by omega]; exact a.1, by rw [show 149 * (t + 1) = 149 * t + 149 by omega]; exact b.1, HS_pass p2 p3 p1 ht p4, by omega, by omega, fun d d0 d1 => ?_⟩
  rw [a.2.1]
  exact Int.le_trans (beds_mono p2 a.1 H4_pass (by rw [a.2.2.2.1]) a.2.2.2.2.1 a.2.2.2.2.2.1 a.2.2.2.2.2.2.1) (p7 d (by omega) d1)
theorem PS.days {t : Int} {h : HV} {r : Int → Int} (P : PS t h r) {n : Int} (n0 : 0 ≤ n) (ht : t + n ≤ 1060) : PS (t + n) (passI h n) (mPasI r n) :=
  foldI_iv (f := fun (_ : Int) (_ : Unit) => ()) (x := ()) n0 (fun k _ => k ≤ n → PS (t + k) (passI h k) (mPasI r k)) (fun _ => by rw [Int.add_zero]; exact P) (fun k _ k0 _ e hk => by
    rw [passI_s k0, mPasI_s k0, ← Int.add_assoc]
    exact (e (by omega)).pass (by omega)) (Int.le_refl _)
theorem PS.set {t : Int} {h : HV} {r : Int → Int} (P : PS t h r) (ht : t ≤ 999) {k w : Int} (k0 : 0 ≤ k) (k1 : k < 10) (w0 : stV 1 k.toNat ≤ w ∧ w ≤ stV 2 k.toNat) (hb : k = 0 → ∀ d, t ≤ d → d ≤ 999 → nBeds h d d ≤ w) : PS t (upr h 1 (up1 (h 1) k w)) (up1 r (17 + k) w) := by
  obtain ⟨p0, p1, p2, p3, p4, p5, p6, p7⟩ := P
  refine ⟨p0, p1, ⟨fun i i0 i1 => ?_, p2.2⟩, p3.uSet k0 k1 w0, HS_set p4 (by omega) k0 k1, by rw [up1_ne (by omega)]; exact p5, by rw [up1_ne (by omega)]; exact p6, fun d d0 d1 => ?_⟩
  · show stV 1 i.toNat ≤ up1 (h 1) k w i ∧ up1 (h 1) k w i ≤ stV 2 i.toNat
    by_cases e : i = k
    · subst e; rw [up1_same]; exact w0
    · rw [up1_ne e]; exact p2.1 i i0 i1
  · show nBeds h d d ≤ up1 (h 1) k w 0
    by_cases e : k = 0
    · subst e; rw [up1_same]; exact hb rfl d d0 d1
    · rw [up1_ne (by omega)]; exact p7 d d0 d1
