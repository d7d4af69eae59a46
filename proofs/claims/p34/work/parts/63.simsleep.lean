theorem HB.up4 {h g : HV} {r q : Int → Int} (a : HB h r) {b v : Int} (b0 : 0 ≤ b) (b1 : b < 80) (e4 : g 4 = h 4) (e8 : g 8 = up1 (h 8) b v) (e9 : g 9 = h 9) (e10 : g 10 = h 10) (k1 : q 1 = r 1) (k : ∀ i, 51 ≤ i → i < 611 → q i = up1 r (51 + 7 * b + 4) v i) : HB g q := by
  intro c c0 c1 c2
  have z := a c c0 c1 (by omega)
  rw [e4, e8, e9, e10, k _ (by omega) (by omega), k (51 + 7 * c + 4) (by omega) (by omega), k (51 + 7 * c + 5) (by omega) (by omega), k (51 + 7 * c + 6) (by omega) (by omega)]
  rw [up1_ne (show (51 + 7 * c + 0 : Int) ≠ 51 + 7 * b + 4 by omega), up1_ne (show (51 + 7 * c + 5 : Int) ≠ 51 + 7 * b + 4 by omega), up1_ne (show (51 + 7 * c + 6 : Int) ≠ 51 + 7 * b + 4 by omega)]
  by_cases e : c = b
  · subst e
    rw [up1_same, up1_same]
    exact ⟨z.1, rfl, z.2.2.1, z.2.2.2⟩
  · rw [up1_ne e, up1_ne (by omega)]; exact z
abbrev mSl1 (r : Int → Int) (b x : Int) : Int → Int := up1 (up1 (up1 r (51 + 7 * b + 4) (r (51 + 7 * b + 4) + 1)) 12 (r 12 + r (51 + 7 * b + 3))) 11 (r 11 + x)
theorem mSl_at {r : Int → Int} {b x i : Int} (n1 : i ≠ 11) (n2 : i ≠ 12) (n3 : i ≠ 51 + 7 * b + 4) : mSl1 r b x i = r i := by
  show up1 (up1 (up1 r (51 + 7 * b + 4) _) 12 _) 11 _ i = r i
  rw [up1_ne n1, up1_ne n2, up1_ne n3]
theorem mSl_bk {r : Int → Int} {b x i : Int} (i0 : 51 ≤ i) : mSl1 r b x i = up1 r (51 + 7 * b + 4) (r (51 + 7 * b + 4) + 1) i := by
  show up1 (up1 (up1 r (51 + 7 * b + 4) _) 12 _) 11 _ i = _
  rw [up1_ne (by omega), up1_ne (by omega)]
theorem mSl_12 {r : Int → Int} {b x : Int} : mSl1 r b x 12 = r 12 + r (51 + 7 * b + 3) := by
  show up1 (up1 (up1 r (51 + 7 * b + 4) _) 12 (r 12 + r (51 + 7 * b + 3))) 11 _ 12 = _
  rw [up1_ne (by decide), up1_same]
theorem mSl_11 {r : Int → Int} {b x : Int} : mSl1 r b x 11 = r 11 + x := up1_same
/-- a hut in which booking b has slept one night more, with the tallies of f -/
theorem HS_sl {K K' t b x : Int} {h g : HV} {r : Int → Int} (s : RS K h g) (m : MS K' r (mSl1 r b x)) (S : HS t h r) (ht : t ≤ 1034) (b0 : 0 ≤ b) (b1 : b < r 1) (mm : r 1 ≤ 80)
    (e0 : g 0 = h 0) (e4 : g 4 = h 4) (e8 : g 8 = up1 (h 8) b (h 8 b + 1)) (e9 : g 9 = h 9) (e10 : g 10 = h 10) (e11 : g 11 = h 11) (e12 : g 12 = h 12) (e13 : g 13 = h 13) (e14 : g 14 = h 14) (e15 : g 15 = h 15)
    (t7 : g 16 7 = h 16 7 + h 7 b) (t6 : g 16 6 = h 16 6 + x) (tt : ∀ c, c ≠ 6 → c ≠ 7 → g 16 c = h 16 c) : HS t g (mSl1 r b x) := by
  have y := S.1.2.2.2.2 b b0 (by omega) b1
  have z := S.2.1 b b0 (by omega) b1
  refine ⟨S.1.ofS s m, S.2.1.up4 b0 (by omega) e4 (by rw [e8, z.2.1]) e9 e10 (mSl_at (by decide) (by decide) (by omega)) fun i i0 i1 => mSl_bk i0, S.2.2.1.of (by rw [e13]) e14 e15 (mSl_at (by decide) (by decide) (by omega)) fun i i0 i1 => mSl_at (by omega) (by omega) (by omega), ⟨fun c c0 c1 => ?_, ?_, ?_, ?_, ?_⟩, S.2.2.2.2.of (by rw [e11]) e12 (mSl_at (by decide) (by decide) (by omega)) (fun i i0 i1 => mSl_at (by omega) (by omega) (by omega)) ht⟩
  · by_cases e : c = 7
    · subst e
      have q : h 16 7 = r 12 := S.2.2.2.1.1 7 (by decide) (by decide)
      rw [t7, show (5 + 7 : Int) = 12 by decide, mSl_12, y.2.2, q]
    · by_cases f : c = 6
      · subst f
        have q : h 16 6 = r 11 := S.2.2.2.1.1 6 (by decide) (by decide)
        rw [t6, show (5 + 6 : Int) = 11 by decide, mSl_11, q]
      · rw [tt c f e, mSl_at (by omega) (by omega) (by omega)]; exact S.2.2.2.1.1 c c0 c1
  · rw [e0, mSl_at (by decide) (by decide) (by omega)]; exact S.2.2.2.1.2.1
  · rw [e0, mSl_at (by decide) (by decide) (by omega)]; exact S.2.2.2.1.2.2.1
  · rw [e0, mSl_at (by decide) (by decide) (by omega)]; exact S.2.2.2.1.2.2.2.1
  · rw [e0, mSl_at (by decide) (by decide) (by omega)]; exact S.2.2.2.1.2.2.2.2
theorem HS_sleep {K t : Int} {h : HV} {r : Int → Int} (R : RG K h) (M : MR K r) (S : HS t h r) (ht : t ≤ 1034) {d : Int} (ed : h 0 6 = d) : RS K h (dSleep h) ∧ MS K r (mSle r d) ∧ HS t (dSleep h) (mSle r d) := by
  have m := M.came
  have e1 : h 3 7 = r 1 := S.1.2.2.1
  unfold dSleep mSle
  rw [e1]
  refine fold2 (P := fun a b => RS K h a ∧ MS K r b ∧ HS t a b) ⟨RS.of R, MS.of M, S⟩ fun k a b k0 k1 p => ?_
  have m1 : b 1 = r 1 := p.2.1.2 1 (Or.inr (Or.inl rfl))
  have y := p.2.2.1.2.2.2.2 k k0 (by omega) (by omega)
  have z := p.2.2.2.1 k k0 (by omega) (by omega)
  have e6 : a 0 6 = d := p.1.2.2.2.2.2.2.2.trans ed
  have hR0 := RS_sSl p.1.1 k
  have hM0 := MS_sSm p.2.1.1 (d := d) k0 (show k < 80 by omega)
  refine ⟨p.1.tr hR0, p.2.1.tr hM0, ?_⟩
  by_cases q : a 4 k = 1
  · have q2 : b (51 + 7 * k + 0) = 1 := by rw [← z.1]; exact q
    have g1 : sSl1 k a = upr (upr a 8 (up1 (a 8) k (a 8 k + 1))) 16 (up1 (a 16) 7 (a 16 7 + a 7 k)) := if_pos q
    by_cases w : a 5 k + a 6 k ≤ d
    · have f2 : sSm d k b = mSl1 b k (b (51 + 7 * k + 3)) := by
        have e : sSm d k b = mSl1 b k (if b (51 + 7 * k + 1) + b (51 + 7 * k + 2) ≤ d then b (51 + 7 * k + 3) else 0) := if_pos q2
        rw [if_pos (show b (51 + 7 * k + 1) + b (51 + 7 * k + 2) ≤ d by rw [← y.1, ← y.2.1]; exact w)] at e; exact e
      have f1 : sSl k a = upr (sSl1 k a) 16 (up1 (sSl1 k a 16) 6 (sSl1 k a 16 6 + sSl1 k a 7 k)) := if_pos (by rw [g1]; exact ⟨q, by rw [← e6] at w; exact w⟩)
      rw [f2] at hM0 ⊢
      rw [f1, g1] at hR0 ⊢
      refine HS_sl hR0 hM0 p.2.2 ht k0 (by omega) (by omega) rfl rfl rfl rfl rfl rfl rfl rfl rfl rfl ?_ ?_ ?_
      · show up1 (up1 (a 16) 7 (a 16 7 + a 7 k)) 6 (up1 (a 16) 7 (a 16 7 + a 7 k) 6 + a 7 k) 7 = _
        rw [up1_ne (by decide), up1_same]
      · show up1 (up1 (a 16) 7 (a 16 7 + a 7 k)) 6 (up1 (a 16) 7 (a 16 7 + a 7 k) 6 + a 7 k) 6 = _
        rw [up1_same, up1_ne (by decide), y.2.2]
      · intro c n6 n7
        show up1 (up1 (a 16) 7 (a 16 7 + a 7 k)) 6 (up1 (a 16) 7 (a 16 7 + a 7 k) 6 + a 7 k) c = _
        rw [up1_ne n6, up1_ne n7]
    · have f2 : sSm d k b = mSl1 b k 0 := by
        have e : sSm d k b = mSl1 b k (if b (51 + 7 * k + 1) + b (51 + 7 * k + 2) ≤ d then b (51 + 7 * k + 3) else 0) := if_pos q2
        rw [if_neg (show ¬ b (51 + 7 * k + 1) + b (51 + 7 * k + 2) ≤ d by rw [← y.1, ← y.2.1]; exact w)] at e; exact e
      have f1 : sSl k a = sSl1 k a := if_neg (by rw [g1]; intro u; exact w (by rw [← e6]; exact u.2))
      rw [f2] at hM0 ⊢
      rw [f1, g1] at hR0 ⊢
      refine HS_sl hR0 hM0 p.2.2 ht k0 (by omega) (by omega) rfl rfl rfl rfl rfl rfl rfl rfl rfl rfl ?_ ?_ ?_
      · show up1 (a 16) 7 (a 16 7 + a 7 k) 7 = _
        rw [up1_same]
      · show up1 (a 16) 7 (a 16 7 + a 7 k) 6 = _
        rw [up1_ne (by decide), Int.add_zero]
      · intro c n6 n7
        show up1 (a 16) 7 (a 16 7 + a 7 k) c = _
        rw [up1_ne n7]
  · have f2 : sSm d k b = b := if_neg (by rw [← z.1]; exact q)
    have g1 : sSl1 k a = a := if_neg q
    have f1 : sSl k a = a := by
      show (if gOver (sSl1 k a) k (sSl1 k a 0 6) then _ else _) = a
      rw [if_neg (by rw [g1]; exact fun u => q u.1), g1]
    rw [f1, f2]; exact p.2.2
