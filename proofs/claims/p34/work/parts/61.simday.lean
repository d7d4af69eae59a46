/-! ONE BOOKING's PART OF A DAY, both sides -/
theorem HB.up0 {h g : HV} {r q : Int → Int} (a : HB h r) {b v : Int} (b0 : 0 ≤ b) (b1 : b < 80) (hv : v ≠ 1) (e4 : g 4 = up1 (h 4) b v) (e8 : g 8 = h 8) (e9 : g 9 = h 9) (e10 : g 10 = h 10) (k1 : q 1 = r 1) (k : ∀ i, 51 ≤ i → i < 611 → q i = up1 r (51 + 7 * b + 0) v i) : HB g q := by
  intro c c0 c1 c2
  have z := a c c0 c1 (by omega)
  rw [e4, e8, e9, e10, k _ (by omega) (by omega), k (51 + 7 * c + 4) (by omega) (by omega), k (51 + 7 * c + 5) (by omega) (by omega), k (51 + 7 * c + 6) (by omega) (by omega)]
  rw [up1_ne (show (51 + 7 * c + 4 : Int) ≠ 51 + 7 * b + 0 by omega), up1_ne (show (51 + 7 * c + 5 : Int) ≠ 51 + 7 * b + 0 by omega), up1_ne (show (51 + 7 * c + 6 : Int) ≠ 51 + 7 * b + 0 by omega)]
  by_cases e : c = b
  · subst e
    rw [up1_same, up1_same]
    exact ⟨rfl, z.2.1, z.2.2.1, z.2.2.2.imp id fun w => ⟨w.1, w.2.1, hv⟩⟩
  · rw [up1_ne e, up1_ne (by omega)]; exact z
theorem mLv_at {r : Int → Int} {b i : Int} (n1 : i ≠ 14) (n2 : i ≠ 51 + 7 * b + 0) : mLv r b i = r i := by
  show up1 (up1 r 14 _) (51 + 7 * b + 0) 2 i = r i
  rw [up1_ne n2, up1_ne n1]
theorem mLv_14 {r : Int → Int} {b : Int} (b0 : 0 ≤ b) : mLv r b 14 = r 14 + (r 19 * r (51 + 7 * b + 3) * (r (51 + 7 * b + 1) + r (51 + 7 * b + 2) - r (51 + 7 * b + 6)) - r (51 + 7 * b + 5)) := by
  show up1 (up1 r 14 _) (51 + 7 * b + 0) 2 14 = _
  rw [up1_ne (by omega), up1_same]
theorem mLv_bk {r : Int → Int} {b i : Int} (i0 : 51 ≤ i) : mLv r b i = up1 r (51 + 7 * b + 0) 2 i := by
  by_cases e : i = 51 + 7 * b + 0
  · subst e; rw [up1_same]; exact up1_same
  · rw [mLv_at (by omega) e, up1_ne e]
theorem mAw_at {r : Int → Int} {b i : Int} (n1 : i ≠ 14) (n3 : i ≠ 13) (n2 : i ≠ 51 + 7 * b + 0) : mAw r b i = r i := by
  show up1 (up1 (up1 r (51 + 7 * b + 0) 4) 14 _) 13 _ i = r i
  rw [up1_ne n3, up1_ne n1, up1_ne n2]
theorem mAw_14 {r : Int → Int} {b : Int} : mAw r b 14 = r 14 - r (51 + 7 * b + 5) := by
  show up1 (up1 (up1 r (51 + 7 * b + 0) 4) 14 _) 13 _ 14 = _
  rw [up1_ne (by decide), up1_same]
theorem mAw_13 {r : Int → Int} {b : Int} : mAw r b 13 = r 13 + r (51 + 7 * b + 3) := up1_same
theorem mAw_bk {r : Int → Int} {b i : Int} (i0 : 51 ≤ i) : mAw r b i = up1 r (51 + 7 * b + 0) 4 i := by
  show up1 (up1 (up1 r (51 + 7 * b + 0) 4) 14 _) 13 _ i = _
  rw [up1_ne (by omega), up1_ne (by omega)]
theorem dLv_8 {h : HV} {b : Int} : dLv h b 0 8 = h 0 8 + (h 1 2 * h 7 b * (h 5 b + h 6 b - h 10 b) - h 9 b) := by
  show up1 (h 0) 8 (h 0 8 + (h 1 2 * h 7 b * (h 5 b + h 6 b - h 10 b) - h 9 b)) 8 = _
  rw [up1_same]
theorem dAw_8 {h : HV} {b : Int} : dAw h b 0 8 = h 0 8 - h 9 b := by
  show up1 (h 0) 8 (h 0 8 - h 9 b) 8 = _
  rw [up1_same]
theorem HS_lv {K t : Int} {h : HV} {r : Int → Int} (R : RG K h) (M : MR K r) (S : HS t h r) (ht : t ≤ 1034) {b : Int} (b0 : 0 ≤ b) (b1 : b < r 1) (h4 : h 4 b = 1) : HS t (dLv h b) (mLv r b) := by
  have m := M.came
  have y := S.1.2.2.2.2 b b0 (by omega) b1
  have z := S.2.1 b b0 (by omega) b1
  have ec : h 10 b = r (51 + 7 * b + 6) := by
    rcases z.2.2.2 with w | w
    · exact w.1
    · exact absurd h4 w.2.2
  have es : h 1 2 = r 19 := S.1.1 2 (by decide) (by decide)
  refine ⟨S.1.ofS (RS_dLv R b) (MS_mLv M b0 (by omega)), S.2.1.up0 b0 (by omega) (show (2 : Int) ≠ 1 by decide) rfl rfl rfl rfl (mLv_at (by decide) (by omega)) fun i i0 i1 => mLv_bk i0, S.2.2.1.of rfl rfl rfl (mLv_at (by decide) (by omega)) fun i i0 i1 => mLv_at (by omega) (by omega), ⟨fun c c0 c1 => ?_, ?_, ?_, ?_, ?_⟩, S.2.2.2.2.of rfl rfl (mLv_at (by decide) (by omega)) (fun i i0 i1 => mLv_at (by omega) (by omega)) ht⟩
  · rw [mLv_at (by omega) (by omega)]; exact S.2.2.2.1.1 c c0 c1
  · rw [mLv_at (by decide) (by omega)]; exact S.2.2.2.1.2.1
  · rw [mLv_14 b0, dLv_8, S.2.2.2.1.2.2.1, es, y.2.2, y.1, y.2.1, ec, z.2.2.1]
  · rw [mLv_at (by decide) (by omega)]; exact S.2.2.2.1.2.2.2.1
  · rw [mLv_at (by decide) (by omega)]; exact S.2.2.2.1.2.2.2.2
theorem HS_aw {K t : Int} {h : HV} {r : Int → Int} (R : RG K h) (M : MR K r) (S : HS t h r) (ht : t ≤ 1034) {b : Int} (b0 : 0 ≤ b) (b1 : b < r 1) : HS t (dAw h b) (mAw r b) := by
  have m := M.came
  have y := S.1.2.2.2.2 b b0 (by omega) b1
  have z := S.2.1 b b0 (by omega) b1
  refine ⟨S.1.ofS (RS_dAw R b) (MS_mAw M b0 (by omega)), S.2.1.up0 b0 (by omega) (show (4 : Int) ≠ 1 by decide) rfl rfl rfl rfl (mAw_at (by decide) (by decide) (by omega)) fun i i0 i1 => mAw_bk i0, S.2.2.1.of rfl rfl rfl (mAw_at (by decide) (by decide) (by omega)) fun i i0 i1 => mAw_at (by omega) (by omega) (by omega), ⟨fun c c0 c1 => ?_, ?_, ?_, ?_, ?_⟩, S.2.2.2.2.of rfl rfl (mAw_at (by decide) (by decide) (by omega)) (fun i i0 i1 => mAw_at (by omega) (by omega) (by omega)) ht⟩
  · show up1 (h 16) 8 (h 16 8 + h 7 b) c = _
    by_cases e : c = 8
    · subst e
      have q : h 16 8 = r 13 := S.2.2.2.1.1 8 (by decide) (by decide)
      rw [up1_same, show (5 + 8 : Int) = 13 by decide, mAw_13, y.2.2, q]
    · rw [up1_ne e, mAw_at (by omega) (by omega) (by omega)]; exact S.2.2.2.1.1 c c0 c1
  · rw [mAw_at (by decide) (by decide) (by omega)]; exact S.2.2.2.1.2.1
  · rw [mAw_14, dAw_8, S.2.2.2.1.2.2.1, z.2.2.1]
  · rw [mAw_at (by decide) (by decide) (by omega)]; exact S.2.2.2.1.2.2.2.1
  · rw [mAw_at (by decide) (by decide) (by omega)]; exact S.2.2.2.1.2.2.2.2
/-- two folds side by side -/
theorem fold2 {α β : Type} {f : Int → α → α} {g : Int → β → β} {P : α → β → Prop} {x : α} {y : β} {n : Int} (h0 : P x y) (hs : ∀ k a b, 0 ≤ k → k < n → P a b → P (f k a) (g k b)) : P (foldI f x n) (foldI g y n) := by
  by_cases hn : 0 ≤ n
  · have q := foldI_iv (f := fun k (z : α × β) => (f k z.1, g k z.2)) (x := (x, y)) hn (fun k z => z.1 = foldI f x k ∧ z.2 = foldI g y k ∧ P z.1 z.2) ⟨rfl, rfl, h0⟩ fun k z a b hz => by
      refine ⟨?_, ?_, hs k _ _ a b hz.2.2⟩
      · rw [foldI_s a, ← hz.1]
      · rw [foldI_s a, ← hz.2.1]
    rw [q.1, q.2.1] at q
    exact q.2.2
  · unfold foldI; rw [show n.toNat = 0 by omega]; exact h0
theorem HS_leave {K t : Int} {h : HV} {r : Int → Int} (R : RG K h) (M : MR K r) (S : HS t h r) (ht : t ≤ 1034) {d : Int} (ed : h 0 6 = d) (hd : 0 ≤ d ∧ d < 1064) : HS t (if dnO h then dLeave h else h) (mLea r d) := by
  have m := M.came
  have e1 : h 3 7 = r 1 := S.1.2.2.1
  have ew : wOf h (h 0 6) = r (611 + d) := by rw [ed]; exact S.1.2.1 d hd.1 hd.2
  have key : RS K h (if dnO h then dLeave h else h) ∧ MS K r (mLea r d) ∧ HS t (if dnO h then dLeave h else h) (mLea r d) := by
    by_cases c : dnO h
    · rw [if_pos c]
      unfold dLeave mLea
      rw [e1]
      refine fold2 (P := fun a b => RS K h a ∧ MS K r b ∧ HS t a b) ⟨RS.of R, MS.of M, S⟩ fun k a b k0 k1 p => ?_
      have m1 : b 1 = r 1 := p.2.1.2 1 (Or.inr (Or.inl rfl))
      have y := p.2.2.1.2.2.2.2 k k0 (by omega) (by omega)
      have z := p.2.2.2.1 k k0 (by omega) (by omega)
      have e6 : a 0 6 = d := p.1.2.2.2.2.2.2.2.trans ed
      have eb : b (611 + d) = r (611 + d) := p.2.1.2 (611 + d) (by unfold kept; omega)
      have cw : b (611 + d) / 2 % 2 = 0 := by rw [eb, ← ew]; exact c
      refine ⟨p.1.tr (RS_sLv p.1.1 k), p.2.1.tr (MS_sLm p.2.1.1 k0 (by omega)), ?_⟩
      unfold sLv sLm
      by_cases q : a 4 k = 1 ∧ a 5 k + a 6 k ≤ d
      · rw [if_pos (show gOver a k (a 0 6) from ⟨q.1, by rw [e6]; exact q.2⟩), if_pos ⟨by rw [← z.1]; exact q.1, by rw [← y.1, ← y.2.1]; exact q.2, cw⟩]
        exact HS_lv p.1.1 p.2.1.1 p.2.2 ht k0 (by omega) q.1
      · rw [if_neg (fun (w : gOver a k (a 0 6)) => q ⟨w.1, by have := w.2; rw [e6] at this; exact this⟩), if_neg (fun w => q ⟨by rw [z.1]; exact w.1, by rw [y.1, y.2.1]; exact w.2.1⟩)]
        exact p.2.2
    · rw [if_neg c]
      have cw : ¬ r (611 + d) / 2 % 2 = 0 := by rw [← ew]; exact c
      have en : mLea r d = r := by
        unfold mLea
        by_cases hn : 0 ≤ r 1
        · exact (foldI_iv (f := sLm d) (x := r) hn (fun _ g => g = r) rfl fun k g _ _ hg => by
            subst hg; unfold sLm; exact if_neg fun w => cw w.2.2)
        · omega
      rw [en]; exact ⟨RS.of R, MS.of M, S⟩
  exact key.2.2
