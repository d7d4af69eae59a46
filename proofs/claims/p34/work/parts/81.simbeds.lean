/-! WHO IS GONE STAYS SO, and so no day takes more beds -/
def H4 (h g : HV) : Prop := ∀ b, 1 < h 4 b → g 4 b = h 4 b
theorem H4.of {h : HV} : H4 h h := fun _ _ => rfl
theorem H4.tr {h g f : HV} (a : H4 h g) (b : H4 g f) : H4 h f := fun c hc => by
  have e := a c hc
  rw [b c (by rw [e]; exact hc), e]
theorem H4.eq {h g : HV} (e : g 4 = h 4) : H4 h g := fun b _ => by rw [e]
theorem H4.up {h g : HV} {b v : Int} (e : g 4 = up1 (h 4) b v) (hb : h 4 b ≤ 1) : H4 h g := fun c hc => by
  rw [e]
  by_cases q : c = b
  · subst q; omega
  · exact up1_ne q
theorem H4_sLv {b : Int} {h : HV} : H4 h (sLv b h) := by
  unfold sLv; split
  · next q => exact H4.up (b := b) (v := 2) rfl (by have := q.1; omega)
  · exact H4.of
theorem H4_sLt {b : Int} {h : HV} : H4 h (sLt b h) := by
  unfold sLt; split
  · next q => exact H4.up (b := b) (v := 4) rfl (by have := q.1; omega)
  · exact H4.of
theorem H4_sCm {b : Int} {q : HV × Int} : H4 q.1 (sCm b q).1 := by
  unfold sCm; split
  · next c =>
    split
    · exact H4.up (b := b) (v := 1) rfl (by have := c.1; omega)
    · exact H4.up (b := b) (v := 4) rfl (by have := c.1; omega)
  · exact H4.of
theorem H4_sFl {x b : Int} {q : HV × Int} : H4 q.1 (sFl x b q).1 := by
  unfold sFl; split
  · next c =>
    show H4 q.1 (if x = 0 then q.1 else dLv q.1 b)
    split
    · exact H4.of
    · exact H4.up (b := b) (v := 2) rfl (by have := c.1.1; omega)
  · exact H4.of
theorem sSl_4 {b : Int} {h : HV} : sSl b h 4 = h 4 := by
  have e : sSl1 b h 4 = h 4 := by unfold sSl1; split <;> rfl
  unfold sSl; split
  · exact e
  · exact e
theorem H4_fold {f : Int → HV → HV} (hf : ∀ b g, H4 g (f b g)) {h : HV} {i : Int} : H4 h (foldI f h i) := by
  by_cases hi : 0 ≤ i
  · exact foldI_iv hi (fun _ g => H4 h g) H4.of fun k y _ _ hy => hy.tr (hf k y)
  · unfold foldI; rw [show i.toNat = 0 by omega]; exact H4.of
theorem H4_foldp {f : Int → HV × Int → HV × Int} (hf : ∀ b g, H4 g.1 (f b g).1) {q : HV × Int} {i : Int} : H4 q.1 (foldI f q i).1 := by
  by_cases hi : 0 ≤ i
  · exact foldI_iv hi (fun _ (g : HV × Int) => H4 q.1 g.1) H4.of fun k y _ _ hy => hy.tr (hf k y)
  · unfold foldI; rw [show i.toNat = 0 by omega]; exact H4.of
theorem H4_dBr : ∀ (n : Nat) (h : HV) (l : Int), H4 h (dBr n h l)
  | 0, h, l => H4.of
  | n + 1, h, l => by
    unfold dBr; split
    · exact (H4.eq sBr_x.2.1).tr (H4_dBr n _ _)
    · exact H4.of
theorem H4_begin {h : HV} : H4 h (dBegin h) := by
  have a : H4 h (dSpoil h) := H4.eq rfl
  have b : H4 h (dBeg1 h) := by
    unfold dBeg1
    refine H4.tr ?_ (H4_fold (fun b g => H4_sLt))
    split
    · exact a.tr (H4_fold (fun b g => H4_sLv))
    · exact a
  unfold dBegin; split
  · exact (b.tr (H4_foldp (q := (dBeg1 h, nThere (dBeg1 h))) (fun b g => H4_sCm))).tr (H4_dBr 12 _ _)
  · exact b
theorem H4_fly {h : HV} : H4 h (dFly h) := by
  have a : H4 h (dFly1 h) := (H4_dBr 12 h (h 1 7)).tr (H4_foldp (q := (dBring h (h 1 7), 0)) (fun b g => H4_sFl))
  exact a.tr (H4.eq rfl)
theorem H4_end {h : HV} : H4 h (dEnd h) := by
  have a : H4 h (dEat h) := H4.eq rfl
  exact (a.tr (H4_fold (fun b g => H4.eq sSl_4))).tr (H4.eq rfl)
theorem H4_pass {h : HV} : H4 h (dPass h) := by
  unfold dPass
  refine H4.tr ?_ H4_end
  split
  · exact H4_begin.tr H4_fly
  · exact H4_begin
theorem sumI_mono {f g : Int → Int} {n : Int} (h : ∀ k, 0 ≤ k → k < n → f k ≤ g k) : sumI f n ≤ sumI g n := by
  by_cases hn : 0 ≤ n
  · have e := sumI_sign (f := fun k => g k + -1 * f k) hn fun k a b => by have := h k a b; omega
    have e2 : sumI (fun k => g k + -1 * f k) n = sumI g n + sumI (fun k => -1 * f k) n := sumI_plus
    have e3 : sumI (fun k => -1 * f k) n + sumI f n = 0 := by
      rw [← sumI_plus (f := fun k => -1 * f k) (g := f)]
      exact sumI_z fun k _ _ => by omega
    omega
  · unfold sumI; rw [show n.toNat = 0 by omega]; exact Int.le_refl _
theorem gBeds_r {K : Int} {h : HV} (R : RG K h) {d b : Int} (b0 : 0 ≤ b) (b1 : b < 80) : gBeds h d d b = if h 4 b ≤ 1 ∧ h 5 b ≤ d ∧ d < h 5 b + h 6 b then h 7 b else 0 := by
  have hw := R.how b0 b1
  have e : gNight h d b = gBeds h d d b := congrFun gNight_beds b
  rw [← e]
  show (if (h 4 b = 0 ∨ h 4 b = 1) ∧ h 5 b ≤ d ∧ d < h 5 b + h 6 b then h 7 b else 0) = _
  by_cases q : h 4 b ≤ 1 ∧ h 5 b ≤ d ∧ d < h 5 b + h 6 b
  · rw [if_pos q, if_pos ⟨by omega, q.2⟩]
  · rw [if_neg q, if_neg (fun u => q ⟨by omega, u.2⟩)]
theorem beds_mono {K K' : Int} {h g : HV} (R : RG K h) (Q : RG K' g) (a : H4 h g) (e3 : g 3 7 = h 3 7) (e5 : g 5 = h 5) (e6 : g 6 = h 6) (e7 : g 7 = h 7) {d : Int} : nBeds g d d ≤ nBeds h d d := by
  have m := R.made
  show sumI (gBeds g d d) (g 3 7) ≤ sumI (gBeds h d d) (h 3 7)
  rw [e3]
  refine sumI_mono fun k k0 k1 => ?_
  have p := R.per k0 (show k < 80 by omega)
  rw [gBeds_r R k0 (by omega), gBeds_r Q k0 (by omega), e5, e6, e7]
  by_cases q : h 4 k ≤ 1
  · by_cases w : g 4 k ≤ 1 ∧ h 5 k ≤ d ∧ d < h 5 k + h 6 k
    · rw [if_pos w, if_pos ⟨q, w.2⟩]; exact Int.le_refl _
    · rw [if_neg w]; split <;> omega
  · have z := a k (by omega)
    rw [if_neg (fun u => q (by rw [← z]; exact u.1)), if_neg (fun u => q u.1)]; exact Int.le_refl _
