/-! WHAT HOLDS OF EACH ROW: who came when, food that adds up, stranded nights among the slept -/
/-- a booking, as the day t begins -/
def BK (t : Int) (r : Int → Int) (b : Int) : Prop :=
  (r (51 + 7 * b + 0) = 2 → r (51 + 7 * b + 1) + r (51 + 7 * b + 2) ≤ t) ∧
  (r (51 + 7 * b + 0) = 1 ∨ r (51 + 7 * b + 0) = 2 → r (51 + 7 * b + 1) ≤ r (51 + 7 * b + 6) ∧ r (51 + 7 * b + 6) < r (51 + 7 * b + 1) + r (51 + 7 * b + 2) ∧ 0 ≤ r (51 + 7 * b + 6)) ∧
  (¬ (r (51 + 7 * b + 0) = 1 ∨ r (51 + 7 * b + 0) = 2) → r (51 + 7 * b + 6) = -1000005 ∧ r (51 + 7 * b + 4) = 0) ∧
  (r (51 + 7 * b + 0) = 1 → r (51 + 7 * b + 4) = t - r (51 + 7 * b + 6))
def BL (r : Int → Int) : Prop := r 7 = r 8 + r 9 + mFrP r + r 2
def TL (t : Int) (r : Int → Int) : Prop := 0 ≤ r 11 ∧ r 11 ≤ r 12 ∧ r 12 ≤ 720 * t
def V (t : Int) (r : Int → Int) : Prop := BL r ∧ TL t r ∧ ∀ b, 0 ≤ b → b < r 1 → BK t r b
theorem BK.cg {t : Int} {r g : Int → Int} {b : Int} (h : BK t r b) (e : ∀ w, 0 ≤ w → w < 7 → g (51 + 7 * b + w) = r (51 + 7 * b + w)) : BK t g b := by
  have e0 := e 0 (by decide) (by decide)
  have e1 := e 1 (by decide) (by decide)
  have e2 := e 2 (by decide) (by decide)
  have e4 := e 4 (by decide) (by decide)
  have e6 := e 6 (by decide) (by decide)
  unfold BK at h ⊢
  rw [e0, e1, e2, e4, e6]; exact h
theorem BK.next {t : Int} {r : Int → Int} {b : Int} (h : BK t r b) (n : ¬ r (51 + 7 * b + 0) = 1) : BK (t + 1) r b :=
  ⟨fun e => by have := h.1 e; omega, h.2.1, h.2.2.1, fun e => absurd e n⟩
theorem sumF_up {r : Int → Int} {d v : Int} (d0 : 0 ≤ d) : ∀ n : Nat, sumI (fun q => up1 r (1675 + d) v (1675 + q)) n = sumI (fun q => r (1675 + q)) n + if d < n then v - r (1675 + d) else 0
  | 0 => by rw [if_neg (by omega)]; rfl
  | n + 1 => by
    have ih := sumF_up (r := r) (v := v) d0 n
    rw [show ((n + 1 : Nat) : Int) = (n : Int) + 1 by omega, sumI_s (by omega), sumI_s (by omega), ih]
    by_cases e : (n : Int) = d
    · subst e; rw [up1_same, if_neg (by omega), if_pos (by omega)]; omega
    · rw [up1_ne (by omega)]
      by_cases c : d < n
      · rw [if_pos c, if_pos (by omega)]; omega
      · rw [if_neg c, if_neg (by omega)]; omega
theorem mFrP_up {r : Int → Int} {d v : Int} (d0 : 0 ≤ d) (d1 : d < 1064) : mFrP (up1 r (1675 + d) v) = mFrP r + (v - r (1675 + d)) := by
  have h := sumF_up (r := r) (v := v) d0 1064
  rw [if_pos (by omega)] at h; exact h
theorem mFrP_ne {r : Int → Int} {i v : Int} (h : i < 1675) : mFrP (up1 r i v) = mFrP r := sumI_cg fun k k0 k1 => up1_ne (by omega)
/-- a number that none of it speaks of -/
def idl (i : Int) : Prop := i = 0 ∨ (3 ≤ i ∧ i < 7) ∨ i = 10 ∨ (13 ≤ i ∧ i < 51) ∨ (611 ≤ i ∧ i < 1675)
theorem V.idle {t : Int} {r g : Int → Int} (h : V t r) (m1 : r 1 ≤ 80) (e : ∀ i, 0 ≤ i → i < 2739 → ¬ idl i → g i = r i) : V t g := by
  have n : ∀ i, 0 ≤ i → i < 2739 → (i = 1 ∨ i = 2 ∨ (7 ≤ i ∧ i < 10) ∨ i = 11 ∨ i = 12 ∨ (51 ≤ i ∧ i < 611) ∨ 1675 ≤ i) → g i = r i := fun i i0 i9 i1 => e i i0 i9 (by unfold idl; omega)
  have f : mFrP g = mFrP r := sumI_cg fun k k0 k1 => n _ (by omega) (by omega) (by omega)
  refine ⟨?_, ?_, fun b b0 b1 => ?_⟩
  · unfold BL; rw [f, n 7 (by decide) (by decide) (by decide), n 8 (by decide) (by decide) (by decide), n 9 (by decide) (by decide) (by decide), n 2 (by decide) (by decide) (by decide)]; exact h.1
  · unfold TL; rw [n 11 (by decide) (by decide) (by decide), n 12 (by decide) (by decide) (by decide)]; exact h.2.1
  · rw [n 1 (by decide) (by decide) (by decide)] at b1
    exact (h.2.2 b b0 b1).cg fun w w0 w1 => n _ (by omega) (by omega) (by omega)
theorem V.up {t : Int} {r : Int → Int} (h : V t r) (m1 : r 1 ≤ 80) {i v : Int} (n : idl i) : V t (up1 r i v) :=
  h.idle m1 fun k _ _ nk => up1_ne fun e => nk (by rw [e]; exact n)
/-- a booking's own cells -/
theorem V.bk {t : Int} {r g : Int → Int} (h : V t r) (m1 : r 1 ≤ 80) {b : Int} (b0 : 0 ≤ b) (b1 : b < r 1) (hB : BK t g b) (e : ∀ i, ¬ (51 + 7 * b ≤ i ∧ i < 51 + 7 * b + 7) → g i = r i) : V t g := by
  have f : mFrP g = mFrP r := sumI_cg fun k k0 k1 => e _ (by omega)
  refine ⟨?_, ?_, fun c c0 c1 => ?_⟩
  · unfold BL; rw [f, e 7 (by omega), e 8 (by omega), e 9 (by omega), e 2 (by omega)]; exact h.1
  · unfold TL; rw [e 11 (by omega), e 12 (by omega)]; exact h.2.1
  · rw [e 1 (by omega)] at c1
    by_cases q : c = b
    · subst q; exact hB
    · exact (h.2.2 c c0 c1).cg fun w w0 w1 => e _ (by omega)
theorem BK_st {t : Int} {r : Int → Int} {b v : Int} (h : (v = 2 → r (51 + 7 * b + 1) + r (51 + 7 * b + 2) ≤ t) ∧
  (v = 1 ∨ v = 2 → r (51 + 7 * b + 1) ≤ r (51 + 7 * b + 6) ∧ r (51 + 7 * b + 6) < r (51 + 7 * b + 1) + r (51 + 7 * b + 2) ∧ 0 ≤ r (51 + 7 * b + 6)) ∧
  (¬ (v = 1 ∨ v = 2) → r (51 + 7 * b + 6) = -1000005 ∧ r (51 + 7 * b + 4) = 0) ∧ (v = 1 → r (51 + 7 * b + 4) = t - r (51 + 7 * b + 6))) : BK t (up1 r (51 + 7 * b + 0) v) b := by
  have e1 : up1 r (51 + 7 * b + 0) v (51 + 7 * b + 1) = r (51 + 7 * b + 1) := up1_ne (by omega)
  have e2 : up1 r (51 + 7 * b + 0) v (51 + 7 * b + 2) = r (51 + 7 * b + 2) := up1_ne (by omega)
  have e4 : up1 r (51 + 7 * b + 0) v (51 + 7 * b + 4) = r (51 + 7 * b + 4) := up1_ne (by omega)
  have e6 : up1 r (51 + 7 * b + 0) v (51 + 7 * b + 6) = r (51 + 7 * b + 6) := up1_ne (by omega)
  unfold BK
  rw [up1_same, e1, e2, e4, e6]; exact h
theorem V.st {t : Int} {r : Int → Int} (h : V t r) (m1 : r 1 ≤ 80) {b v : Int} (b0 : 0 ≤ b) (b1 : b < r 1) (hB : BK t (up1 r (51 + 7 * b + 0) v) b) : V t (up1 r (51 + 7 * b + 0) v) :=
  h.bk m1 b0 b1 hB fun i n => up1_ne (by omega)
theorem id14 : idl 14 := by unfold idl; omega
theorem id13 : idl 13 := by unfold idl; omega
theorem V_mLv {t : Int} {r : Int → Int} (h : V t r) (m1 : r 1 ≤ 80) {b : Int} (b0 : 0 ≤ b) (b1 : b < r 1) (s1 : r (51 + 7 * b + 0) = 1) (s2 : r (51 + 7 * b + 1) + r (51 + 7 * b + 2) ≤ t) : V t (mLv r b) := by
  have h2 := fun v => h.up m1 (v := v) id14
  have k := h.2.2 b b0 b1
  refine V.st (h2 _) (by rw [up1_ne (by decide)]; exact m1) b0 (by rw [up1_ne (by decide)]; exact b1) (BK_st ?_)
  rw [up1_ne (by omega), up1_ne (by omega), up1_ne (by omega), up1_ne (by omega)]
  exact ⟨fun _ => s2, fun _ => k.2.1 (Or.inl s1), fun n => absurd (Or.inr rfl) n, fun e => absurd e (by decide)⟩
theorem V_mAw {t : Int} {r : Int → Int} (h : V t r) (m1 : r 1 ≤ 80) {b : Int} (b0 : 0 ≤ b) (b1 : b < r 1) (s1 : r (51 + 7 * b + 0) = 0) : V t (mAw r b) := by
  have k := h.2.2 b b0 b1
  have a : V t (up1 r (51 + 7 * b + 0) 4) := h.st m1 b0 b1 (BK_st ⟨fun e => absurd e (by decide), fun e => by omega, fun _ => k.2.2.1 (by omega), fun e => absurd e (by decide)⟩)
  have m2 : up1 r (51 + 7 * b + 0) 4 1 ≤ 80 := by rw [up1_ne (by omega)]; exact m1
  exact (a.up m2 id14).up (by rw [up1_ne (by decide)]; exact m2) id13
theorem V_mIn {t : Int} {r : Int → Int} (h : V t r) (m1 : r 1 ≤ 80) {b : Int} (b0 : 0 ≤ b) (b1 : b < r 1) (t0 : 0 ≤ t) (s1 : r (51 + 7 * b + 0) = 0) (s2 : r (51 + 7 * b + 1) ≤ t) (s3 : t < r (51 + 7 * b + 1) + r (51 + 7 * b + 2)) : V t (mIn r b t) := by
  have k := (h.2.2 b b0 b1).2.2.1 (by omega)
  refine h.bk m1 b0 b1 ?_ fun i n => by
    show up1 (up1 r (51 + 7 * b + 0) 1) (51 + 7 * b + 6) t i = _
    rw [up1_ne (by omega), up1_ne (by omega)]
  have e0 : mIn r b t (51 + 7 * b + 0) = 1 := by
    show up1 (up1 r (51 + 7 * b + 0) 1) (51 + 7 * b + 6) t (51 + 7 * b + 0) = _
    rw [up1_ne (by omega), up1_same]
  have e6 : mIn r b t (51 + 7 * b + 6) = t := up1_same
  have e : ∀ w, w = 1 ∨ w = 2 ∨ w = 4 → mIn r b t (51 + 7 * b + w) = r (51 + 7 * b + w) := fun w hw => by
    show up1 (up1 r (51 + 7 * b + 0) 1) (51 + 7 * b + 6) t (51 + 7 * b + w) = _
    rw [up1_ne (by omega), up1_ne (by omega)]
  unfold BK
  rw [e0, e6, e 1 (by decide), e 2 (by decide), e 4 (by decide)]
  exact ⟨fun e => absurd e (by decide), fun _ => ⟨s2, s3, t0⟩, fun n => absurd (Or.inl rfl) n, fun _ => by omega⟩
theorem MS.m1 {K : Int} {r g : Int → Int} (a : MS K r g) : g 1 = r 1 := a.2 1 (Or.inr (Or.inl rfl))
theorem MS.en {K : Int} {r g : Int → Int} (a : MS K r g) {b w : Int} (b0 : 0 ≤ b) (b1 : b < 80) (hw : 1 ≤ w ∧ w ≤ 3) : g (51 + 7 * b + w) = r (51 + 7 * b + w) := a.2 _ (by unfold kept; omega)
theorem V_leaI {K t : Int} {r : Int → Int} (R : MR K r) (h : V t r) : V t (foldI (sLm t) r (r 1)) := by
  have rc := R.came
  refine (foldI_iv (f := sLm t) (x := r) rc.1 (fun _ g => MS K r g ∧ V t g) ⟨MS.of R, h⟩ fun k g a b hg => ⟨hg.1.tr (MS_sLm hg.1.1 a (by omega)), ?_⟩).2
  have q := hg.1.m1
  unfold sLm; split
  · rename_i c; exact V_mLv hg.2 (by omega) a (by omega) c.1 c.2.1
  · exact hg.2
/-- nobody is booked whose end has come -/
def NLate (t : Int) (r : Int → Int) : Prop := ∀ b, 0 ≤ b → b < r 1 → r (51 + 7 * b + 0) = 0 → t < r (51 + 7 * b + 1) + r (51 + 7 * b + 2)
theorem mAw_ne {r : Int → Int} {b i : Int} (n : i ≠ 51 + 7 * b + 0 ∧ i ≠ 14 ∧ i ≠ 13) : mAw r b i = r i := by
  show up1 (up1 (up1 r (51 + 7 * b + 0) 4) 14 _) 13 _ i = _
  rw [up1_ne n.2.2, up1_ne n.2.1, up1_ne n.1]
theorem mAw_st {r : Int → Int} {b : Int} (b0 : 0 ≤ b) : mAw r b (51 + 7 * b + 0) = 4 := by
  show up1 (up1 (up1 r (51 + 7 * b + 0) 4) 14 _) 13 _ (51 + 7 * b + 0) = _
  rw [up1_ne (by omega), up1_ne (by omega), up1_same]
theorem V_latI {K t : Int} {r : Int → Int} (R : MR K r) (h : V t r) : V t (foldI (sTm t) r (r 1)) ∧ NLate t (foldI (sTm t) r (r 1)) := by
  have rc := R.came
  have z := foldI_iv (f := sTm t) (x := r) rc.1 (fun k g => MS K r g ∧ V t g ∧ ∀ b, 0 ≤ b → b < k → g (51 + 7 * b + 0) = 0 → t < g (51 + 7 * b + 1) + g (51 + 7 * b + 2)) ⟨MS.of R, h, fun b b0 b1 => by omega⟩ fun k g a b hg => by
    have q := hg.1.m1
    refine ⟨hg.1.tr (MS_sTm hg.1.1 a (by omega)), ?_⟩
    unfold sTm; split
    · rename_i c
      refine ⟨V_mAw hg.2.1 (by omega) a (by omega) c.1, fun x x0 x1 xs => ?_⟩
      by_cases e : x = k
      · subst e; rw [mAw_st a] at xs; exact absurd xs (by decide)
      · rw [mAw_ne (by omega)] at xs
        rw [mAw_ne (by omega), mAw_ne (by omega)]; exact hg.2.2 x x0 (by omega) xs
    · rename_i c
      refine ⟨hg.2.1, fun x x0 x1 xs => ?_⟩
      by_cases e : x = k
      · subst e; omega
      · exact hg.2.2 x x0 (by omega) xs
  refine ⟨z.2.1, fun b b0 b1 => ?_⟩
  rw [z.1.m1] at b1
  exact z.2.2 b b0 b1
theorem mIn_ne {r : Int → Int} {b d i : Int} (n : i ≠ 51 + 7 * b + 0 ∧ i ≠ 51 + 7 * b + 6) : mIn r b d i = r i := by
  show up1 (up1 r (51 + 7 * b + 0) 1) (51 + 7 * b + 6) d i = _
  rw [up1_ne n.2, up1_ne n.1]
theorem V_comI {K t : Int} {r : Int → Int} (R : MR K r) (t0 : 0 ≤ t) (t1 : t ≤ 1060) (h : V t r) (l : NLate t r) : V t (foldI (sCmm t) r (r 1)) := by
  have rc := R.came
  refine (foldI_iv (f := sCmm t) (x := r) rc.1 (fun k g => MS K r g ∧ V t g ∧ NLate t g) ⟨MS.of R, h, l⟩ fun k g a b hg => ?_).2.1
  have q := hg.1.m1
  refine ⟨hg.1.tr (MS_sCmm hg.1.1 a (by omega) t0 t1), ?_⟩
  unfold sCmm; split
  · rename_i c
    have l0 := hg.2.2 k a (by omega) c.1
    unfold mCm; split
    · refine ⟨V_mAw hg.2.1 (by omega) a (by omega) c.1, fun x x0 x1 xs => ?_⟩
      rw [mAw_ne (by omega)] at x1
      by_cases e : x = k
      · subst e; rw [mAw_st a] at xs; exact absurd xs (by decide)
      · rw [mAw_ne (by omega)] at xs
        rw [mAw_ne (by omega), mAw_ne (by omega)]; exact hg.2.2 x x0 x1 xs
    · refine ⟨V_mIn hg.2.1 (by omega) a (by omega) t0 c.1 c.2 l0, fun x x0 x1 xs => ?_⟩
      rw [mIn_ne (by omega)] at x1
      by_cases e : x = k
      · subst e
        have : mIn g x t (51 + 7 * x + 0) = 1 := by
          show up1 (up1 g (51 + 7 * x + 0) 1) (51 + 7 * x + 6) t (51 + 7 * x + 0) = _
          rw [up1_ne (by omega), up1_same]
        rw [this] at xs; exact absurd xs (by decide)
      · rw [mIn_ne (by omega)] at xs
        rw [mIn_ne (by omega), mIn_ne (by omega)]; exact hg.2.2 x x0 x1 xs
  · exact hg.2
theorem mDrop_ne {r : Int → Int} {x i : Int} (x0 : 0 ≤ x) (n : i ≠ 3 ∧ (i < 27 ∨ 51 ≤ i)) (h : 1 ≤ r 3 ∧ r 3 ≤ 12) : mDrop r x i = r i := by
  show up1 (up1 (mSh (up1 r 3 (r 3 - 1)) x (r 3 - 1)) (27 + (r 3 - 1)) 0) (39 + (r 3 - 1)) 0 i = _
  rw [up1_ne (by omega), up1_ne (by omega)]
  unfold mSh
  rw [if_neg (by omega), up1_ne n.1]
theorem V_mDrop {K t : Int} {r : Int → Int} (R : MR K r) (h : V t r) {x : Int} (x0 : 0 ≤ x) (w : 1 ≤ r 3) : V t (mDrop r x) :=
  h.idle R.came.2 fun i _ _ n => mDrop_ne x0 (by unfold idl at n; omega) ⟨w, R.wait.2⟩
theorem V_mB2 {K t : Int} {r : Int → Int} (R : MR K r) (h : V t r) {l d : Int} (l0 : 0 < l) (d0 : 0 ≤ d) (d1 : d < 1064) : V t (mB2 r l d) := by
  have g1 : ∀ i, i ≠ 39 → i ≠ 7 → mB2 r l d i = mPut r l d i := fun i a b => by
    show up1 (up1 (mPut r l d) 39 _) 7 _ i = _
    rw [up1_ne b, up1_ne a]
  have g7 : mB2 r l d 7 = mPut r l d 7 + mTak r l := up1_same
  have p7 : mPut r l d 7 = r 7 := by
    show (if r 27 = 0 then _ else _ : Int → Int) 7 = r 7
    split <;> exact up1_ne (by omega)
  have gf : mFrP (mB2 r l d) = mFrP (mPut r l d) := sumI_cg fun k k0 k1 => g1 _ (by omega) (by omega)
  have pf : mFrP (mPut r l d) + mPut r l d 2 = mFrP r + r 2 + mTak r l := by
    show mFrP (if r 27 = 0 then _ else _ : Int → Int) + (if r 27 = 0 then _ else _ : Int → Int) 2 = _
    split
    · rw [mFrP_up d0 d1, up1_ne (by omega)]; omega
    · rw [mFrP_ne (by decide), up1_same]; omega
  have p : ∀ i, i ≠ 2 → i < 1675 → mPut r l d i = r i := fun i a b => by
    show (if r 27 = 0 then _ else _ : Int → Int) i = r i
    split
    · exact up1_ne (by omega)
    · exact up1_ne a
  have m1 := R.came.2
  refine ⟨?_, ?_, fun b b0 b1 => ?_⟩
  · have := h.1
    unfold BL at this ⊢
    rw [g7, p7, gf, g1 8 (by decide) (by decide), g1 9 (by decide) (by decide), g1 2 (by decide) (by decide), p 8 (by decide) (by decide), p 9 (by decide) (by decide)]
    omega
  · unfold TL; rw [g1 11 (by decide) (by decide), g1 12 (by decide) (by decide), p 11 (by decide) (by decide), p 12 (by decide) (by decide)]; exact h.2.1
  · rw [g1 1 (by decide) (by decide), p 1 (by decide) (by decide)] at b1
    exact (h.2.2 b b0 b1).cg fun w w0 w1 => by rw [g1 _ (by omega) (by omega), p _ (by omega) (by omega)]
theorem V_mB1 {K t : Int} {r : Int → Int} (R : MR K r) (h : V t r) {l d : Int} (l0 : 0 < l) (w0 : 0 < r 3) (d0 : 0 ≤ d) (d1 : d < 1064) : V t (mB1 r l d) := by
  have a := MS_mB2 R (d := d) l0 d0 d1
  have b := V_mB2 R h (d := d) l0 d0 d1
  unfold mB1; split
  · exact V_mDrop a.1.1 b (by decide) (by rw [a.2]; omega)
  · exact b
theorem V_mBr {t d : Int} (d0 : 0 ≤ d) (d1 : d < 1064) : ∀ (n : Nat) (K : Int) (r : Int → Int) (l : Int), MR K r → V t r → V t (mBr n r l d)
  | 0, K, r, l, R, h => h
  | n + 1, K, r, l, R, h => by
    by_cases c : 0 < l ∧ 0 < r 3
    · rw [mBr_go c]
      exact V_mBr d0 d1 n (K + mTak r l) (mB1 r l d) (l - mTak r l) (MS_mB1 R c.1 c.2 d0 d1).1.1 (V_mB1 R h c.1 c.2 d0 d1)
    · rw [mBr_stop c]; exact h
theorem V_flyI {K t : Int} {r : Int → Int} (R : MR K r) (h : V t r) {s i : Int} (i0 : 0 ≤ i) (i1 : i ≤ r 1) : V t (foldI (sFm t) (r, s) i).1 := by
  have rc := R.came
  refine (foldI_iv (f := sFm t) (x := (r, s)) i0 (fun _ q => MS K r q.1 ∧ V t q.1) ⟨MS.of R, h⟩ fun k q a b hg => ⟨hg.1.tr (MS_sFm hg.1.1 a (by omega)), ?_⟩).2
  have m := hg.1.m1
  unfold sFm; split
  · rename_i c
    have g1 := hg.2.up (by omega) (i := 6) (v := q.1 6 + q.1 (51 + 7 * k + 3)) (by unfold idl; omega)
    have e : ∀ w, 0 ≤ w → w < 7 → up1 q.1 6 (q.1 6 + q.1 (51 + 7 * k + 3)) (51 + 7 * k + w) = q.1 (51 + 7 * k + w) := fun w w0 w1 => up1_ne (by omega)
    exact V_mLv g1 (by rw [up1_ne (by decide)]; omega) a (by rw [up1_ne (by decide)]; omega) (by rw [e 0 (by decide) (by decide)]; exact c.1) (by rw [e 1 (by decide) (by decide), e 2 (by decide) (by decide)]; exact c.2.1)
  · exact hg.2
theorem V_mFly {K t : Int} {r : Int → Int} (R : MR K r) (h : V t r) (d0 : 0 ≤ t) (d1 : t < 1064) : V t (mFly r t) := by
  have hs := R.sets
  have a := MS_mBr d0 d1 12 K r (r 24) R hs.2.2.2.2.2.1.1
  have av := V_mBr d0 d1 12 K r (r 24) R h
  have e1 := a.m1
  have b := V_flyI a.1 av (s := mBr 12 r (r 24) t 25) (i := r 1) R.came.1 (by omega)
  have c := MS_flyI a.1 (d := t) (s := mBr 12 r (r 24) t 25) (i := r 1) R.came.1 R.came.2
  have e2 := c.m1
  have rc := R.came
  have e3 : mFl1 r t 1 = mBr 12 r (r 24) t 1 := e2
  refine V.idle (r := mFl1 r t) b (by omega) fun i _ _ n => ?_
  show up1 (up1 (up1 (up1 (mFl1 r t) 14 _) 16 _) 4 _) 5 _ i = _
  unfold idl at n
  rw [up1_ne (by omega), up1_ne (by omega), up1_ne (by omega), up1_ne (by omega)]
