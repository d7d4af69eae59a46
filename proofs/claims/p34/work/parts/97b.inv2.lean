/-! WHAT HOLDS OF EACH ROW: eating, spoiling, sleeping, a whole day; the acts -/
theorem V_mE1 {t : Int} {r : Int → Int} (m1 : r 1 ≤ 80) (h : V t r) {d l : Int} (d0 : 0 ≤ d) (d1 : d < 1064) : V t (mE1 r d l) := by
  have g1 : ∀ i, i ≠ 8 → i ≠ 1675 + d → mE1 r d l i = r i := fun i a b => by
    show up1 (up1 r (1675 + d) _) 8 _ i = _
    rw [up1_ne a, up1_ne b]
  have g8 : mE1 r d l 8 = r 8 + mEp r d l := up1_same
  have gf : mFrP (mE1 r d l) = mFrP r - mEp r d l := by
    show mFrP (up1 (up1 r (1675 + d) (r (1675 + d) - mEp r d l)) 8 _) = _
    rw [mFrP_ne (by decide), mFrP_up d0 d1]; omega
  refine ⟨?_, ?_, fun b b0 b1 => ?_⟩
  · have := h.1
    unfold BL at this ⊢
    rw [gf, g8, g1 7 (by decide) (by omega), g1 9 (by decide) (by omega), g1 2 (by decide) (by omega)]; omega
  · unfold TL; rw [g1 11 (by decide) (by omega), g1 12 (by decide) (by omega)]; exact h.2.1
  · rw [g1 1 (by decide) (by omega)] at b1
    exact (h.2.2 b b0 b1).cg fun w w0 w1 => g1 _ (by omega) (by omega)
theorem V_mEt {t : Int} : ∀ (n : Nat) (K d : Int) (r : Int → Int) (l : Int), MR K r → 0 ≤ d → d + n ≤ 1064 → 0 ≤ l → V t r → V t (mEt n d r l).1
  | 0, K, d, r, l, R, _, _, l0, h => h
  | n + 1, K, d, r, l, R, d0, d1, l0, h => by
    by_cases c : 0 < l
    · rw [mEt_go c]
      have hp := mEp_r (R.fre (d := d) d0 (by omega)).1 c
      exact V_mEt n K (d + 1) (mE1 r d l) (l - mEp r d l) (MS_mE1 R d0 (by omega) c).1 (by omega) (by omega) (by omega) (V_mE1 R.came.2 h d0 (by omega))
    · rw [mEt_stop (Or.inl c)]; exact h
theorem V_mE2 {t : Int} {r : Int → Int} (m1 : r 1 ≤ 80) (h : V t r) {l : Int} : V t (mE2 r l) := by
  have g1 : ∀ i, i ≠ 2 → i ≠ 8 → i ≠ 10 → mE2 r l i = r i := fun i a b c => by
    show up1 (up1 (up1 r 2 _) 8 _) 10 _ i = _
    rw [up1_ne c, up1_ne b, up1_ne a]
  have g8 : mE2 r l 8 = r 8 + mEd r l := by
    show up1 (up1 (up1 r 2 _) 8 (r 8 + mEd r l)) 10 _ 8 = _
    rw [up1_ne (by decide), up1_same]
  have g2 : mE2 r l 2 = r 2 - mEd r l := by
    show up1 (up1 (up1 r 2 (r 2 - mEd r l)) 8 _) 10 _ 2 = _
    rw [up1_ne (by decide), up1_ne (by decide), up1_same]
  have gf : mFrP (mE2 r l) = mFrP r := sumI_cg fun k k0 k1 => g1 _ (by omega) (by omega) (by omega)
  refine ⟨?_, ?_, fun b b0 b1 => ?_⟩
  · have := h.1
    unfold BL at this ⊢
    rw [gf, g8, g2, g1 7 (by decide) (by decide) (by decide), g1 9 (by decide) (by decide) (by decide)]; omega
  · unfold TL; rw [g1 11 (by decide) (by decide) (by decide), g1 12 (by decide) (by decide) (by decide)]; exact h.2.1
  · rw [g1 1 (by decide) (by decide) (by decide)] at b1
    exact (h.2.2 b b0 b1).cg fun w w0 w1 => g1 _ (by omega) (by omega) (by omega)
theorem V_mEat {K t : Int} {r : Int → Int} (R : MR K r) (h : V t r) : V t (mEat r) := by
  have hp := nPer_r R
  have a := MS_mEt 1064 K 0 r (nPer r) R (by decide) (by decide) hp.1
  exact V_mE2 a.1.1.came.2 (V_mEt 1064 K 0 r (nPer r) R (by decide) (by decide) hp.1 h)
theorem V_sSp {t k : Int} {r : Int → Int} (h : V t r) (m1 : r 1 ≤ 80) (k0 : 0 ≤ k) (k1 : k < 1064) : V t (sSp k r) := by
  have g1 : ∀ i, i ≠ 9 → i ≠ 1675 + k → sSp k r i = r i := fun i a b => by
    show up1 (up1 r 9 _) (1675 + k) 0 i = _
    rw [up1_ne b, up1_ne a]
  have g9 : sSp k r 9 = r 9 + r (1675 + k) := by
    show up1 (up1 r 9 (r 9 + r (1675 + k))) (1675 + k) 0 9 = _
    rw [up1_ne (by omega), up1_same]
  have gf : mFrP (sSp k r) = mFrP r - r (1675 + k) := by
    show mFrP (up1 (up1 r 9 _) (1675 + k) 0) = _
    rw [mFrP_up k0 k1, mFrP_ne (by decide), up1_ne (by omega)]; omega
  refine ⟨?_, ?_, fun b b0 b1 => ?_⟩
  · have := h.1
    unfold BL at this ⊢
    rw [gf, g9, g1 7 (by decide) (by omega), g1 8 (by decide) (by omega), g1 2 (by decide) (by omega)]; omega
  · unfold TL; rw [g1 11 (by decide) (by omega), g1 12 (by decide) (by omega)]; exact h.2.1
  · rw [g1 1 (by decide) (by omega)] at b1
    exact (h.2.2 b b0 b1).cg fun w w0 w1 => g1 _ (by omega) (by omega)
theorem V_spoI {K t : Int} {r : Int → Int} (R : MR K r) (h : V t r) {i : Int} (i0 : 0 ≤ i) (i1 : i ≤ 1064) : V t (foldI sSp r i) :=
  (foldI_iv (f := sSp) (x := r) i0 (fun k g => MS K r g ∧ V t g) ⟨MS.of R, h⟩ fun k g a b hg => by
    have hf := hg.1.1.fre a (show k < 1064 by omega)
    refine ⟨hg.1.tr (((MS.of hg.1.1).up (nk (by decide)) fun R => R.free (by decide) (by decide)).up (nk (by omega)) fun R => R.uFre a ⟨by decide, by omega⟩), ?_⟩
    exact V_sSp hg.2 hg.1.1.came.2 a (by omega)).2
theorem V_mSpo {K t : Int} {r : Int → Int} (R : MR K r) (h : V t r) : V t (mSpo r) := by
  have hs := R.sets
  have hd := R.day
  by_cases c : 0 ≤ r 0 - r 22 + 1
  · exact V_spoI R h c (by omega)
  · rw [← mSpo_i (i := 0) (by omega)]; exact h
theorem V_mSle {K t : Int} {r : Int → Int} (R : MR K r) (h : V t r) : V (t + 1) (mSle r t) := by
  have rc := R.came
  have z := foldI_iv (f := sSm t) (x := r) rc.1 (fun k g => MS K r g ∧ BL g ∧ (0 ≤ g 11 ∧ g 11 ≤ g 12 ∧ g 12 ≤ 720 * t + 9 * k) ∧ (∀ b, 0 ≤ b → b < k → BK (t + 1) g b) ∧ ∀ b, k ≤ b → b < r 1 → BK t g b) ⟨MS.of R, h.1, by have := h.2.1; unfold TL at this; omega, fun b b0 b1 => by omega, fun b b0 b1 => h.2.2 b b0 b1⟩ fun k g a b hg => by
    obtain ⟨m, hB, hT, h1, h2⟩ := hg
    have hp := m.1.per a (show k < 80 by omega)
    refine ⟨m.tr (MS_sSm m.1 a (by omega)), ?_⟩
    by_cases c : g (51 + 7 * k + 0) = 1
    · have eS : sSm t k g = up1 (up1 (up1 g (51 + 7 * k + 4) (g (51 + 7 * k + 4) + 1)) 12 (g 12 + g (51 + 7 * k + 3))) 11 (g 11 + if g (51 + 7 * k + 1) + g (51 + 7 * k + 2) ≤ t then g (51 + 7 * k + 3) else 0) := if_pos c
      have g1 : ∀ i, i ≠ 51 + 7 * k + 4 → i ≠ 12 → i ≠ 11 → sSm t k g i = g i := fun i x y z => by rw [eS, up1_ne z, up1_ne y, up1_ne x]
      have g11 : sSm t k g 11 = g 11 + if g (51 + 7 * k + 1) + g (51 + 7 * k + 2) ≤ t then g (51 + 7 * k + 3) else 0 := by rw [eS, up1_same]
      have g12 : sSm t k g 12 = g 12 + g (51 + 7 * k + 3) := by rw [eS, up1_ne (by decide), up1_same]
      have g4 : sSm t k g (51 + 7 * k + 4) = g (51 + 7 * k + 4) + 1 := by rw [eS, up1_ne (by omega), up1_ne (by omega), up1_same]
      have gf : mFrP (sSm t k g) = mFrP g := sumI_cg fun q q0 q1 => g1 _ (by omega) (by omega) (by omega)
      refine ⟨?_, ?_, fun x x0 x1 => ?_, fun x x0 x1 => (h2 x (by omega) x1).cg fun w w0 w1 => g1 _ (by omega) (by omega) (by omega)⟩
      · unfold BL at hB ⊢
        rw [gf, g1 7 (by omega) (by decide) (by decide), g1 8 (by omega) (by decide) (by decide), g1 9 (by omega) (by decide) (by decide), g1 2 (by omega) (by decide) (by decide)]; exact hB
      · rw [g11, g12]; split <;> omega
      · by_cases e : x = k
        · subst e
          have q := h2 x (Int.le_refl _) (by omega)
          unfold BK at q ⊢
          rw [g4, g1 (51 + 7 * x + 0) (by omega) (by omega) (by omega), g1 (51 + 7 * x + 1) (by omega) (by omega) (by omega), g1 (51 + 7 * x + 2) (by omega) (by omega) (by omega), g1 (51 + 7 * x + 6) (by omega) (by omega) (by omega)]
          exact ⟨fun z => by omega, q.2.1, fun z => absurd (Or.inl c) z, fun _ => by have := q.2.2.2 c; omega⟩
        · exact (h1 x x0 (by omega)).cg fun w w0 w1 => g1 _ (by omega) (by omega) (by omega)
    · have eS : sSm t k g = g := if_neg c
      rw [eS]
      refine ⟨hB, by omega, fun x x0 x1 => ?_, fun x x0 x1 => h2 x (by omega) x1⟩
      by_cases e : x = k
      · subst e; exact (h2 x (Int.le_refl _) (by omega)).next c
      · exact h1 x x0 (by omega)
  have zt : 0 ≤ mSle r t 11 ∧ mSle r t 11 ≤ mSle r t 12 ∧ mSle r t 12 ≤ 720 * t + 9 * r 1 := z.2.2.1
  refine ⟨z.2.1, by unfold TL; omega, fun b b0 b1 => z.2.2.2.1 b b0 ?_⟩
  have e1 : mSle r t 1 = r 1 := z.1.m1
  omega
theorem V_mPas {K : Int} {r : Int → Int} (R : MR K r) (hd : r 0 ≤ 1059) (h : V (r 0) r) : V (r 0 + 1) (mPas r) := by
  have d := R.day
  -- the day begins
  have a0 := MS_mSpo R
  have b0 := V_mSpo R h
  have a1 := MS_leaI a0.1 (d := r 0) a0.1.came.1 a0.1.came.2
  have b1 := V_leaI a0.1 b0
  have b2 := V_latI a1.1 b1
  have a2 := MS_latI a1.1 (d := r 0) a1.1.came.1 a1.1.came.2
  have a := MS_mBeg1 R
  have b : V (r 0) (mBeg1 r) ∧ NLate (r 0) (mBeg1 r) := b2
  have am := MS_mBeg R hd
  have bm : V (r 0) (mBeg r) := by
    unfold mBeg; split
    · have cc := MS_comI a.1 (d := r 0) d.1 (by omega) a.1.came.1 a.1.came.2
      have cv := V_comI a.1 d.1 (by omega) b.1 b.2
      exact V_mBr d.1 (by omega) 12 K _ _ cc.1 cv
    · exact b.1
  have bn : V (r 0) (mMid r) := by
    unfold mMid; split
    · exact V_mFly am.1 bm d.1 (by omega)
    · exact bm
  have mm := MS_mMid R hd
  have me := MS_mEat mm.1
  have be := V_mEat mm.1 bn
  have bs := V_mSle me.1 be
  have ms := MS_mSle me.1 (d := r 0)
  exact V.up bs ms.1.came.2 (Or.inl rfl)
theorem V_pasI {K : Int} {r : Int → Int} (R : MR K r) (h : V (r 0) r) {n : Int} (n0 : 0 ≤ n) (hd : r 0 + n ≤ 1060) : V (mPasI r n 0) (mPasI r n) :=
  (foldI_iv (f := fun _ g => mPas g) (x := r) n0 (fun k g => MR (K + 149 * k) g ∧ g 0 = r 0 + k ∧ V (g 0) g) ⟨by rw [show K + 149 * 0 = K by omega]; exact R, by omega, h⟩ fun k g a b hg => by
    have z := MR_mPas hg.1 (by omega)
    refine ⟨by rw [show K + 149 * (k + 1) = K + 149 * k + 149 by omega]; exact z.1, by omega, ?_⟩
    rw [z.2.1]; exact V_mPas hg.1 (by omega) hg.2.2).2.2
/-! the acts -/
theorem V_mAdd {r : Int → Int} (h : V (r 0) r) (m0 : 0 ≤ r 1) (m1 : r 1 < 80) {a n p : Int} : V (mAdd r a n p 0) (mAdd r a n p) := by
  have g1 : ∀ i, i ≠ 1 → i ≠ 14 → ¬ (51 + 7 * r 1 ≤ i ∧ i < 51 + 7 * r 1 + 7) → mAdd r a n p i = r i := fun i x y z => by
    show up1 (up1 (up1 (up1 (up1 (up1 (up1 (up1 (up1 r 1 _) (51 + 7 * r 1 + 0) _) (51 + 7 * r 1 + 1) _) (51 + 7 * r 1 + 2) _) (51 + 7 * r 1 + 3) _) (51 + 7 * r 1 + 4) _) (51 + 7 * r 1 + 5) _) (51 + 7 * r 1 + 6) _) 14 _ i = _
    rw [up1_ne y, up1_ne (by omega), up1_ne (by omega), up1_ne (by omega), up1_ne (by omega), up1_ne (by omega), up1_ne (by omega), up1_ne (by omega), up1_ne x]
  have e1 : mAdd r a n p 1 = r 1 + 1 := by
    show up1 (up1 (up1 (up1 (up1 (up1 (up1 (up1 (up1 r 1 (r 1 + 1)) (51 + 7 * r 1 + 0) _) (51 + 7 * r 1 + 1) _) (51 + 7 * r 1 + 2) _) (51 + 7 * r 1 + 3) _) (51 + 7 * r 1 + 4) _) (51 + 7 * r 1 + 5) _) (51 + 7 * r 1 + 6) _) 14 _ 1 = _
    rw [up1_ne (by omega), up1_ne (by omega), up1_ne (by omega), up1_ne (by omega), up1_ne (by omega), up1_ne (by omega), up1_ne (by omega), up1_ne (by omega), up1_same]
  have s0 : mAdd r a n p (51 + 7 * r 1 + 0) = 0 := by
    show up1 (up1 (up1 (up1 (up1 (up1 (up1 (up1 (up1 r 1 (r 1 + 1)) (51 + 7 * r 1 + 0) 0) (51 + 7 * r 1 + 1) _) (51 + 7 * r 1 + 2) _) (51 + 7 * r 1 + 3) _) (51 + 7 * r 1 + 4) _) (51 + 7 * r 1 + 5) _) (51 + 7 * r 1 + 6) _) 14 _ (51 + 7 * r 1 + 0) = _
    rw [up1_ne (by omega), up1_ne (by omega), up1_ne (by omega), up1_ne (by omega), up1_ne (by omega), up1_ne (by omega), up1_ne (by omega), up1_same]
  have s4 : mAdd r a n p (51 + 7 * r 1 + 4) = 0 := by
    show up1 (up1 (up1 (up1 (up1 (up1 (up1 (up1 (up1 r 1 (r 1 + 1)) (51 + 7 * r 1 + 0) 0) (51 + 7 * r 1 + 1) _) (51 + 7 * r 1 + 2) _) (51 + 7 * r 1 + 3) _) (51 + 7 * r 1 + 4) 0) (51 + 7 * r 1 + 5) _) (51 + 7 * r 1 + 6) _) 14 _ (51 + 7 * r 1 + 4) = _
    rw [up1_ne (by omega), up1_ne (by omega), up1_ne (by omega), up1_same]
  have s6 : mAdd r a n p (51 + 7 * r 1 + 6) = -1000005 := by
    show up1 (up1 (up1 (up1 (up1 (up1 (up1 (up1 (up1 r 1 (r 1 + 1)) (51 + 7 * r 1 + 0) 0) (51 + 7 * r 1 + 1) _) (51 + 7 * r 1 + 2) _) (51 + 7 * r 1 + 3) _) (51 + 7 * r 1 + 4) 0) (51 + 7 * r 1 + 5) _) (51 + 7 * r 1 + 6) (-1000005)) 14 _ (51 + 7 * r 1 + 6) = _
    rw [up1_ne (by omega), up1_same]
  have gf : mFrP (mAdd r a n p) = mFrP r := sumI_cg fun k k0 k1 => g1 _ (by omega) (by omega) (by omega)
  rw [g1 0 (by decide) (by decide) (by omega)]
  refine ⟨?_, ?_, fun b b0 b1 => ?_⟩
  · have := h.1
    unfold BL at this ⊢
    rw [gf, g1 7 (by decide) (by decide) (by omega), g1 8 (by decide) (by decide) (by omega), g1 9 (by decide) (by decide) (by omega), g1 2 (by decide) (by decide) (by omega)]; exact this
  · unfold TL; rw [g1 11 (by decide) (by decide) (by omega), g1 12 (by decide) (by decide) (by omega)]; exact h.2.1
  · rw [e1] at b1
    by_cases e : b = r 1
    · subst e
      unfold BK; rw [s0, s4, s6]
      exact ⟨fun z => absurd z (by decide), fun z => by omega, fun _ => ⟨rfl, rfl⟩, fun z => absurd z (by decide)⟩
    · exact (h.2.2 b b0 (by omega)).cg fun w w0 w1 => g1 _ (by omega) (by omega) (by omega)
theorem V_mCan {r : Int → Int} (h : V (r 0) r) (m1 : r 1 ≤ 80) {b v : Int} (b0 : 0 ≤ b) (b1 : b < r 1) (s0 : r (51 + 7 * b + 0) = 0) : V (mCan r b v 0) (mCan r b v) := by
  have e0 : mCan r b v 0 = r 0 := by
    show up1 (up1 (up1 r (51 + 7 * b + 0) 3) 14 _) 15 _ 0 = _
    rw [up1_ne (by decide), up1_ne (by decide), up1_ne (by omega)]
  rw [e0]
  have k := h.2.2 b b0 b1
  have a : V (r 0) (up1 r (51 + 7 * b + 0) 3) := h.st m1 b0 b1 (BK_st ⟨fun e => absurd e (by decide), fun e => by omega, fun _ => k.2.2.1 (by omega), fun e => absurd e (by decide)⟩)
  have m2 : up1 r (51 + 7 * b + 0) 3 1 ≤ 80 := by rw [up1_ne (by omega)]; exact m1
  exact (a.up m2 id14).up (by rw [up1_ne (by decide)]; exact m2) (by unfold idl; omega)
theorem V_mExt {r : Int → Int} (h : V (r 0) r) (m1 : r 1 ≤ 80) {b n : Int} (b0 : 0 ≤ b) (b1 : b < r 1) (n0 : 0 ≤ n) (s0 : r (51 + 7 * b + 0) = 1) : V (up1 r (51 + 7 * b + 2) (r (51 + 7 * b + 2) + n) 0) (up1 r (51 + 7 * b + 2) (r (51 + 7 * b + 2) + n)) := by
  rw [up1_ne (by omega)]
  have k := h.2.2 b b0 b1
  refine h.bk m1 b0 b1 ?_ fun i z => up1_ne (by omega)
  have e : ∀ w, w = 0 ∨ w = 1 ∨ w = 4 ∨ w = 6 → up1 r (51 + 7 * b + 2) (r (51 + 7 * b + 2) + n) (51 + 7 * b + w) = r (51 + 7 * b + w) := fun w hw => up1_ne (by omega)
  unfold BK at k ⊢
  rw [e 0 (by decide), e 1 (by decide), e 4 (by decide), e 6 (by decide), up1_same, s0]
  rw [s0] at k
  exact ⟨fun z => absurd z (by decide), fun z => by have := k.2.1 z; omega, fun z => absurd (Or.inl rfl) z, k.2.2.2⟩
theorem V.at0 {r g : Int → Int} (h : V (r 0) r) (m1 : r 1 ≤ 80) (e : ∀ i, 0 ≤ i → i < 2739 → (¬ idl i ∨ i = 0) → g i = r i) : V (g 0) g := by
  rw [e 0 (by decide) (by decide) (Or.inr rfl)]
  exact h.idle m1 fun i i0 i1 n => e i i0 i1 (Or.inl n)
theorem V_mWs {r : Int → Int} (h : V (r 0) r) (m1 : r 1 ≤ 80) {x y w : Int} (x0 : 0 ≤ x) (y1 : y ≤ 1000) : V (mWs r x y w 0) (mWs r x y w) :=
  h.at0 m1 fun i i0 i1 n => if_neg (by unfold idl at n; omega)
theorem V_mOrd {r : Int → Int} (h : V (r 0) r) (m1 : r 1 ≤ 80) {k w : Int} (w0 : 0 ≤ r 3 ∧ r 3 < 12) : V (mOrd r k w 0) (mOrd r k w) :=
  h.at0 m1 fun i i0 i1 n => by
    unfold idl at n
    show up1 (up1 (up1 r (27 + r 3) k) (39 + r 3) w) 3 (r 3 + 1) i = _
    rw [up1_ne (by omega), up1_ne (by omega), up1_ne (by omega)]
theorem V_mDrp {r : Int → Int} (h : V (r 0) r) (m1 : r 1 ≤ 80) {x : Int} (x0 : 0 ≤ x) (w : 1 ≤ r 3 ∧ r 3 ≤ 12) : V (mDrop r x 0) (mDrop r x) :=
  h.at0 m1 fun i i0 i1 n => mDrop_ne x0 (by unfold idl at n; omega) w
theorem V_up0 {r : Int → Int} (h : V (r 0) r) (m1 : r 1 ≤ 80) {i v : Int} (n : idl i) (n0 : i ≠ 0) : V (up1 r i v 0) (up1 r i v) := by
  rw [up1_ne (Ne.symm n0)]; exact h.up m1 n
