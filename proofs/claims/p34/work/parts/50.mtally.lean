/-! WHAT THE REFERENCE's DAYS DO TO THREE TALLIES: flights (5), down (6), hungry (10) -/
def T3 (r g : Int → Int) : Prop := g 5 = r 5 ∧ g 6 = r 6 ∧ g 10 = r 10
theorem T3.of {r : Int → Int} : T3 r r := ⟨rfl, rfl, rfl⟩
theorem T3.tr {r g f : Int → Int} (a : T3 r g) (b : T3 g f) : T3 r f := ⟨b.1.trans a.1, b.2.1.trans a.2.1, b.2.2.trans a.2.2⟩
theorem T3.up {r g : Int → Int} (a : T3 r g) {i v : Int} (n : i ≠ 5 ∧ i ≠ 6 ∧ i ≠ 10) : T3 r (up1 g i v) :=
  ⟨(up1_ne (Ne.symm n.1)).trans a.1, (up1_ne (Ne.symm n.2.1)).trans a.2.1, (up1_ne (Ne.symm n.2.2)).trans a.2.2⟩
theorem T3_mLv {r : Int → Int} {b : Int} (b0 : 0 ≤ b) : T3 r (mLv r b) := (T3.of.up (by decide)).up (by omega)
theorem T3_mAw {r : Int → Int} {b : Int} (b0 : 0 ≤ b) : T3 r (mAw r b) := ((T3.of.up (by omega)).up (by decide)).up (by decide)
theorem T3_mCm {r : Int → Int} {b d : Int} (b0 : 0 ≤ b) : T3 r (mCm r b d) := by
  unfold mCm; split
  · exact T3_mAw b0
  · exact (T3.of.up (by omega)).up (by omega)
theorem T3_mSh {r : Int → Int} {x y : Int} (x0 : 0 ≤ x) : T3 r (mSh r x y) := ⟨if_neg (by omega), if_neg (by omega), if_neg (by omega)⟩
theorem T3_mDrop {r : Int → Int} {x : Int} (x0 : 0 ≤ x) (w0 : 0 < r 3) : T3 r (mDrop r x) :=
  (((T3.of.up (by decide)).tr (T3_mSh (r := up1 r 3 (r 3 - 1)) (y := r 3 - 1) x0)).up (by omega)).up (by omega)
theorem T3_mB1 {r : Int → Int} {l d : Int} (d0 : 0 ≤ d) (w0 : 0 < r 3) : T3 r (mB1 r l d) := by
  have a : T3 r (mPut r l d) ∧ mPut r l d 3 = r 3 := by
    show T3 r (if r 27 = 0 then _ else _) ∧ (if r 27 = 0 then _ else _ : Int → Int) 3 = r 3
    split
    · exact ⟨T3.of.up (by omega), up1_ne (by omega)⟩
    · exact ⟨T3.of.up (by decide), up1_ne (by decide)⟩
  have b : T3 r (mB2 r l d) := (a.1.up (by decide)).up (by decide)
  unfold mB1; split
  · refine b.tr (T3_mDrop (by decide) ?_)
    show 0 < up1 (up1 (mPut r l d) 39 (mPut r l d 39 - mTak r l)) 7 (mPut r l d 7 + mTak r l) 3
    rw [up1_ne (by decide), up1_ne (by decide), a.2]; exact w0
  · exact b
theorem T3_mBr {d : Int} (d0 : 0 ≤ d) : ∀ (n : Nat) (r : Int → Int) (l : Int), T3 r (mBr n r l d)
  | 0, r, l => T3.of
  | n + 1, r, l => by
    by_cases h : 0 < l ∧ 0 < r 3
    · rw [mBr_go h]; exact (T3_mB1 d0 h.2).tr (T3_mBr d0 n _ _)
    · rw [mBr_stop h]; exact T3.of
theorem T3_fold {f : Int → (Int → Int) → Int → Int} (hf : ∀ b g, 0 ≤ b → T3 g (f b g)) {r : Int → Int} {i : Int} : T3 r (foldI f r i) := by
  by_cases h : 0 ≤ i
  · exact foldI_iv h (fun _ g => T3 r g) T3.of fun k y a _ hy => hy.tr (hf k y a)
  · unfold foldI; rw [show i.toNat = 0 by omega]; exact T3.of
theorem T3_mSpo {r : Int → Int} : T3 r (mSpo r) := T3_fold fun b g b0 => (T3.of.up (by decide)).up (by omega)
theorem T3_mLea {r : Int → Int} {d : Int} : T3 r (mLea r d) := T3_fold fun b g b0 => by
  unfold sLm; split
  · exact T3_mLv b0
  · exact T3.of
theorem T3_mLat {r : Int → Int} {d : Int} : T3 r (mLat r d) := T3_fold fun b g b0 => by
  unfold sTm; split
  · exact T3_mAw b0
  · exact T3.of
theorem T3_mCom {r : Int → Int} {d : Int} : T3 r (mCom r d) := T3_fold fun b g b0 => by
  unfold sCmm; split
  · exact T3_mCm b0
  · exact T3.of
theorem T3_mSle {r : Int → Int} {d : Int} : T3 r (mSle r d) := T3_fold fun b g b0 => by
  unfold sSm; split
  · exact ((T3.of.up (by omega)).up (by decide)).up (by decide)
  · exact T3.of
theorem T3_mBeg {r : Int → Int} (d0 : 0 ≤ r 0) : T3 r (mBeg r) := by
  have a : T3 r (mBeg1 r) := (T3_mSpo.tr T3_mLea).tr T3_mLat
  unfold mBeg; split
  · exact (a.tr T3_mCom).tr (T3_mBr d0 12 _ _)
  · exact a
/-- flights and down go up a bit, hungry stays -/
def T2 (r g : Int → Int) : Prop := (g 5 = r 5 ∨ g 5 = r 5 + 1) ∧ (r 6 ≤ g 6 ∧ g 6 ≤ r 6 + 20) ∧ (r 10 ≤ g 10 ∧ g 10 ≤ r 10 + 720)
theorem down_f {r : Int → Int} {d s i : Int} (i0 : 0 ≤ i) : (foldI (sFm d) (r, s) i).1 6 + (foldI (sFm d) (r, s) i).2 = r 6 + s ∧ (foldI (sFm d) (r, s) i).1 5 = r 5 ∧ (foldI (sFm d) (r, s) i).1 10 = r 10 :=
  foldI_iv (f := sFm d) (x := (r, s)) i0 (fun _ q => q.1 6 + q.2 = r 6 + s ∧ q.1 5 = r 5 ∧ q.1 10 = r 10) ⟨rfl, rfl, rfl⟩ fun k y a b hy => by
    unfold sFm; split
    · have z := T3_mLv (r := up1 y.1 6 (y.1 6 + y.1 (51 + 7 * k + 3))) a
      refine ⟨?_, ?_, ?_⟩
      · show mLv (up1 y.1 6 (y.1 6 + y.1 (51 + 7 * k + 3))) k 6 + (y.2 - y.1 (51 + 7 * k + 3)) = r 6 + s
        rw [z.2.1, up1_same]; omega
      · exact (z.1.trans (up1_ne (by decide))).trans hy.2.1
      · exact (z.2.2.trans (up1_ne (by decide))).trans hy.2.2
    · exact hy
theorem seats_s {K : Int} {r : Int → Int} (R : MR K r) {d s i : Int} (i0 : 0 ≤ i) (i1 : i ≤ 80) : (foldI (sFm d) (r, s) i).2 ≤ s :=
  (foldI_iv (f := sFm d) (x := (r, s)) i0 (fun _ q => MR K q.1 ∧ q.2 ≤ s) ⟨R, Int.le_refl _⟩ fun k y a b hy => by
    refine ⟨(MS_sFm hy.1 a (by omega)).1, ?_⟩
    have hp := hy.1.per (b := k) a (by omega)
    have h2 := hy.2
    unfold sFm; split
    · show y.2 - y.1 (51 + 7 * k + 3) ≤ s; omega
    · exact h2).2
theorem T2_mFly {K : Int} {r : Int → Int} (R : MR K r) {d : Int} (d0 : 0 ≤ d) (d1 : d < 1064) : mFly r d 5 = r 5 + 1 ∧ (r 6 ≤ mFly r d 6 ∧ mFly r d 6 ≤ r 6 + 20) ∧ mFly r d 10 = r 10 := by
  have hs := R.sets
  have a := MS_mBr d0 d1 12 K r (r 24) R hs.2.2.2.2.2.1.1
  have t := T3_mBr d0 12 r (r 24)
  have rm := R.came
  have hz := a.1.sets
  have f := down_f (r := mBr 12 r (r 24) d) (d := d) (s := mBr 12 r (r 24) d 25) rm.1
  have q := seats_r (d := d) (s := mBr 12 r (r 24) d 25) rm.1 hz.2.2.2.2.2.2.1 hz.2.2.2.2.2.2.2 a.1 rm.2
  have q2 := seats_s a.1 (d := d) (s := mBr 12 r (r 24) d 25) rm.1 rm.2
  have t1 := t.1; have t2 := t.2.1; have t3 := t.2.2
  have e6 : mFly r d 6 = mFl1 r d 6 := by
    show up1 (up1 (up1 (up1 (mFl1 r d) 14 _) 16 _) 4 0) 5 _ 6 = _
    rw [up1_ne (by decide), up1_ne (by decide), up1_ne (by decide), up1_ne (by decide)]
  have e10 : mFly r d 10 = mFl1 r d 10 := by
    show up1 (up1 (up1 (up1 (mFl1 r d) 14 _) 16 _) 4 0) 5 _ 10 = _
    rw [up1_ne (by decide), up1_ne (by decide), up1_ne (by decide), up1_ne (by decide)]
  have e5 : mFly r d 5 = mFl1 r d 5 + 1 := up1_same
  have f1 : mFl1 r d 6 + _ = _ := f.1
  have f2 : mFl1 r d 5 = _ := f.2.1
  have f3 : mFl1 r d 10 = _ := f.2.2
  rw [e5, e6, e10]
  refine ⟨by omega, ⟨by omega, by omega⟩, by omega⟩
theorem T3_mEt : ∀ (n : Nat) (d : Int) (r : Int → Int) (l : Int), 0 ≤ d → T3 r (mEt n d r l).1
  | 0, _, _, _, _ => T3.of
  | n + 1, d, r, l, d0 => by
    by_cases h : 0 < l
    · rw [mEt_go h]; exact ((T3.of.up (by omega)).up (by decide)).tr (T3_mEt n (d + 1) (mE1 r d l) (l - mEp r d l) (by omega))
    · rw [mEt_stop (Or.inl h)]; exact T3.of
theorem T2_mEat {K : Int} {r : Int → Int} (R : MR K r) : mEat r 5 = r 5 ∧ mEat r 6 = r 6 ∧ r 10 ≤ mEat r 10 ∧ mEat r 10 ≤ r 10 + 720 := by
  have hp := nPer_r R
  have a := MS_mEt 1064 K 0 r (nPer r) R (by decide) (by decide) hp.1
  have t := T3_mEt 1064 0 r (nPer r) (by decide)
  have hd := a.1.1.dry
  have he := mEd_r hd.1 a.2.1
  have e5 : mEat r 5 = (mEt 1064 0 r (nPer r)).1 5 := by
    show up1 (up1 (up1 _ 2 _) 8 _) 10 _ 5 = _
    rw [up1_ne (by decide), up1_ne (by decide), up1_ne (by decide)]
  have e6 : mEat r 6 = (mEt 1064 0 r (nPer r)).1 6 := by
    show up1 (up1 (up1 _ 2 _) 8 _) 10 _ 6 = _
    rw [up1_ne (by decide), up1_ne (by decide), up1_ne (by decide)]
  have e10 : mEat r 10 = (mEt 1064 0 r (nPer r)).1 10 + ((mEt 1064 0 r (nPer r)).2 - mEd (mEt 1064 0 r (nPer r)).1 (mEt 1064 0 r (nPer r)).2) := up1_same
  have t1 := t.1; have t2 := t.2.1; have t3 := t.2.2
  rw [e5, e6, e10]
  refine ⟨t1, t2, by omega, by omega⟩
theorem T2_mPas {K : Int} {r : Int → Int} (R : MR K r) (hd : r 0 ≤ 1059) : T2 r (mPas r) := by
  have d := R.day
  have tb := T3_mBeg d.1
  have mb := MS_mBeg R hd
  have hm : (mMid r 5 = r 5 ∨ mMid r 5 = r 5 + 1) ∧ (r 6 ≤ mMid r 6 ∧ mMid r 6 ≤ r 6 + 20) ∧ mMid r 10 = r 10 := by
    have t1 := tb.1; have t2 := tb.2.1; have t3 := tb.2.2
    unfold mMid; split
    · have f := T2_mFly mb.1 (d := r 0) d.1 (by omega)
      refine ⟨by omega, ⟨by omega, by omega⟩, by omega⟩
    · refine ⟨by omega, ⟨by omega, by omega⟩, by omega⟩
  have mm := MS_mMid R hd
  have te := T2_mEat mm.1
  have ts := T3_mSle (r := mEat (mMid r)) (d := r 0)
  have s1 := ts.1; have s2 := ts.2.1; have s3 := ts.2.2
  have e5 : mPas r 5 = mSle (mEat (mMid r)) (r 0) 5 := up1_ne (by decide)
  have e6 : mPas r 6 = mSle (mEat (mMid r)) (r 0) 6 := up1_ne (by decide)
  have e10 : mPas r 10 = mSle (mEat (mMid r)) (r 0) 10 := up1_ne (by decide)
  unfold T2; rw [e5, e6, e10]
  refine ⟨by omega, ⟨by omega, by omega⟩, ⟨by omega, by omega⟩⟩
/-! looking ahead -/
abbrev mLd (md : HV) (r : Int → Int) : HV := mLay md r
abbrev mBk0 (md : HV) (r g : Int → Int) : HV := upr (mLay md r) 1 (cpI (mLay md r 3) g 2739)
def mSr (p : (Int → Int) → Bool) : Nat → Int → (Int → Int) → Int × (Int → Int)
  | 0, d, g => (d, g)
  | n + 1, d, g => if p g then mSr p n (d + 1) (mPas g) else (d, g)
abbrev mHu (r : Int → Int) : Int × (Int → Int) := mSr (fun g => decide (g 10 = r 10)) 60 0 r
def yHungry (md : HV) (r : Int → Int) : OPM := (if r 10 < (mHu r).2 10 then (mHu r).1 else -1000005, mBk0 md r (mHu r).2)
def yGrows (md : HV) (r : Int → Int) (c n : Int) : OPM := if ¬ (1 ≤ n ∧ n ≤ 60) then mNo md r (-1000002) else (mPasI r n c - r c, mBk0 md r (mPasI r n))
abbrev mGn (r : Int → Int) (b : Int) : Int × (Int → Int) := mSr (fun g => decide (g (51 + 7 * b + 0) ≤ 1)) 60 0 r
def yGone (md : HV) (r : Int → Int) (b : Int) : OPM := if ¬ (0 ≤ b ∧ b ≤ r 1 - 1) then mNo md r (-1000001) else if 1 < r (51 + 7 * b + 0) then mNo md r (-1000004) else
  (if (mGn r b).2 (51 + 7 * b + 0) = 2 then (mGn r b).1 else -1000005, mBk0 md r (mGn r b).2)
def mTd (f n : Int) : Nat → Int → (Int → Int) → (Int → Int)
  | 0, _, g => g
  | k + 1, d, g => if g 5 = f then mTd f n k (d + 1) (mPas (up1 g 4 (if n ≤ d then 1 else 0))) else g
abbrev mTake (r : Int → Int) (n : Int) : Int := mTd (r 5) n 60 0 r 6 - r 6
theorem mSr_go {p : (Int → Int) → Bool} {n : Nat} {d : Int} {g : Int → Int} (h : p g = true) : mSr p (n + 1) d g = mSr p n (d + 1) (mPas g) := if_pos h
theorem mSr_stop {p : (Int → Int) → Bool} {n : Nat} {d : Int} {g : Int → Int} (h : n = 0 ∨ ¬ p g = true) : mSr p n d g = (d, g) := by
  cases n with
  | zero => rfl
  | succ n => exact if_neg (by rcases h with h | h; exact absurd h (by omega); exact h)
theorem mTd_go {f n : Int} {k : Nat} {d : Int} {g : Int → Int} (h : g 5 = f) : mTd f n (k + 1) d g = mTd f n k (d + 1) (mPas (up1 g 4 (if n ≤ d then 1 else 0))) := if_pos h
theorem mTd_stop {f n : Int} {k : Nat} {d : Int} {g : Int → Int} (h : k = 0 ∨ ¬ g 5 = f) : mTd f n k d g = g := by
  cases k with
  | zero => rfl
  | succ k => exact if_neg (by rcases h with h | h; exact absurd h (by omega); exact h)
theorem T2_mTd {K : Int} {r : Int → Int} (R : MR K r) (hd : r 0 ≤ 1059) {n d : Int} : MR (K + 149) (mPas (up1 r 4 (if n ≤ d then 1 else 0))) ∧ mPas (up1 r 4 (if n ≤ d then 1 else 0)) 0 = r 0 + 1 ∧ T2 r (mPas (up1 r 4 (if n ≤ d then 1 else 0))) := by
  have R1 : MR K (up1 r 4 (if n ≤ d then 1 else 0)) := R.uCal (by split <;> omega)
  have e0 : up1 r 4 (if n ≤ d then 1 else 0) 0 = r 0 := up1_ne (by decide)
  have e5 : up1 r 4 (if n ≤ d then 1 else 0) 5 = r 5 := up1_ne (by decide)
  have e6 : up1 r 4 (if n ≤ d then 1 else 0) 6 = r 6 := up1_ne (by decide)
  have e10 : up1 r 4 (if n ≤ d then 1 else 0) 10 = r 10 := up1_ne (by decide)
  have a := MR_mPas R1 (by omega)
  have t := T2_mPas R1 (by omega)
  refine ⟨a.1, a.2.1.trans (by rw [e0]), ?_⟩
  have t := t
  unfold T2 at t ⊢
  rw [e5, e6, e10] at t; exact t
theorem mTd_r {f n : Int} : ∀ (k : Nat) (K d : Int) (g : Int → Int), MR K g → g 0 + k ≤ 1060 → g 6 ≤ mTd f n k d g 6 ∧ mTd f n k d g 6 ≤ g 6 + 20 * k
  | 0, K, d, g, _, _ => by show g 6 ≤ g 6 ∧ g 6 ≤ g 6 + 20 * ((0 : Nat) : Int); omega
  | k + 1, K, d, g, R, hd => by
    by_cases h : g 5 = f
    · rw [mTd_go h]
      have a := T2_mTd R (n := n) (d := d) (by omega)
      have b := mTd_r (f := f) (n := n) k (K + 149) (d + 1) _ a.1 (by rw [a.2.1]; omega)
      have t := a.2.2.2.1
      omega
    · rw [mTd_stop (Or.inr h)]; omega
theorem mTake_r {K : Int} {r : Int → Int} (R : MR K r) (hd : r 0 ≤ 999) {n : Int} : 0 ≤ mTake r n ∧ mTake r n ≤ 1200 := by
  have a := mTd_r (f := r 5) (n := n) 60 K 0 r R (by omega)
  show 0 ≤ mTd (r 5) n 60 0 r 6 - r 6 ∧ mTd (r 5) n 60 0 r 6 - r 6 ≤ 1200
  omega
abbrev mTb (md : HV) (r : Int → Int) (n : Int) : Int → Int := cpI (mLay md r 3) (mTd (r 5) n 60 0 r) 2739
def mBc : Nat → Int → HV → (Int → Int) → Int → Int → Int × HV × (Int → Int)
  | 0, _, md, g, b, _ => (b, md, g)
  | k + 1, d, md, g, b, m => if m < mTake g d then mBc k (d + 1) (mLay md g) (mTb md g d) d (mTake g d) else mBc k (d + 1) (mLay md g) (mTb md g d) b m
theorem mTb_i {md : HV} {r : Int → Int} {n i : Int} (h0 : 0 ≤ i) (h1 : i < 2739) : mTb md r n i = r i := by
  show cpI (mLay md r 3) _ 2739 i = r i
  have e : mLay md r 3 = cpI r (md 3) 2739 := upr_same
  rw [e]; unfold cpI; rw [if_pos ⟨h0, h1⟩, if_pos ⟨h0, h1⟩]
theorem MR_mTb {K : Int} {md : HV} {r : Int → Int} (R : MR K r) {n : Int} : MR K (mTb md r n) := fun i h0 h1 => by
  rw [mTb_i h0 h1]; exact R i h0 h1
def yBest (md : HV) (r : Int → Int) : OPM := if r 4 = 1 then mNo md r (-1000005) else ((mBc 31 0 md r (-1000005) 0).1, upr (mBc 31 0 md r (-1000005) 0).2.1 1 (mBc 31 0 md r (-1000005) 0).2.2)
