/-! THE REFERENCE's OWN ACTS: its rows beside the first, and what its public methods do -/
theorem upr_cm {h : HV} {c k : Nat} {f g : Int → Int} (n : c ≠ k) : upr (upr h c f) k g = upr (upr h k g) c f := by
  funext i; unfold upr
  by_cases a : i = k
  · subst a; rw [if_pos rfl, if_neg (fun e => n e.symm), if_pos rfl]
  · rw [if_neg a]; by_cases b : i = c
    · rw [if_pos b, if_pos b]
    · rw [if_neg b, if_neg b, if_neg a]
theorem upr_mv {h : HV} {c k : Nat} {f g r : Int → Int} (n1 : 1 ≠ c) (n2 : 1 ≠ k) : upr (upr (upr h 1 r) c f) k g = upr (upr (upr h c f) k g) 1 r := by
  rw [upr_cm (f := r) (g := f) n1, upr_cm (f := r) (g := g) n2]
def cpS (f g : Int → Int) (o n : Int) : Int → Int := fun i => if o ≤ i ∧ i < o + n then f (i - o) else g i
theorem cpS_0 {f g : Int → Int} {o : Int} : cpS f g o 0 = g := by funext i; exact if_neg (by omega)
theorem cpS_s {f g : Int → Int} {o n : Int} (h : 0 ≤ n) : up1 (cpS f g o n) (o + n) (f n) = cpS f g o (n + 1) := by
  funext i
  by_cases a : i = o + n
  · subst a; rw [up1_same]; exact ((if_pos (by omega)).trans (congrArg f (by omega))).symm
  · rw [up1_ne a]; unfold cpS
    by_cases b : o ≤ i ∧ i < o + n
    · rw [if_pos b, if_pos (by omega)]
    · rw [if_neg b, if_neg (by omega)]
def shS (f : Int → Int) (n : Int) : Int → Int := fun i => if 0 ≤ i ∧ i < n then f (i + 2739) else f i
theorem shS_0 {f : Int → Int} : shS f 0 = f := by funext i; exact if_neg (by omega)
theorem shS_s {f : Int → Int} {n : Int} (h : 0 ≤ n) : up1 (shS f n) n (shS f n (n + 2739)) = shS f (n + 1) := by
  have e : shS f n (n + 2739) = f (n + 2739) := if_neg (by omega)
  rw [e]; funext i
  by_cases a : i = n
  · subst a; rw [up1_same]; exact (if_pos (by omega)).symm
  · rw [up1_ne a]; unfold shS
    by_cases b : 0 ≤ i ∧ i < n
    · rw [if_pos b, if_pos (by omega)]
    · rw [if_neg b, if_neg (by omega)]
theorem cpI_0 {f g : Int → Int} : cpI f g 0 = g := by funext i; exact if_neg (by omega)
theorem cpI_s {f g : Int → Int} {n : Int} (h : 0 ≤ n) : up1 (cpI f g n) n (f n) = cpI f g (n + 1) := by
  funext i
  by_cases a : i = n
  · subst a; rw [up1_same]; exact (if_pos (by omega)).symm
  · rw [up1_ne a]; unfold cpI
    by_cases b : 0 ≤ i ∧ i < n
    · rw [if_pos b, if_pos (by omega)]
    · rw [if_neg b, if_neg (by omega)]
def mR0 (md : HV) : HV := if md 0 6 = 4 then upr (upr md 4 (shS (md 4) 8217)) 0 (up1 (md 0) 6 (md 0 6 - 1)) else md
theorem mR0_k {md : HV} (h : 0 ≤ md 0 6 ∧ md 0 6 ≤ 4) : 0 ≤ mR0 md 0 6 ∧ mR0 md 0 6 ≤ 3 := by
  unfold mR0; split
  · show 0 ≤ up1 (md 0) 6 (md 0 6 - 1) 6 ∧ up1 (md 0) 6 (md 0 6 - 1) 6 ≤ 3
    rw [up1_same]; omega
  · omega
def mRec (md : HV) (r : Int → Int) : HV := upr (upr (mR0 md) 4 (cpS r (mR0 md 4) (2739 * mR0 md 0 6) 2739)) 0 (up1 (mR0 md 0) 6 (mR0 md 0 6 + 1))
def mLay (md : HV) (r : Int → Int) : HV := upr md 3 (cpI r (md 3) 2739)
def mUn (md : HV) : HV := upr md 0 (up1 (md 0) 6 (md 0 6 - 1))
theorem mUn_k {md : HV} : mUn md 0 6 = md 0 6 - 1 := by
  show up1 (md 0) 6 (md 0 6 - 1) 6 = _
  rw [up1_same]
def mKeep (md : HV) (r : Int → Int) : HV := upr (upr md 2 (cpI r (md 2) 2739)) 0 (up1 (md 0) 8 1)
abbrev mAdd (r : Int → Int) (a n p : Int) : Int → Int := up1 (up1 (up1 (up1 (up1 (up1 (up1 (up1 (up1 r 1 (r 1 + 1)) (51 + 7 * (r 1) + 0) 0) (51 + 7 * (r 1) + 1) a) (51 + 7 * (r 1) + 2) n) (51 + 7 * (r 1) + 3) p) (51 + 7 * (r 1) + 4) 0) (51 + 7 * (r 1) + 5) (p * n * r 20)) (51 + 7 * (r 1) + 6) (-1000005)) 14 (r 14 + p * n * r 20)
def mErr (r : Int → Int) (a n p : Int) : Int := if ¬ (r 0 ≤ a ∧ a ≤ 899) ∨ ¬ (1 ≤ n ∧ n ≤ 9) ∨ ¬ (1 ≤ p ∧ p ≤ 9) then -1000002 else if ¬ mFits r a (a + n) p then -1000004 else if r 1 = 80 then -1000003 else 0
theorem mErr_r {r : Int → Int} {a n p : Int} : -1000004 ≤ mErr r a n p ∧ mErr r a n p ≤ 0 := by
  unfold mErr; repeat' split
  all_goals decide
theorem mErr_0 {r : Int → Int} {a n p : Int} (h : 0 ≤ mErr r a n p) : r 0 ≤ a ∧ a ≤ 899 ∧ 1 ≤ n ∧ n ≤ 9 ∧ 1 ≤ p ∧ p ≤ 9 ∧ r 1 ≠ 80 := by
  unfold mErr at h
  by_cases c : ¬ (r 0 ≤ a ∧ a ≤ 899) ∨ ¬ (1 ≤ n ∧ n ≤ 9) ∨ ¬ (1 ≤ p ∧ p ≤ 9)
  · rw [if_pos c] at h; exact absurd h (by decide)
  rw [if_neg c] at h
  by_cases d : ¬ mFits r a (a + n) p
  · rw [if_pos d] at h; exact absurd h (by decide)
  rw [if_neg d] at h
  by_cases e : r 1 = 80
  · rw [if_pos e] at h; exact absurd h (by decide)
  · omega
abbrev OPM : Type := Int × HV
abbrev mNo (md : HV) (r : Int → Int) (v : Int) : OPM := (v, upr md 1 r)
abbrev mGo (md : HV) (r : Int → Int) (v : Int) (g : Int → Int) : OPM := (v, upr (mRec md r) 1 g)
def yBook (md : HV) (r : Int → Int) (a n p : Int) : OPM := if mErr r a n p < 0 then mNo md r (mErr r a n p) else mGo md r (r 1) (mAdd r a n p)
abbrev mRef0 (r : Int → Int) (b : Int) : Int := if r 21 ≤ r (51 + 7 * b + 1) - r 0 ∨ ¬ r (611 + r (51 + 7 * b + 1)) % 2 = 0 then r (51 + 7 * b + 5) else 0
def mRefd (r : Int → Int) (b : Int) : Int := if ¬ (0 ≤ b ∧ b ≤ r 1 - 1) then -1000001 else if r (51 + 7 * b + 0) = 0 then mRef0 r b else -1000004
abbrev mCan (r : Int → Int) (b v : Int) : Int → Int := up1 (up1 (up1 r (51 + 7 * b + 0) 3) 14 (r 14 - v)) 15 (r 15 + (r (51 + 7 * b + 5) - v))
def yCancel (md : HV) (r : Int → Int) (b : Int) : OPM := if mRefd r b < 0 then mNo md r (mRefd r b) else mGo md r (mRefd r b) (mCan r b (mRefd r b))
def yExtend (md : HV) (r : Int → Int) (b n : Int) : OPM := if ¬ (0 ≤ b ∧ b ≤ r 1 - 1) then mNo md r (-1000001) else if ¬ (1 ≤ n ∧ n ≤ 9) then mNo md r (-1000002) else
  if ¬ (r (51 + 7 * b + 0) = 1 ∧ r 0 ≤ mEnd r b ∧ r (51 + 7 * b + 2) + n ≤ 9 ∧ mFits r (mEnd r b) (mEnd r b + n) (r (51 + 7 * b + 3))) then mNo md r (-1000004) else mGo md r (mEnd r b + n) (up1 r (51 + 7 * b + 2) (r (51 + 7 * b + 2) + n))
abbrev mOth (r : Int → Int) (w : Int) : Int → Int := fun d => if r (611 + d) = w then 0 else 1
def mWs (r : Int → Int) (x y w : Int) : Int → Int := fun i => if 611 + x ≤ i ∧ i < 611 + y then w else r i
theorem mWs_0 {r : Int → Int} {x w : Int} : mWs r x x w = r := by funext i; exact if_neg (by omega)
theorem mWs_s {r : Int → Int} {x y w : Int} (h : x ≤ y) : up1 (mWs r x y w) (611 + y) w = mWs r x (y + 1) w := by
  funext i
  by_cases a : i = 611 + y
  · subst a; rw [up1_same]; exact (if_pos (by omega)).symm
  · rw [up1_ne a]; unfold mWs
    by_cases b : 611 + x ≤ i ∧ i < 611 + y
    · rw [if_pos b, if_pos (by omega)]
    · rw [if_neg b, if_neg (by omega)]
def yWeather (md : HV) (r : Int → Int) (x y w : Int) : OPM := if ¬ (r 0 ≤ x ∧ x ≤ 999) ∨ ¬ (x ≤ y ∧ y ≤ 999) ∨ ¬ (0 ≤ w ∧ w ≤ 7) then mNo md r (-1000002) else
  if sumI (fun q => mOth r w (x + q)) (y + 1 - x) = 0 then mNo md r (-1000005) else mGo md r (sumI (fun q => mOth r w (x + q)) (y + 1 - x)) (mWs r x (y + 1) w)
abbrev mOrd (r : Int → Int) (k w : Int) : Int → Int := up1 (up1 (up1 r (27 + r 3) k) (39 + r 3) w) 3 (r 3 + 1)
def yOrder (md : HV) (r : Int → Int) (k w : Int) : OPM := if ¬ (0 ≤ k ∧ k ≤ 1) ∨ ¬ (1 ≤ w ∧ w ≤ 99) then mNo md r (-1000002) else if r 3 = 12 then mNo md r (-1000003) else mGo md r (r 3 + 1) (mOrd r k w)
def yRecall (md : HV) (r : Int → Int) : OPM := if r 3 = 0 then mNo md r (-1000005) else mGo md r (r (39 + r 3 - 1)) (mDrop r (r 3 - 1))
def yFlight (md : HV) (r : Int → Int) (x : Int) : OPM := if r 4 = x then mNo md r (-1000005) else mGo md r (r 5) (up1 r 4 x)
def mPasI (r : Int → Int) (n : Int) : Int → Int := foldI (fun _ g => mPas g) r n
theorem mPasI_0 {r : Int → Int} : mPasI r 0 = r := rfl
theorem mPasI_s {r : Int → Int} {n : Int} (h : 0 ≤ n) : mPasI r (n + 1) = mPas (mPasI r n) := foldI_s h
theorem MR_pasI {K : Int} {r : Int → Int} (R : MR K r) {n : Int} (n0 : 0 ≤ n) (hd : r 0 + n ≤ 1060) : MR (K + 149 * n) (mPasI r n) ∧ mPasI r n 0 = r 0 + n ∧ ∀ i, kept i → i ≠ 0 → mPasI r n i = r i :=
  foldI_iv (f := fun _ g => mPas g) (x := r) n0 (fun k g => MR (K + 149 * k) g ∧ g 0 = r 0 + k ∧ ∀ i, kept i → i ≠ 0 → g i = r i) ⟨by rw [show K + 149 * 0 = K by omega]; exact R, by omega, fun _ _ _ => rfl⟩ fun k y a b hy => by
    have h := MR_mPas hy.1 (by omega)
    rw [show K + 149 * (k + 1) = K + 149 * k + 149 by omega]
    exact ⟨h.1, by omega, fun i q n => (h.2.2 i q n).trans (hy.2.2 i q n)⟩
def yPass (md : HV) (r : Int → Int) (n : Int) : OPM := if ¬ (1 ≤ n ∧ n ≤ 30) then mNo md r (-1000002) else if 999 < r 0 + n then mNo md r (-1000003) else mGo md r (mPasI r n 0) (mPasI r n)
def mMost (k : Int) : Int := if k = 0 then 40 else if k = 1 ∨ k = 8 then 20 else if k = 4 ∨ k = 5 then 30 else if k = 6 then 50 else if k = 9 then 999 else 99
def ySet (md : HV) (r : Int → Int) (k w : Int) : OPM := if ¬ (0 ≤ k ∧ k ≤ 9) ∨ ¬ ((if k = 0 ∨ k = 5 then 1 else 0) ≤ w ∧ w ≤ mMost k) then mNo md r (-1000002) else if r (17 + k) = w then mNo md r (-1000005) else
  if k = 0 ∧ ¬ allI (fun q => decide (mTk r (r 0 + q) ≤ w)) (1000 - r 0) = true then mNo md r (-1000004) else mGo md r (r (17 + k)) (up1 r (17 + k) w)
def yUndo (md : HV) (r : Int → Int) : OPM := if md 0 6 = 0 then mNo md r (-1000005) else (md 0 6 - 1, upr (mUn md) 1 (cpI (fun i => mUn md 4 (2739 * mUn md 0 6 + i)) r 2739))
def yRestore (md : HV) (r : Int → Int) : OPM := if md 0 8 = 0 then mNo md r (-1000005) else (cpI (mRec md r 2) r 2739 0, upr (mRec md r) 1 (cpI (mRec md r 2) r 2739))
def yType (md : HV) (r : Int → Int) (c : Int) : OPM := if md 0 7 = 60 then mNo md r (-1000003) else (md 0 7 + 1, upr (upr (upr md 5 (up1 (md 5) (md 0 7) c)) 0 (up1 (md 0) 7 (md 0 7 + 1))) 1 r)
theorem mRefd_r {K : Int} {r : Int → Int} (R : MR K r) {b : Int} : -1000004 ≤ mRefd r b ∧ mRefd r b ≤ 8019 := by
  have rc := R.came
  unfold mRefd; split
  · decide
  · rename_i h
    have hp := R.paid (b := b) (by omega) (by omega)
    split
    · show -1000004 ≤ (if _ then _ else _ : Int) ∧ (if _ then _ else _ : Int) ≤ 8019
      split <;> omega
    · decide
theorem mRefd_0 {r : Int → Int} {b : Int} (h : 0 ≤ mRefd r b) : 0 ≤ b ∧ b ≤ r 1 - 1 ∧ r (51 + 7 * b + 0) = 0 := by
  unfold mRefd at h
  by_cases c : ¬ (0 ≤ b ∧ b ≤ r 1 - 1)
  · rw [if_pos c] at h; exact absurd h (by decide)
  rw [if_neg c] at h
  by_cases d : r (51 + 7 * b + 0) = 0
  · exact ⟨by omega, by omega, d⟩
  · rw [if_neg d] at h; exact absurd h (by decide)
theorem mul3 {p n c : Int} (p0 : 0 ≤ p ∧ p ≤ 9) (n0 : 0 ≤ n ∧ n ≤ 9) (c0 : 0 ≤ c ∧ c ≤ 99) : 0 ≤ p * n * c ∧ p * n * c ≤ 8019 := by
  have h1 : p * n ≤ 9 * 9 := Int.mul_le_mul p0.2 n0.2 n0.1 (by decide)
  have h0 : 0 ≤ p * n := Int.mul_nonneg p0.1 n0.1
  have h2 : p * n * c ≤ 81 * 99 := Int.mul_le_mul (by omega) c0.2 c0.1 (by decide)
  exact ⟨Int.mul_nonneg h0 c0.1, by omega⟩
theorem MR_mAdd {K : Int} {r : Int → Int} (R : MR K r) (m1 : r 1 < 80) {a n p : Int} (a0 : 0 ≤ a ∧ a ≤ 899) (n0 : 1 ≤ n ∧ n ≤ 9) (p0 : 1 ≤ p ∧ p ≤ 9) : MR K (mAdd r a n p) := by
  have rc := R.came
  have hs : 0 ≤ r 20 ∧ r 20 ≤ 99 := R.set (i := 3) (by decide) (by decide)
  have hp := mul3 (p := p) (n := n) (c := r 20) ⟨by omega, by omega⟩ ⟨by omega, by omega⟩ hs
  exact ((((((((R.uCame ⟨by omega, by omega⟩).uSt rc.1 m1 (by decide)).uArr rc.1 m1 a0).uNig rc.1 m1 ⟨by omega, by omega⟩).uPer rc.1 m1 ⟨by omega, by omega⟩).uSl rc.1 m1).uPd rc.1 m1 hp).uCam rc.1 m1 (by decide)).free (by decide) (by decide)
theorem mMost_r (k : Int) : 20 ≤ mMost k ∧ mMost k ≤ 999 := by
  unfold mMost; repeat' split
  all_goals decide
def yBooking (r : Int → Int) (b w : Int) : Int := if ¬ (0 ≤ b ∧ b ≤ r 1 - 1) then -1000001 else if w = 0 then r (51 + 7 * b + 0) else if w = 1 then r (51 + 7 * b + 1) else if w = 2 then r (51 + 7 * b + 2) else if w = 3 then r (51 + 7 * b + 3) else if w = 4 then r (51 + 7 * b + 1) + r (51 + 7 * b + 2) else if w = 5 then r (51 + 7 * b + 4) else if w = 6 then (if r (51 + 7 * b + 0) = 1 ∧ r (51 + 7 * b + 1) + r (51 + 7 * b + 2) ≤ r 0 ∧ ¬ r (611 + r 0) / 2 % 2 = 0 then 1 else 0) else if w = 7 then r (51 + 7 * b + 5) else if w = 8 then r (51 + 7 * b + 6) else -1000002
abbrev mArr (r : Int → Int) (d : Int) : Int → Int := fun b => if r (51 + 7 * b + 0) = 0 ∧ r (51 + 7 * b + 1) = d then 1 else 0
abbrev mEnds (r : Int → Int) (d : Int) : Int → Int := fun b => if r (51 + 7 * b + 0) ≤ 1 ∧ r (51 + 7 * b + 1) + r (51 + 7 * b + 2) = d then 1 else 0
def yDay (r : Int → Int) (d w : Int) : Int := if ¬ (0 ≤ d ∧ d ≤ 999) ∨ ¬ (0 ≤ w ∧ w ≤ 4) then -1000002 else if w = 0 then mTk r d else if w = 1 then r 17 - mTk r d else if w = 2 then r (611 + d) else if w = 3 then sumI (mArr r d) (r 1) else sumI (mEnds r d) (r 1)
def mFr (r : Int → Int) (w : Int) : Nat → Int → Int → Int
  | 0, _, _ => -1000005
  | n + 1, d, l => if 0 < r (1675 + d) then (if l = 0 then (if w = 0 then d else r (1675 + d)) else mFr r w n (d + 1) (l - 1)) else mFr r w n (d + 1) l
def yFresh (r : Int → Int) (k w : Int) : Int := if k < 0 ∨ ¬ (0 ≤ w ∧ w ≤ 1) then -1000002 else mFr r w 1064 0 k
def yWaiting (r : Int → Int) (k w : Int) : Int := if k < 0 ∨ ¬ (0 ≤ w ∧ w ≤ 1) then -1000002 else if r 3 ≤ k then -1000005 else if w = 0 then r (27 + k) else r (39 + k)
def mFrP (r : Int → Int) : Int := sumI (fun q => r (1675 + q)) 1064
def mWaP (r : Int → Int) : Int := sumI (fun q => r (39 + q)) (r 3)
def yCount (md : HV) (r : Int → Int) (w : Int) : Int := if 2 ≤ w ∧ w ≤ 6 then sumI (mMany r (w - 2)) (r 1) else if 25 ≤ w ∧ w ≤ 34 then r (17 + w - 25) else if w = 0 then r 0 else if w = 1 then r 1 else if w = 7 then nPer r else if w = 8 then (if r 17 < nPer r then nPer r - r 17 else 0) else if w = 9 then mFrP r else if w = 10 then r 2 else if w = 11 then r 3 else if w = 12 then mWaP r else if w = 13 then r 4 else if w = 14 then r 5 else if w = 15 then r 6 else if w = 16 then r 7 else if w = 17 then r 8 else if w = 18 then r 9 else if w = 19 then r 10 else if w = 20 then r 11 else if w = 21 then r 12 else if w = 22 then r 13 else if w = 23 then md 0 6 else if w = 24 then md 0 7 else -1000002
abbrev mHeld (r : Int → Int) : Int → Int := fun b => if r (51 + 7 * b + 0) ≤ 1 then r (51 + 7 * b + 5) else 0
def yCoins (r : Int → Int) (w : Int) : Int := if ¬ (0 ≤ w ∧ w ≤ 3) then -1000002 else if w = 0 then r 14 else if w = 2 then r 15 else if w = 3 then r 16 else sumI (mHeld r) (r 1)
def mFf (r : Int → Int) (n p : Int) : Nat → Int → Int
  | 0, _ => -1000005
  | k + 1, d => if mFits r d (d + n) p then d else mFf r n p k (d + 1)
def yFirst (r : Int → Int) (n p : Int) : Int := if ¬ (1 ≤ n ∧ n ≤ 9) ∨ ¬ (1 ≤ p ∧ p ≤ 9) then -1000002 else mFf r n p (900 - r 0).toNat (r 0)
def mFu (r : Int → Int) : Nat → Int → Int → Int → Int
  | 0, _, b, _ => b
  | k + 1, d, b, m => if m < mTk r d then mFu r k (d + 1) d (mTk r d) else mFu r k (d + 1) b m
def yFull (r : Int → Int) : Int := mFu r (1000 - r 0).toNat (r 0) (-1000005) 0
