/-! WHAT A DAY DOES TO THE REFERENCE's ROW, and that it keeps to its bounds -/
def kept (i : Int) : Prop := i = 0 ∨ i = 1 ∨ (17 ≤ i ∧ i < 27) ∨ (611 ≤ i ∧ i < 1675) ∨ (51 ≤ i ∧ i < 611 ∧ 1 ≤ (i - 51) % 7 ∧ (i - 51) % 7 ≤ 3)
/-- g keeps to the bounds, and what a day doesn't change is as in r -/
def MS (K : Int) (r g : Int → Int) : Prop := MR K g ∧ ∀ i, kept i → g i = r i
theorem MS.of {K : Int} {r : Int → Int} (R : MR K r) : MS K r r := ⟨R, fun _ _ => rfl⟩
theorem MS.tr {K K' : Int} {r g f : Int → Int} (a : MS K r g) (b : MS K' g f) : MS K' r f := ⟨b.1, fun i h => (b.2 i h).trans (a.2 i h)⟩
theorem MS.up {K : Int} {r g : Int → Int} (a : MS K r g) {i v : Int} (n : ¬ kept i) (h : MR K g → MR K (up1 g i v)) : MS K r (up1 g i v) :=
  ⟨h a.1, fun k q => (up1_ne (fun e : k = i => n (e ▸ q))).trans (a.2 k q)⟩
theorem nk {i : Int} (h : 1 < i ∧ i < 17 ∨ 27 ≤ i ∧ i < 51 ∨ 1675 ≤ i) : ¬ kept i := by unfold kept; omega
theorem nkb {b w : Int} (b0 : 0 ≤ b) (b1 : b < 80) (w0 : w = 0 ∨ w = 4 ∨ w = 5 ∨ w = 6) : ¬ kept (51 + 7 * b + w) := by unfold kept; omega
abbrev mEnd (r : Int → Int) (b : Int) : Int := r (51 + 7 * b + 1) + r (51 + 7 * b + 2)
abbrev mLv (r : Int → Int) (b : Int) : Int → Int := up1 (up1 r 14 (r 14 + (r 19 * r (51 + 7 * b + 3) * (r (51 + 7 * b + 1) + r (51 + 7 * b + 2) - r (51 + 7 * b + 6)) - r (51 + 7 * b + 5)))) (51 + 7 * b + 0) 2
abbrev mAw (r : Int → Int) (b : Int) : Int → Int := up1 (up1 (up1 r (51 + 7 * b + 0) 4) 14 (r 14 - r (51 + 7 * b + 5))) 13 (r 13 + r (51 + 7 * b + 3))
abbrev mIn (r : Int → Int) (b d : Int) : Int → Int := up1 (up1 r (51 + 7 * b + 0) 1) (51 + 7 * b + 6) d
def mCm (r : Int → Int) (b d : Int) : Int → Int := if r 17 + r 18 < nPer r + r (51 + 7 * b + 3) then mAw r b else mIn r b d
def mSh (r : Int → Int) (x y : Int) : Int → Int := fun i => if (27 + x ≤ i ∧ i < 27 + y) ∨ (39 + x ≤ i ∧ i < 39 + y) then r (i + 1) else r i
abbrev mDrop (r : Int → Int) (x : Int) : Int → Int := up1 (up1 (mSh (up1 r 3 (r 3 - 1)) x (r 3 - 1)) (27 + (r 3 - 1)) 0) (39 + (r 3 - 1)) 0
abbrev mTak (r : Int → Int) (l : Int) : Int := if r 39 < l then r 39 else l
abbrev mPut (r : Int → Int) (l d : Int) : Int → Int := if r 27 = 0 then up1 r (1675 + d) (r (1675 + d) + mTak r l) else up1 r 2 (r 2 + mTak r l)
abbrev mB2 (r : Int → Int) (l d : Int) : Int → Int := up1 (up1 (mPut r l d) 39 (mPut r l d 39 - mTak r l)) 7 (mPut r l d 7 + mTak r l)
def mB1 (r : Int → Int) (l d : Int) : Int → Int := if mPut r l d 39 - mTak r l = 0 then mDrop (mB2 r l d) 0 else mB2 r l d
def mBr : Nat → (Int → Int) → Int → Int → Int → Int
  | 0, r, _, _ => r
  | n + 1, r, l, d => if 0 < l ∧ 0 < r 3 then mBr n (mB1 r l d) (l - mTak r l) d else r
def sFm (d b : Int) (q : (Int → Int) × Int) : (Int → Int) × Int := if q.1 (51 + 7 * b + 0) = 1 ∧ q.1 (51 + 7 * b + 1) + q.1 (51 + 7 * b + 2) ≤ d ∧ q.1 (51 + 7 * b + 3) ≤ q.2 then (mLv (up1 q.1 6 (q.1 6 + q.1 (51 + 7 * b + 3))) b, q.2 - q.1 (51 + 7 * b + 3)) else q
def mFl1 (r : Int → Int) (d : Int) : Int → Int := (foldI (sFm d) (mBr 12 r (r 24) d, mBr 12 r (r 24) d 25) (r 1)).1
abbrev mFl2 (r : Int → Int) : Int → Int := up1 (up1 (up1 (up1 r 14 (r 14 - r 26)) 16 (r 16 + r 26)) 4 0) 5 (r 5 + 1)
def mFly (r : Int → Int) (d : Int) : Int → Int := mFl2 (mFl1 r d)
abbrev mEp (r : Int → Int) (d l : Int) : Int := if r (1675 + d) < l then r (1675 + d) else l
def mEt : Nat → Int → (Int → Int) → Int → (Int → Int) × Int
  | 0, _, r, l => (r, l)
  | n + 1, d, r, l => if 0 < l then mEt n (d + 1) (up1 (up1 r (1675 + d) (r (1675 + d) - mEp r d l)) 8 (r 8 + mEp r d l)) (l - mEp r d l) else (r, l)
abbrev mEd (r : Int → Int) (l : Int) : Int := if r 2 < l then r 2 else l
abbrev mE2 (r : Int → Int) (l : Int) : Int → Int := up1 (up1 (up1 r 2 (r 2 - mEd r l)) 8 (r 8 + mEd r l)) 10 (r 10 + (l - mEd r l))
def mEat (r : Int → Int) : Int → Int := mE2 (mEt 1064 0 r (nPer r)).1 (mEt 1064 0 r (nPer r)).2
def sSm (d b : Int) (r : Int → Int) : Int → Int := if r (51 + 7 * b + 0) = 1 then up1 (up1 (up1 r (51 + 7 * b + 4) (r (51 + 7 * b + 4) + 1)) 12 (r 12 + r (51 + 7 * b + 3))) 11 (r 11 + if r (51 + 7 * b + 1) + r (51 + 7 * b + 2) ≤ d then r (51 + 7 * b + 3) else 0) else r
def mSle (r : Int → Int) (d : Int) : Int → Int := foldI (sSm d) r (r 1)
def sSp (k : Int) (r : Int → Int) : Int → Int := up1 (up1 r 9 (r 9 + r (1675 + k))) (1675 + k) 0
def mSpo (r : Int → Int) : Int → Int := foldI sSp r (r 0 - r 22 + 1)
def sLm (d b : Int) (r : Int → Int) : Int → Int := if r (51 + 7 * b + 0) = 1 ∧ r (51 + 7 * b + 1) + r (51 + 7 * b + 2) ≤ d ∧ r (611 + d) / 2 % 2 = 0 then mLv r b else r
def mLea (r : Int → Int) (d : Int) : Int → Int := foldI (sLm d) r (r 1)
def sTm (d b : Int) (r : Int → Int) : Int → Int := if r (51 + 7 * b + 0) = 0 ∧ r (51 + 7 * b + 1) + r (51 + 7 * b + 2) ≤ d then mAw r b else r
def mLat (r : Int → Int) (d : Int) : Int → Int := foldI (sTm d) r (r 1)
def sCmm (d b : Int) (r : Int → Int) : Int → Int := if r (51 + 7 * b + 0) = 0 ∧ r (51 + 7 * b + 1) ≤ d then mCm r b d else r
def mCom (r : Int → Int) (d : Int) : Int → Int := foldI (sCmm d) r (r 1)
def mBeg1 (r : Int → Int) : Int → Int := mLat (mLea (mSpo r) (r 0)) (r 0)
def mBeg (r : Int → Int) : Int → Int := if mBeg1 r (611 + r 0) % 2 = 0 then mBr 12 (mCom (mBeg1 r) (r 0)) (mCom (mBeg1 r) (r 0) 23) (r 0) else mBeg1 r
def mMid (r : Int → Int) : Int → Int := if mBeg r 4 = 1 ∧ ¬ 4 ≤ mBeg r (611 + r 0) then mFly (mBeg r) (r 0) else mBeg r
def mNig (r : Int → Int) : Int → Int := mSle (mEat (mMid r)) (r 0)
def mPas (r : Int → Int) : Int → Int := up1 (mNig r) 0 (mNig r 0 + 1)
/-! the bounds -/
theorem MS_mLv {K : Int} {r : Int → Int} (R : MR K r) {b : Int} (b0 : 0 ≤ b) (b1 : b < 80) : MS K r (mLv r b) :=
  ((MS.of R).up (nk (by decide)) fun R => R.free (by decide) (by decide)).up (nkb b0 b1 (Or.inl rfl)) fun R => R.uSt b0 b1 (by decide)
theorem MS_mAw {K : Int} {r : Int → Int} (R : MR K r) {b : Int} (b0 : 0 ≤ b) (b1 : b < 80) : MS K r (mAw r b) :=
  (((MS.of R).up (nkb b0 b1 (Or.inl rfl)) fun R => R.uSt b0 b1 (by decide)).up (nk (by decide)) fun R => R.free (by decide) (by decide)).up (nk (by decide)) fun R => R.free (by decide) (by decide)
theorem MS_mIn {K : Int} {r : Int → Int} (R : MR K r) {b d : Int} (b0 : 0 ≤ b) (b1 : b < 80) (d0 : 0 ≤ d) (d1 : d ≤ 1060) : MS K r (mIn r b d) :=
  ((MS.of R).up (nkb b0 b1 (Or.inl rfl)) fun R => R.uSt b0 b1 (by decide)).up (nkb b0 b1 (by omega)) fun R => R.uCam b0 b1 ⟨by omega, d1⟩
theorem MS_mCm {K : Int} {r : Int → Int} (R : MR K r) {b d : Int} (b0 : 0 ≤ b) (b1 : b < 80) (d0 : 0 ≤ d) (d1 : d ≤ 1060) : MS K r (mCm r b d) := by
  unfold mCm; split
  · exact MS_mAw R b0 b1
  · exact MS_mIn R b0 b1 d0 d1
theorem MR_mSh {K : Int} {r : Int → Int} (R : MR K r) {x y : Int} (x0 : 0 ≤ x) (y1 : y ≤ 11) : MR K (mSh r x y) := by
  intro i i0 i1
  unfold mSh; split
  · rename_i h
    rcases h with h | h
    · have k := R.kin (i := i - 27 + 1) (by omega) (by omega)
      rw [show 27 + (i - 27 + 1) = i + 1 by omega] at k
      have z := (mB_kin (K := K) (i := i - 27) (v := r (i + 1)) (by omega) (by omega)).mpr k
      rwa [show 27 + (i - 27) = i by omega] at z
    · have k := R.por (i := i - 39 + 1) (by omega) (by omega)
      rw [show 39 + (i - 39 + 1) = i + 1 by omega] at k
      have z := (mB_por (K := K) (i := i - 39) (v := r (i + 1)) (by omega) (by omega)).mpr k
      rwa [show 39 + (i - 39) = i by omega] at z
  · exact R i i0 i1
theorem mSh_s {r : Int → Int} {x y : Int} (x0 : 0 ≤ x) (xy : x ≤ y) (y1 : y ≤ 10) : up1 (up1 (mSh r x y) (27 + y) (mSh r x y (27 + y + 1))) (39 + y) (mSh r x y (39 + y + 1)) = mSh r x (y + 1) := by
  have e1 : mSh r x y (27 + y + 1) = r (27 + y + 1) := if_neg (by omega)
  have e2 : mSh r x y (39 + y + 1) = r (39 + y + 1) := if_neg (by omega)
  rw [e1, e2]
  funext i
  by_cases a : i = 39 + y
  · subst a; rw [up1_same]; exact (if_pos (by omega)).symm
  rw [up1_ne a]
  by_cases b : i = 27 + y
  · subst b; rw [up1_same]; exact (if_pos (by omega)).symm
  rw [up1_ne b]; unfold mSh
  by_cases c : (27 + x ≤ i ∧ i < 27 + y) ∨ (39 + x ≤ i ∧ i < 39 + y)
  · rw [if_pos c, if_pos (by omega)]
  · rw [if_neg c, if_neg (by omega)]
theorem mSh_0 {r : Int → Int} {x : Int} : mSh r x x = r := by
  funext i; exact if_neg (by omega)
theorem MS_mDrop {K : Int} {r : Int → Int} (R : MR K r) {x : Int} (x0 : 0 ≤ x) (x1 : x ≤ r 3 - 1) : MS K r (mDrop r x) ∧ mDrop r x 3 = r 3 - 1 := by
  have rw0 := R.wait
  have a : MS K r (up1 r 3 (r 3 - 1)) := (MS.of R).up (nk (by decide)) fun R => R.uWait ⟨by omega, by omega⟩
  have b : MS K r (mSh (up1 r 3 (r 3 - 1)) x (r 3 - 1)) := ⟨MR_mSh a.1 x0 (by omega), fun i h => by
    have e : mSh (up1 r 3 (r 3 - 1)) x (r 3 - 1) i = up1 r 3 (r 3 - 1) i := if_neg (by unfold kept at h; omega)
    rw [e]; exact a.2 i h⟩
  refine ⟨(b.up (nk (by omega)) fun R => R.uKin (by omega) (by omega) (by decide)).up (nk (by omega)) fun R => R.uPor (by omega) (by omega) (by decide), ?_⟩
  show up1 (up1 (mSh (up1 r 3 (r 3 - 1)) x (r 3 - 1)) (27 + (r 3 - 1)) 0) (39 + (r 3 - 1)) 0 3 = _
  rw [up1_ne (by omega), up1_ne (by omega)]
  exact (if_neg (by omega)).trans up1_same
theorem mTak_r {K : Int} {r : Int → Int} (R : MR K r) {l : Int} (l0 : 0 < l) : 0 ≤ mTak r l ∧ mTak r l ≤ l ∧ mTak r l ≤ r 39 := by
  have h := R.por (i := 0) (by decide) (by decide)
  have h : 0 ≤ r 39 ∧ r 39 ≤ 99 := h
  show 0 ≤ (if r 39 < l then r 39 else l) ∧ (if r 39 < l then r 39 else l) ≤ l ∧ (if r 39 < l then r 39 else l) ≤ r 39
  split <;> omega
theorem mPut_39 {r : Int → Int} {l d : Int} (d0 : 0 ≤ d) : mPut r l d 39 = r 39 := by
  show (if r 27 = 0 then _ else _ : Int → Int) 39 = r 39
  split <;> exact up1_ne (by omega)
theorem MS_mB2 {K : Int} {r : Int → Int} (R : MR K r) {l d : Int} (l0 : 0 < l) (d0 : 0 ≤ d) (d1 : d < 1064) : MS (K + mTak r l) r (mB2 r l d) ∧ mB2 r l d 3 = r 3 := by
  have ht := mTak_r R l0
  have hp := R.por (i := 0) (by decide) (by decide)
  have hp : 0 ≤ r 39 ∧ r 39 ≤ 99 := hp
  have hd := R.dry
  have hf := R.fre d0 d1
  have a : MS (K + mTak r l) r (mPut r l d) ∧ mPut r l d 3 = r 3 := by
    show MS (K + mTak r l) r (if r 27 = 0 then _ else _) ∧ (if r 27 = 0 then _ else _ : Int → Int) 3 = r 3
    split
    · exact ⟨(MS.of (R.mono (by omega))).up (nk (by omega)) fun R => R.uFre d0 ⟨by omega, by omega⟩, up1_ne (by omega)⟩
    · exact ⟨(MS.of (R.mono (by omega))).up (nk (by omega)) fun R => R.uDry ⟨by omega, by omega⟩, up1_ne (by omega)⟩
  have e9 : mPut r l d 39 = r 39 := mPut_39 d0
  refine ⟨(a.1.up (nk (by decide)) fun R => R.uPor (i := 0) (by decide) (by decide) ⟨by omega, by omega⟩).up (nk (by decide)) fun R => R.free (by decide) (by decide), ?_⟩
  show up1 (up1 (mPut r l d) 39 (mPut r l d 39 - mTak r l)) 7 (mPut r l d 7 + mTak r l) 3 = _
  rw [up1_ne (by decide), up1_ne (by decide)]; exact a.2
theorem MS_mB1 {K : Int} {r : Int → Int} (R : MR K r) {l d : Int} (l0 : 0 < l) (w0 : 0 < r 3) (d0 : 0 ≤ d) (d1 : d < 1064) : MS (K + mTak r l) r (mB1 r l d) ∧ (mB1 r l d 3 = r 3 - 1 ∨ (mB1 r l d 3 = r 3 ∧ l - mTak r l = 0)) := by
  have a := MS_mB2 R (d := d) l0 d0 d1
  unfold mB1; split
  · have b := MS_mDrop a.1.1 (x := 0) (by decide) (by rw [a.2]; omega)
    exact ⟨a.1.tr b.1, Or.inl (by rw [b.2, a.2])⟩
  · rename_i h
    rw [mPut_39 d0] at h
    refine ⟨a.1, Or.inr ⟨a.2, ?_⟩⟩
    have e : mTak r l = if r 39 < l then r 39 else l := rfl
    by_cases c : r 39 < l
    · rw [if_pos c] at e; omega
    · rw [if_neg c] at e; omega
theorem mBr_go {n : Nat} {r : Int → Int} {l d : Int} (h : 0 < l ∧ 0 < r 3) : mBr (n + 1) r l d = mBr n (mB1 r l d) (l - mTak r l) d := if_pos h
theorem mBr_stop {n : Nat} {r : Int → Int} {l d : Int} (h : ¬ (0 < l ∧ 0 < r 3)) : mBr n r l d = r := by
  cases n with
  | zero => rfl
  | succ n => exact if_neg h
theorem MS_mBr {d : Int} (d0 : 0 ≤ d) (d1 : d < 1064) : ∀ (n : Nat) (K : Int) (r : Int → Int) (l : Int), MR K r → 0 ≤ l → MS (K + l) r (mBr n r l d)
  | 0, K, r, l, R, l0 => MS.of (R.mono (by omega))
  | n + 1, K, r, l, R, l0 => by
    by_cases h : 0 < l ∧ 0 < r 3
    · rw [mBr_go h]
      have a := MS_mB1 R h.1 h.2 d0 d1
      have ht := mTak_r R h.1
      have b := MS_mBr d0 d1 n (K + mTak r l) (mB1 r l d) (l - mTak r l) a.1.1 (by omega)
      rw [show K + mTak r l + (l - mTak r l) = K + l by omega] at b
      exact a.1.tr b
    · rw [mBr_stop h]; exact MS.of (R.mono (by omega))
theorem MS_fold {K : Int} {r : Int → Int} (R : MR K r) {f : Int → (Int → Int) → Int → Int} {n : Int} (hf : ∀ b g, 0 ≤ b → b < n → MS K r g → MS K g (f b g)) {i : Int} (hi : 0 ≤ i) (hn : i ≤ n) : MS K r (foldI f r i) :=
  foldI_iv hi (fun _ g => MS K r g) (MS.of R) fun k y a b hy => hy.tr (hf k y a (by omega) hy)
theorem MS_sFm {K : Int} {q : (Int → Int) × Int} (R : MR K q.1) {d b : Int} (b0 : 0 ≤ b) (b1 : b < 80) : MS K q.1 (sFm d b q).1 := by
  unfold sFm; split
  · have a : MS K q.1 (up1 q.1 6 (q.1 6 + q.1 (51 + 7 * b + 3))) := (MS.of R).up (nk (by decide)) fun R => R.free (by decide) (by decide)
    exact a.tr (MS_mLv a.1 b0 b1)
  · exact MS.of R
theorem MS_sSm {K : Int} {r : Int → Int} (R : MR K r) {d b : Int} (b0 : 0 ≤ b) (b1 : b < 80) : MS K r (sSm d b r) := by
  unfold sSm; split
  · exact (((MS.of R).up (nkb b0 b1 (by omega)) fun R => R.uSl b0 b1).up (nk (by decide)) fun R => R.free (by decide) (by decide)).up (nk (by decide)) fun R => R.free (by decide) (by decide)
  · exact MS.of R
theorem MS_sLm {K : Int} {r : Int → Int} (R : MR K r) {d b : Int} (b0 : 0 ≤ b) (b1 : b < 80) : MS K r (sLm d b r) := by
  unfold sLm; split
  · exact MS_mLv R b0 b1
  · exact MS.of R
theorem MS_sTm {K : Int} {r : Int → Int} (R : MR K r) {d b : Int} (b0 : 0 ≤ b) (b1 : b < 80) : MS K r (sTm d b r) := by
  unfold sTm; split
  · exact MS_mAw R b0 b1
  · exact MS.of R
theorem MS_sCmm {K : Int} {r : Int → Int} (R : MR K r) {d b : Int} (b0 : 0 ≤ b) (b1 : b < 80) (d0 : 0 ≤ d) (d1 : d ≤ 1060) : MS K r (sCmm d b r) := by
  unfold sCmm; split
  · exact MS_mCm R b0 b1 d0 d1
  · exact MS.of R
theorem MS_leaI {K : Int} {r : Int → Int} (R : MR K r) {d i : Int} (i0 : 0 ≤ i) (i1 : i ≤ 80) : MS K r (foldI (sLm d) r i) := MS_fold R (n := 80) (fun _ _ a b h => MS_sLm h.1 a b) i0 i1
theorem MS_latI {K : Int} {r : Int → Int} (R : MR K r) {d i : Int} (i0 : 0 ≤ i) (i1 : i ≤ 80) : MS K r (foldI (sTm d) r i) := MS_fold R (n := 80) (fun _ _ a b h => MS_sTm h.1 a b) i0 i1
theorem MS_comI {K : Int} {r : Int → Int} (R : MR K r) {d i : Int} (d0 : 0 ≤ d) (d1 : d ≤ 1060) (i0 : 0 ≤ i) (i1 : i ≤ 80) : MS K r (foldI (sCmm d) r i) := MS_fold R (n := 80) (fun _ _ a b h => MS_sCmm h.1 a b d0 d1) i0 i1
theorem MS_sleI {K : Int} {r : Int → Int} (R : MR K r) {d i : Int} (i0 : 0 ≤ i) (i1 : i ≤ 80) : MS K r (foldI (sSm d) r i) := MS_fold R (n := 80) (fun _ _ a b h => MS_sSm h.1 a b) i0 i1
theorem MS_spoI {K : Int} {r : Int → Int} (R : MR K r) {i : Int} (i0 : 0 ≤ i) (i1 : i ≤ 1064) : MS K r (foldI sSp r i) := MS_fold R (n := 1064) (fun k g a b h => by
  have hf := h.1.fre a b
  exact ((MS.of h.1).up (nk (by decide)) fun R => R.free (by decide) (by decide)).up (nk (by omega)) fun R => R.uFre a ⟨by decide, by omega⟩) i0 i1
theorem MS_flyI {K : Int} {r : Int → Int} (R : MR K r) {d s i : Int} (i0 : 0 ≤ i) (i1 : i ≤ 80) : MS K r (foldI (sFm d) (r, s) i).1 :=
  (foldI_iv (f := sFm d) (x := (r, s)) i0 (fun _ q => MS K r q.1) (MS.of R) fun k y a b hy => hy.tr (MS_sFm hy.1 a (by omega)))
theorem mSpo_i {r : Int → Int} {i : Int} (h : i = r 0 - r 22 + 1 ∨ (i = 0 ∧ r 0 - r 22 + 1 ≤ 0)) : foldI sSp r i = mSpo r := by
  unfold mSpo foldI
  rw [show i.toNat = (r 0 - r 22 + 1).toNat by omega]
theorem mEp_r {r : Int → Int} {d l : Int} (h : 0 ≤ r (1675 + d)) (l0 : 0 < l) : 0 ≤ mEp r d l ∧ mEp r d l ≤ l ∧ mEp r d l ≤ r (1675 + d) := by
  show 0 ≤ (if r (1675 + d) < l then r (1675 + d) else l) ∧ (if r (1675 + d) < l then r (1675 + d) else l) ≤ l ∧ (if r (1675 + d) < l then r (1675 + d) else l) ≤ r (1675 + d)
  split <;> omega
theorem mEd_r {r : Int → Int} {l : Int} (h : 0 ≤ r 2) (l0 : 0 ≤ l) : 0 ≤ mEd r l ∧ mEd r l ≤ l ∧ mEd r l ≤ r 2 := by
  show 0 ≤ (if r 2 < l then r 2 else l) ∧ (if r 2 < l then r 2 else l) ≤ l ∧ (if r 2 < l then r 2 else l) ≤ r 2
  split <;> omega
abbrev mE1 (r : Int → Int) (d l : Int) : Int → Int := up1 (up1 r (1675 + d) (r (1675 + d) - mEp r d l)) 8 (r 8 + mEp r d l)
theorem MS_mE1 {K : Int} {r : Int → Int} (R : MR K r) {d l : Int} (d0 : 0 ≤ d) (d1 : d < 1064) (l0 : 0 < l) : MS K r (mE1 r d l) := by
  have hf := R.fre d0 d1
  have h := mEp_r hf.1 l0
  exact ((MS.of R).up (nk (by omega)) fun R => R.uFre d0 ⟨by omega, by omega⟩).up (nk (by decide)) fun R => R.free (by decide) (by decide)
theorem mEt_go {n : Nat} {d l : Int} {r : Int → Int} (h : 0 < l) : mEt (n + 1) d r l = mEt n (d + 1) (mE1 r d l) (l - mEp r d l) := if_pos h
theorem mEt_stop {n : Nat} {d l : Int} {r : Int → Int} (h : ¬ 0 < l ∨ n = 0) : mEt n d r l = (r, l) := by
  cases n with
  | zero => rfl
  | succ n => exact if_neg (by omega)
theorem MS_mEt : ∀ (n : Nat) (K : Int) (d : Int) (r : Int → Int) (l : Int), MR K r → 0 ≤ d → d + n ≤ 1064 → 0 ≤ l → MS K r (mEt n d r l).1 ∧ 0 ≤ (mEt n d r l).2 ∧ (mEt n d r l).2 ≤ l
  | 0, K, d, r, l, R, _, _, l0 => ⟨MS.of R, l0, Int.le_refl _⟩
  | n + 1, K, d, r, l, R, d0, d1, l0 => by
    by_cases h : 0 < l
    · rw [mEt_go h]
      have a := MS_mE1 R (d := d) d0 (by omega) h
      have hp := mEp_r (R.fre (d := d) d0 (by omega)).1 h
      have b := MS_mEt n K (d + 1) (mE1 r d l) (l - mEp r d l) a.1 (by omega) (by omega) (by omega)
      exact ⟨a.tr b.1, b.2.1, by omega⟩
    · rw [mEt_stop (Or.inl h)]; exact ⟨MS.of R, l0, Int.le_refl _⟩
theorem MS_mEat {K : Int} {r : Int → Int} (R : MR K r) : MS K r (mEat r) := by
  have hp := nPer_r R
  have a := MS_mEt 1064 K 0 r (nPer r) R (by decide) (by decide) hp.1
  have hd := a.1.1.dry
  have he := mEd_r hd.1 a.2.1
  exact ((a.1.up (nk (by decide)) fun R => R.uDry ⟨by omega, by omega⟩).up (nk (by decide)) fun R => R.free (by decide) (by decide)).up (nk (by decide)) fun R => R.free (by decide) (by decide)
theorem seats_r {r : Int → Int} {d s i : Int} (i0 : 0 ≤ i) (s0 : 0 ≤ s) (s1 : s ≤ 20) {K : Int} (R : MR K r) (i1 : i ≤ 80) : 0 ≤ (foldI (sFm d) (r, s) i).2 ∧ (foldI (sFm d) (r, s) i).2 ≤ 20 :=
  (foldI_iv (f := sFm d) (x := (r, s)) i0 (fun _ q => MR K q.1 ∧ 0 ≤ q.2 ∧ q.2 ≤ 20) ⟨R, s0, s1⟩ fun k y a b hy => by
    refine ⟨(MS_sFm hy.1 a (by omega)).1, ?_⟩
    have hp := hy.1.per (b := k) a (by omega)
    unfold sFm; split
    · rename_i h; exact ⟨by have := h.2.2; show 0 ≤ y.2 - y.1 (51 + 7 * k + 3); omega, by show y.2 - y.1 (51 + 7 * k + 3) ≤ 20; omega⟩
    · exact hy.2).2
theorem MS_mFly {K : Int} {r : Int → Int} (R : MR K r) {d : Int} (d0 : 0 ≤ d) (d1 : d < 1064) : MS (K + 99) r (mFly r d) := by
  have hs := R.sets
  have a := MS_mBr d0 d1 12 K r (r 24) R hs.2.2.2.2.2.1.1
  have a2 : MS (K + 99) r (mBr 12 r (r 24) d) := ⟨a.1.mono (by omega), a.2⟩
  have rm := R.came
  have b : MS (K + 99) r (mFl1 r d) := a2.tr (MS_flyI a2.1 rm.1 rm.2)
  exact (((b.up (nk (by decide)) fun R => R.free (by decide) (by decide)).up (nk (by decide)) fun R => R.free (by decide) (by decide)).up (nk (by decide)) fun R => R.uCal (Or.inl rfl)).up (nk (by decide)) fun R => R.free (by decide) (by decide)
theorem MS_mSle {K : Int} {r : Int → Int} (R : MR K r) {d : Int} : MS K r (mSle r d) := MS_sleI R R.came.1 R.came.2
theorem MS_mSpo {K : Int} {r : Int → Int} (R : MR K r) : MS K r (mSpo r) := by
  have hs := R.sets
  have hd := R.day
  by_cases h : 0 ≤ r 0 - r 22 + 1
  · exact MS_spoI R h (by omega)
  · rw [← mSpo_i (i := 0) (by omega)]; exact MS.of R
theorem MS_mBeg1 {K : Int} {r : Int → Int} (R : MR K r) : MS K r (mBeg1 r) := by
  have a := MS_mSpo R
  have b := a.tr (MS_leaI a.1 (d := r 0) a.1.came.1 a.1.came.2)
  exact b.tr (MS_latI b.1 (d := r 0) b.1.came.1 b.1.came.2)
theorem MS_mBeg {K : Int} {r : Int → Int} (R : MR K r) (hd : r 0 ≤ 1059) : MS (K + 50) r (mBeg r) := by
  have a := MS_mBeg1 R
  have d := R.day
  unfold mBeg; split
  · have b := MS_comI a.1 (d := r 0) d.1 (by omega) a.1.came.1 a.1.came.2
    have hs := b.1.sets
    have c := MS_mBr (d := r 0) d.1 (by omega) 12 K _ (mCom (mBeg1 r) (r 0) 23) b.1 hs.2.2.2.2.1.1
    have e := a.tr (b.tr c)
    exact ⟨e.1.mono (by have := hs.2.2.2.2.1.2; show K + mCom (mBeg1 r) (r 0) 23 ≤ _; unfold mCom; omega), e.2⟩
  · exact ⟨a.1.mono (by omega), a.2⟩
theorem MS_mMid {K : Int} {r : Int → Int} (R : MR K r) (hd : r 0 ≤ 1059) : MS (K + 149) r (mMid r) := by
  have a := MS_mBeg R hd
  have d := R.day
  unfold mMid; split
  · have b := MS_mFly a.1 (d := r 0) d.1 (by omega)
    have e := a.tr b
    exact ⟨e.1.mono (by omega), e.2⟩
  · exact ⟨a.1.mono (by omega), a.2⟩
theorem MS_mNig {K : Int} {r : Int → Int} (R : MR K r) (hd : r 0 ≤ 1059) : MS (K + 149) r (mNig r) := by
  have a := MS_mMid R hd
  have b := a.tr (MS_mEat a.1)
  exact b.tr (MS_mSle b.1)
theorem MR_mPas {K : Int} {r : Int → Int} (R : MR K r) (hd : r 0 ≤ 1059) : MR (K + 149) (mPas r) ∧ mPas r 0 = r 0 + 1 ∧ ∀ i, kept i → i ≠ 0 → mPas r i = r i := by
  have a := MS_mNig R hd
  have d := R.day
  have e : mNig r 0 = r 0 := a.2 0 (Or.inl rfl)
  refine ⟨a.1.uDay (by omega), by show up1 _ 0 (mNig r 0 + 1) 0 = _; rw [up1_same, e], fun i h n => ?_⟩
  show up1 _ 0 (mNig r 0 + 1) i = _
  rw [up1_ne n]; exact a.2 i h
