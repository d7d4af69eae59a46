/-! THE REFERENCE's ROW OF NUMBERS: its bounds, and what its methods say of it -/
def mBk (w v : Int) : Prop := if w = 0 then 0 ≤ v ∧ v ≤ 4 else if w = 1 then 0 ≤ v ∧ v ≤ 899 else if w = 2 then 0 ≤ v ∧ v ≤ 9 else if w = 3 then 0 ≤ v ∧ v ≤ 9 else if w = 5 then 0 ≤ v ∧ v ≤ 8019 else if w = 6 then -1000005 ≤ v ∧ v ≤ 1060 else True
def mB (K i v : Int) : Prop :=
  if i = 0 then 0 ≤ v ∧ v ≤ 1060 else if i = 1 then 0 ≤ v ∧ v ≤ 80 else if i = 2 then 0 ≤ v ∧ v ≤ K else if i = 3 then 0 ≤ v ∧ v ≤ 12 else if i = 4 then v = 0 ∨ v = 1 else
  if i < 17 then True else if i < 27 then stV 1 (i - 17).toNat ≤ v ∧ v ≤ stV 2 (i - 17).toNat else if i < 39 then 0 ≤ v ∧ v ≤ 1 else if i < 51 then 0 ≤ v ∧ v ≤ 99 else
  if i < 611 then mBk ((i - 51) % 7) v else if i < 1675 then 0 ≤ v ∧ v ≤ 7 else 0 ≤ v ∧ v ≤ K
/-- what a row of the reference keeps to; K: how much food at most -/
def MR (K : Int) (r : Int → Int) : Prop := ∀ i, 0 ≤ i → i < 2739 → mB K i (r i)
theorem MR.up {K : Int} {r : Int → Int} (R : MR K r) {i v : Int} (h : 0 ≤ i → i < 2739 → mB K i v) : MR K (up1 r i v) := by
  intro k k0 k1
  unfold up1; split
  · rename_i e; subst e; exact h k0 k1
  · exact R k k0 k1
theorem MR.day {K : Int} {r : Int → Int} (R : MR K r) : 0 ≤ r 0 ∧ r 0 ≤ 1060 := R 0 (by decide) (by decide)
theorem MR.came {K : Int} {r : Int → Int} (R : MR K r) : 0 ≤ r 1 ∧ r 1 ≤ 80 := R 1 (by decide) (by decide)
theorem MR.dry {K : Int} {r : Int → Int} (R : MR K r) : 0 ≤ r 2 ∧ r 2 ≤ K := R 2 (by decide) (by decide)
theorem MR.wait {K : Int} {r : Int → Int} (R : MR K r) : 0 ≤ r 3 ∧ r 3 ≤ 12 := R 3 (by decide) (by decide)
theorem MR.cal {K : Int} {r : Int → Int} (R : MR K r) : r 4 = 0 ∨ r 4 = 1 := R 4 (by decide) (by decide)
theorem mB_free {K i v : Int} (h0 : 4 < i) (h1 : i < 17) : mB K i v := by
  unfold mB; rw [if_neg (by omega), if_neg (by omega), if_neg (by omega), if_neg (by omega), if_neg (by omega), if_pos h1]; trivial
theorem mB_set {K i v : Int} (h0 : 0 ≤ i) (h1 : i < 10) : mB K (17 + i) v = (stV 1 i.toNat ≤ v ∧ v ≤ stV 2 i.toNat) := by
  unfold mB; rw [if_neg (by omega), if_neg (by omega), if_neg (by omega), if_neg (by omega), if_neg (by omega), if_neg (by omega), if_pos (by omega), show 17 + i - 17 = i by omega]
theorem mB_kin {K i v : Int} (h0 : 0 ≤ i) (h1 : i < 12) : mB K (27 + i) v = (0 ≤ v ∧ v ≤ 1) := by
  unfold mB; rw [if_neg (by omega), if_neg (by omega), if_neg (by omega), if_neg (by omega), if_neg (by omega), if_neg (by omega), if_neg (by omega), if_pos (by omega)]
theorem mB_por {K i v : Int} (h0 : 0 ≤ i) (h1 : i < 12) : mB K (39 + i) v = (0 ≤ v ∧ v ≤ 99) := by
  unfold mB; rw [if_neg (by omega), if_neg (by omega), if_neg (by omega), if_neg (by omega), if_neg (by omega), if_neg (by omega), if_neg (by omega), if_neg (by omega), if_pos (by omega)]
theorem mB_bk {K b w v : Int} (b0 : 0 ≤ b) (b1 : b < 80) (w0 : 0 ≤ w) (w1 : w < 7) : mB K (51 + 7 * b + w) v = mBk w v := by
  unfold mB; rw [if_neg (by omega), if_neg (by omega), if_neg (by omega), if_neg (by omega), if_neg (by omega), if_neg (by omega), if_neg (by omega), if_neg (by omega), if_neg (by omega), if_pos (by omega), show (51 + 7 * b + w - 51) % 7 = w by omega]
theorem mB_wea {K d v : Int} (h0 : 0 ≤ d) (h1 : d < 1064) : mB K (611 + d) v = (0 ≤ v ∧ v ≤ 7) := by
  unfold mB; rw [if_neg (by omega), if_neg (by omega), if_neg (by omega), if_neg (by omega), if_neg (by omega), if_neg (by omega), if_neg (by omega), if_neg (by omega), if_neg (by omega), if_neg (by omega), if_pos (by omega)]
theorem mB_fre {K d v : Int} (h0 : 0 ≤ d) : mB K (1675 + d) v = (0 ≤ v ∧ v ≤ K) := by
  unfold mB; rw [if_neg (by omega), if_neg (by omega), if_neg (by omega), if_neg (by omega), if_neg (by omega), if_neg (by omega), if_neg (by omega), if_neg (by omega), if_neg (by omega), if_neg (by omega), if_neg (by omega)]
theorem MR.set {K : Int} {r : Int → Int} (R : MR K r) {i : Int} (h0 : 0 ≤ i) (h1 : i < 10) : stV 1 i.toNat ≤ r (17 + i) ∧ r (17 + i) ≤ stV 2 i.toNat := (mB_set h0 h1).mp (R (17 + i) (by omega) (by omega))
theorem stV_in {i v : Int} (h0 : 0 ≤ i) (h1 : i < 10) (h2 : stV 1 i.toNat ≤ v ∧ v ≤ stV 2 i.toNat) : 0 ≤ v ∧ v ≤ 999 := by
  have k : i = 0 ∨ i = 1 ∨ i = 2 ∨ i = 3 ∨ i = 4 ∨ i = 5 ∨ i = 6 ∨ i = 7 ∨ i = 8 ∨ i = 9 := by omega
  rcases k with rfl | rfl | rfl | rfl | rfl | rfl | rfl | rfl | rfl | rfl <;> simp [stV] at h2 <;> omega
theorem MR.set' {K : Int} {r : Int → Int} (R : MR K r) {i : Int} (h0 : 0 ≤ i) (h1 : i < 10) : 0 ≤ r (17 + i) ∧ r (17 + i) ≤ 999 := stV_in h0 h1 (R.set h0 h1)
theorem MR.sets {K : Int} {r : Int → Int} (R : MR K r) : (1 ≤ r 17 ∧ r 17 ≤ 40) ∧ (0 ≤ r 18 ∧ r 18 ≤ 20) ∧ (0 ≤ r 21 ∧ r 21 ≤ 30) ∧ (1 ≤ r 22 ∧ r 22 ≤ 30) ∧ (0 ≤ r 23 ∧ r 23 ≤ 50) ∧ (0 ≤ r 24 ∧ r 24 ≤ 99) ∧ (0 ≤ r 25 ∧ r 25 ≤ 20) := by
  have h0 := R.set (i := 0) (by decide) (by decide)
  have h1 := R.set (i := 1) (by decide) (by decide)
  have h4 := R.set (i := 4) (by decide) (by decide)
  have h5 := R.set (i := 5) (by decide) (by decide)
  have h6 := R.set (i := 6) (by decide) (by decide)
  have h7 := R.set (i := 7) (by decide) (by decide)
  have h8 := R.set (i := 8) (by decide) (by decide)
  exact ⟨h0, h1, h4, h5, h6, h7, h8⟩
theorem MR.kin {K : Int} {r : Int → Int} (R : MR K r) {i : Int} (h0 : 0 ≤ i) (h1 : i < 12) : 0 ≤ r (27 + i) ∧ r (27 + i) ≤ 1 := (mB_kin h0 h1).mp (R (27 + i) (by omega) (by omega))
theorem MR.por {K : Int} {r : Int → Int} (R : MR K r) {i : Int} (h0 : 0 ≤ i) (h1 : i < 12) : 0 ≤ r (39 + i) ∧ r (39 + i) ≤ 99 := (mB_por h0 h1).mp (R (39 + i) (by omega) (by omega))
theorem MR.st {K : Int} {r : Int → Int} (R : MR K r) {b : Int} (b0 : 0 ≤ b) (b1 : b < 80) : 0 ≤ r (51 + 7 * b + 0) ∧ r (51 + 7 * b + 0) ≤ 4 := by
  have h := (mB_bk b0 b1 (by decide) (by decide)).mp (R (51 + 7 * b + 0) (by omega) (by omega))
  unfold mBk at h; rw [if_pos rfl] at h; exact h
theorem MR.arr {K : Int} {r : Int → Int} (R : MR K r) {b : Int} (b0 : 0 ≤ b) (b1 : b < 80) : 0 ≤ r (51 + 7 * b + 1) ∧ r (51 + 7 * b + 1) ≤ 899 := by
  have h := (mB_bk b0 b1 (by decide) (by decide)).mp (R (51 + 7 * b + 1) (by omega) (by omega))
  unfold mBk at h; rw [if_neg (by decide), if_pos rfl] at h; exact h
theorem MR.nig {K : Int} {r : Int → Int} (R : MR K r) {b : Int} (b0 : 0 ≤ b) (b1 : b < 80) : 0 ≤ r (51 + 7 * b + 2) ∧ r (51 + 7 * b + 2) ≤ 9 := by
  have h := (mB_bk b0 b1 (by decide) (by decide)).mp (R (51 + 7 * b + 2) (by omega) (by omega))
  unfold mBk at h; rw [if_neg (by decide), if_neg (by decide), if_pos rfl] at h; exact h
theorem MR.per {K : Int} {r : Int → Int} (R : MR K r) {b : Int} (b0 : 0 ≤ b) (b1 : b < 80) : 0 ≤ r (51 + 7 * b + 3) ∧ r (51 + 7 * b + 3) ≤ 9 := by
  have h := (mB_bk b0 b1 (by decide) (by decide)).mp (R (51 + 7 * b + 3) (by omega) (by omega))
  unfold mBk at h; rw [if_neg (by decide), if_neg (by decide), if_neg (by decide), if_pos rfl] at h; exact h
theorem MR.paid {K : Int} {r : Int → Int} (R : MR K r) {b : Int} (b0 : 0 ≤ b) (b1 : b < 80) : 0 ≤ r (51 + 7 * b + 5) ∧ r (51 + 7 * b + 5) ≤ 8019 := by
  have h := (mB_bk b0 b1 (by decide) (by decide)).mp (R (51 + 7 * b + 5) (by omega) (by omega))
  unfold mBk at h; rw [if_neg (by decide), if_neg (by decide), if_neg (by decide), if_neg (by decide), if_pos rfl] at h; exact h
theorem MR.cam {K : Int} {r : Int → Int} (R : MR K r) {b : Int} (b0 : 0 ≤ b) (b1 : b < 80) : -1000005 ≤ r (51 + 7 * b + 6) ∧ r (51 + 7 * b + 6) ≤ 1060 := by
  have h := (mB_bk b0 b1 (by decide) (by decide)).mp (R (51 + 7 * b + 6) (by omega) (by omega))
  unfold mBk at h; rw [if_neg (by decide), if_neg (by decide), if_neg (by decide), if_neg (by decide), if_neg (by decide), if_pos rfl] at h; exact h
theorem MR.wea {K : Int} {r : Int → Int} (R : MR K r) {d : Int} (h0 : 0 ≤ d) (h1 : d < 1064) : 0 ≤ r (611 + d) ∧ r (611 + d) ≤ 7 := (mB_wea h0 h1).mp (R (611 + d) (by omega) (by omega))
theorem MR.fre {K : Int} {r : Int → Int} (R : MR K r) {d : Int} (h0 : 0 ≤ d) (h1 : d < 1064) : 0 ≤ r (1675 + d) ∧ r (1675 + d) ≤ K := (mB_fre h0).mp (R (1675 + d) (by omega) (by omega))
theorem MR.free {K : Int} {r : Int → Int} (R : MR K r) {i v : Int} (h0 : 4 < i) (h1 : i < 17) : MR K (up1 r i v) := R.up fun _ _ => mB_free h0 h1
theorem MR.uSt {K : Int} {r : Int → Int} (R : MR K r) {b v : Int} (b0 : 0 ≤ b) (b1 : b < 80) (h : 0 ≤ v ∧ v ≤ 4) : MR K (up1 r (51 + 7 * b + 0) v) := R.up fun _ _ => (mB_bk b0 b1 (by decide) (by decide)).mpr h
theorem MR.uNig {K : Int} {r : Int → Int} (R : MR K r) {b v : Int} (b0 : 0 ≤ b) (b1 : b < 80) (h : 0 ≤ v ∧ v ≤ 9) : MR K (up1 r (51 + 7 * b + 2) v) := R.up fun _ _ => (mB_bk b0 b1 (by decide) (by decide)).mpr h
theorem MR.uArr {K : Int} {r : Int → Int} (R : MR K r) {b v : Int} (b0 : 0 ≤ b) (b1 : b < 80) (h : 0 ≤ v ∧ v ≤ 899) : MR K (up1 r (51 + 7 * b + 1) v) := R.up fun _ _ => (mB_bk b0 b1 (by decide) (by decide)).mpr h
theorem MR.uPer {K : Int} {r : Int → Int} (R : MR K r) {b v : Int} (b0 : 0 ≤ b) (b1 : b < 80) (h : 0 ≤ v ∧ v ≤ 9) : MR K (up1 r (51 + 7 * b + 3) v) := R.up fun _ _ => (mB_bk b0 b1 (by decide) (by decide)).mpr h
theorem MR.uSl {K : Int} {r : Int → Int} (R : MR K r) {b v : Int} (b0 : 0 ≤ b) (b1 : b < 80) : MR K (up1 r (51 + 7 * b + 4) v) := R.up fun _ _ => (mB_bk b0 b1 (by decide) (by decide)).mpr trivial
theorem MR.uPd {K : Int} {r : Int → Int} (R : MR K r) {b v : Int} (b0 : 0 ≤ b) (b1 : b < 80) (h : 0 ≤ v ∧ v ≤ 8019) : MR K (up1 r (51 + 7 * b + 5) v) := R.up fun _ _ => (mB_bk b0 b1 (by decide) (by decide)).mpr h
theorem MR.uCam {K : Int} {r : Int → Int} (R : MR K r) {b v : Int} (b0 : 0 ≤ b) (b1 : b < 80) (h : -1000005 ≤ v ∧ v ≤ 1060) : MR K (up1 r (51 + 7 * b + 6) v) := R.up fun _ _ => (mB_bk b0 b1 (by decide) (by decide)).mpr h
theorem MR.uDay {K : Int} {r : Int → Int} (R : MR K r) {v : Int} (h : 0 ≤ v ∧ v ≤ 1060) : MR K (up1 r 0 v) := R.up fun _ _ => h
theorem MR.uCame {K : Int} {r : Int → Int} (R : MR K r) {v : Int} (h : 0 ≤ v ∧ v ≤ 80) : MR K (up1 r 1 v) := R.up fun _ _ => h
theorem MR.uDry {K : Int} {r : Int → Int} (R : MR K r) {v : Int} (h : 0 ≤ v ∧ v ≤ K) : MR K (up1 r 2 v) := R.up fun _ _ => h
theorem MR.uWait {K : Int} {r : Int → Int} (R : MR K r) {v : Int} (h : 0 ≤ v ∧ v ≤ 12) : MR K (up1 r 3 v) := R.up fun _ _ => h
theorem MR.uCal {K : Int} {r : Int → Int} (R : MR K r) {v : Int} (h : v = 0 ∨ v = 1) : MR K (up1 r 4 v) := R.up fun _ _ => h
theorem MR.uSet {K : Int} {r : Int → Int} (R : MR K r) {i v : Int} (h0 : 0 ≤ i) (h1 : i < 10) (h : stV 1 i.toNat ≤ v ∧ v ≤ stV 2 i.toNat) : MR K (up1 r (17 + i) v) := R.up fun _ _ => (mB_set h0 h1).mpr h
theorem MR.uKin {K : Int} {r : Int → Int} (R : MR K r) {i v : Int} (h0 : 0 ≤ i) (h1 : i < 12) (h : 0 ≤ v ∧ v ≤ 1) : MR K (up1 r (27 + i) v) := R.up fun _ _ => (mB_kin h0 h1).mpr h
theorem MR.uPor {K : Int} {r : Int → Int} (R : MR K r) {i v : Int} (h0 : 0 ≤ i) (h1 : i < 12) (h : 0 ≤ v ∧ v ≤ 99) : MR K (up1 r (39 + i) v) := R.up fun _ _ => (mB_por h0 h1).mpr h
theorem MR.uWea {K : Int} {r : Int → Int} (R : MR K r) {d v : Int} (h0 : 0 ≤ d) (h1 : d < 1064) (h : 0 ≤ v ∧ v ≤ 7) : MR K (up1 r (611 + d) v) := R.up fun _ _ => (mB_wea h0 h1).mpr h
theorem MR.uFre {K : Int} {r : Int → Int} (R : MR K r) {d v : Int} (h0 : 0 ≤ d) (h : 0 ≤ v ∧ v ≤ K) : MR K (up1 r (1675 + d) v) := R.up fun _ _ => (mB_fre h0).mpr h
theorem MR.mono {K : Int} {r : Int → Int} (R : MR K r) {K' : Int} (hK : K ≤ K') : MR K' r := by
  intro i i0 i1
  have h := R i i0 i1
  unfold mB at h ⊢
  split
  · rwa [if_pos (by assumption)] at h
  rw [if_neg (by assumption)] at h; split
  · rwa [if_pos (by assumption)] at h
  rw [if_neg (by assumption)] at h; split
  · rw [if_pos (by assumption)] at h; omega
  rw [if_neg (by assumption)] at h; split
  · rwa [if_pos (by assumption)] at h
  rw [if_neg (by assumption)] at h; split
  · rwa [if_pos (by assumption)] at h
  rw [if_neg (by assumption)] at h; split
  · trivial
  rw [if_neg (by assumption)] at h; split
  · rwa [if_pos (by assumption)] at h
  rw [if_neg (by assumption)] at h; split
  · rwa [if_pos (by assumption)] at h
  rw [if_neg (by assumption)] at h; split
  · rwa [if_pos (by assumption)] at h
  rw [if_neg (by assumption)] at h; split
  · rwa [if_pos (by assumption)] at h
  rw [if_neg (by assumption)] at h; split
  · rwa [if_pos (by assumption)] at h
  rw [if_neg (by assumption)] at h; omega
theorem MR.kin0 {K : Int} {r : Int → Int} (R : MR K r) : 0 ≤ r 27 ∧ r 27 ≤ 1 := R.kin (i := 0) (by decide) (by decide)
theorem MR.por0 {K : Int} {r : Int → Int} (R : MR K r) : 0 ≤ r 39 ∧ r 39 ≤ 99 := R.por (i := 0) (by decide) (by decide)
/-! sums over the bookings -/
abbrev mMany (r : Int → Int) (w : Int) : Int → Int := fun b => if r (51 + 7 * b + 0) = w then 1 else 0
abbrev mThere (r : Int → Int) : Int → Int := fun b => if r (51 + 7 * b + 0) = 1 then r (51 + 7 * b + 3) else 0
abbrev mHas (r : Int → Int) (n b : Int) : Prop := r (51 + 7 * b + 0) ≤ 1 ∧ r (51 + 7 * b + 1) ≤ n ∧ n ≤ r (51 + 7 * b + 1) + r (51 + 7 * b + 2) - 1
abbrev mBed (r : Int → Int) (n : Int) : Int → Int := fun b => if mHas r n b then r (51 + 7 * b + 3) else 0
def nPer (r : Int → Int) : Int := sumI (mThere r) (r 1)
def mTk (r : Int → Int) (n : Int) : Int := sumI (mBed r n) (r 1)
theorem nPer_r {K : Int} {r : Int → Int} (R : MR K r) : 0 ≤ nPer r ∧ nPer r ≤ 720 := by
  have rm := R.came
  have h := sumI_le (f := mThere r) (lo := 0) (hi := 9) rm.1 (fun k a b => by
    have := R.per a (show k < 80 by omega)
    show 0 ≤ (if r (51 + 7 * k + 0) = 1 then r (51 + 7 * k + 3) else 0) ∧ (if r (51 + 7 * k + 0) = 1 then r (51 + 7 * k + 3) else 0) ≤ 9
    split <;> omega)
  unfold nPer; omega
theorem mTk_r {K : Int} {r : Int → Int} (R : MR K r) {n : Int} : 0 ≤ mTk r n ∧ mTk r n ≤ 720 := by
  have rm := R.came
  have h := sumI_le (f := mBed r n) (lo := 0) (hi := 9) rm.1 (fun k a b => by
    have := R.per a (show k < 80 by omega)
    show 0 ≤ (if mHas r n k then r (51 + 7 * k + 3) else 0) ∧ (if mHas r n k then r (51 + 7 * k + 3) else 0) ≤ 9
    split <;> omega)
  unfold mTk; omega
abbrev mFits (r : Int → Int) (x y p : Int) : Prop := allI (fun i => decide (mTk r (x + i) + p ≤ r 17)) (y - x) = true
